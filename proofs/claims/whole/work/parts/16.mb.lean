set_option maxHeartbeats 4000000 in
set_option maxRecDepth 100000 in
theorem wX1_press_L21 {p : Program} {l : Launch} {e : Env} {s : State} {m : MethodId} {args : Array Value} {below : List Frame} {meth : Method} {c : Code} {Q : State → Prop} {A : Nat → Prop} (dC : Nat → ClassId) (dI : Nat → Nat → Nat) (cI cZ cL : ClassId) (hm b1 b2 b3 b4 b5 b6 b7 b8 b9 : Nat) (hx : p.tables.exec = Jvm.exec) (hb : c.code = cX1_press) (hml : c.maxLocals = 6) (hown : s.vm.findClass RX1 = some m.cls) (hts : ∀ w ∈ wsX1_press, w.before args s = true) (hK : va_K (dC, dI) vwCl (tyA cI cZ cL) s) (hA : ∀ q : Nat, s.heap.size ≤ q → A q) (x1_ : Int32) (x2_ : Int32) (x3_ : Int32) (th : Int32) (mk : Int32) (us : Nat → Int32) (fi : Nat → Int32) (se : Nat → Int32) (ki : Nat → Int32) (li : Nat → Int32) (ct : Int32) (od : Nat → Int32) (ne : Nat → Int32) (ro : Nat → Int32) (n : Nat) :
    ∀ (x4_ : Int32) (va : Nat → Int32) (x4_' : Int32) (va' : Nat → Int32), fX1_press_L21 x3_ us fi ki li n x4_ va = some (x4_', va') → ∀ (H : Heap) (locs : List Loc) (ls : Array Slot), va_P (dC, dI) vwCl (wM cI cZ hm b1 b2 b3 b4 b5 b6 b7 b8 b9 th mk us fi se ki va li ct od ne ro) H → va_D A (wM cI cZ hm b1 b2 b3 b4 b5 b6 b7 b8 b9 th mk us fi se ki va li ct od ne ro) → va_S A s.heap H locs → lv_has ls 6 [(0, .ref hm), (1, .int x1_), (2, .int x2_), (3, .int x3_), (4, .int x4_)] → (∀ (H : Heap) (locs : List Loc) (ls : Array Slot), va_P (dC, dI) vwCl (wM cI cZ hm b1 b2 b3 b4 b5 b6 b7 b8 b9 th mk us fi se ki va' li ct od ne ro) H → va_D A (wM cI cZ hm b1 b2 b3 b4 b5 b6 b7 b8 b9 th mk us fi se ki va' li ct od ne ro) → va_S A s.heap H locs → lv_has ls 6 [(0, .ref hm), (1, .int x1_), (2, .int x2_), (3, .int x3_), (4, .int x4_')] → W p l e (headSpec wsX1_press rmX1_press).room s m args below meth c H locs 0 0 Q (F0 m 100 ls [])) → W p l e (headSpec wsX1_press rmX1_press).room s m args below meth c H locs 0 0 Q (F0 m 21 ls []) := by
  induction n with
  | zero => intro x4_ va x4_' va' hf; cases hf
  | succ n ih =>
    intro x4_ va x4_' va' hf H locs ls hP hD hS hl k0
    have hf := (fX1_press_L21_s x3_ us fi ki li n x4_ va).symm.trans hf
    refine lv_iload hx hb dX1_press_21 (lv_at hl 4 rfl) ?_
    refine lv_aload_n hx hb dX1_press_23 rfl (lv_at hl 0 rfl) ?_
    refine va_get (D := (dC, dI)) (ci := 1) (v := .ref b2) (C := RX1) (T := TX1) (N := 12) hx hb hts (fun w hw => List.mem_cons_of_mem _ (inX1 w hw)) hown hK hP 0 rfl rfl 3 (by decide) (hts _ (List.mem_cons_of_mem _ mw_447)) (fun _ h9 => h9) rfl dX1_press_24 ?_
    refine lv_iload_n hx hb dX1_press_27 rfl (lv_at hl 3 rfl) ?_
    obtain ⟨v4, hv, hf⟩ := bd hf
    refine q_ild hx hb hK hP 2 0 rfl rfl hv dX1_press_28 ?_
    refine lv_icmp_ge (tgt := 100) hx hb dX1_press_29 (by decide) (fun h5 => ?_) (fun h5 => ?_)
    · have hf := ift h5 hf
      cases hf
      exact k0 _ _ _ hP hD hS (lv_sub hl [0, 1, 2, 3, 4] rfl)
    · have hf := ifn h5 hf
      refine lv_aload_n hx hb dX1_press_32 rfl (lv_at hl 0 rfl) ?_
      refine va_get (D := (dC, dI)) (ci := 1) (v := .ref b1) (C := RX1) (T := TX1) (N := 12) hx hb hts (fun w hw => List.mem_cons_of_mem _ (inX1 w hw)) hown hK hP 0 rfl rfl 2 (by decide) (hts _ (List.mem_cons_of_mem _ mw_446)) (fun _ h9 => h9) rfl dX1_press_33 ?_
      refine lv_iload_n hx hb dX1_press_36 rfl (lv_at hl 3 rfl) ?_
      obtain ⟨v6, hv, hf⟩ := bd hf
      refine q_zld hx hb hK hP 1 1 rfl rfl hv dX1_press_37 ?_
      refine lv_if_eq (tgt := 100) hx hb dX1_press_38 (by decide) (fun h7 => ?_) (fun h7 => ?_)
      · have hf := ift h7 hf
        cases hf
        exact k0 _ _ _ hP hD hS (lv_sub hl [0, 1, 2, 3, 4] rfl)
      · have hf := ifn h7 hf
        refine lv_bipush (v := (6 : Int32)) hx hb dX1_press_41 (by decide) ?_
        refine lv_iload_n hx hb dX1_press_43 rfl (lv_at hl 3 rfl) ?_
        refine lv_imul hx hb dX1_press_44 ?_
        refine lv_iload hx hb dX1_press_45 (lv_at hl 4 rfl) ?_
        refine lv_iadd hx hb dX1_press_47 ?_
        refine lv_istore hx hb dX1_press_48 hl (by decide) rfl (fun ls hl => ?_)
        have hl : lv_has ls 6 [(5, .int (((6 : Int32) * x3_) + x4_)), (0, .ref hm), (1, .int x1_), (2, .int x2_), (3, .int x3_), (4, .int x4_)] := hl
        refine lv_aload_n hx hb dX1_press_50 rfl (lv_at hl 1 rfl) ?_
        refine va_get (D := (dC, dI)) (ci := 1) (v := .ref b4) (C := RX1) (T := TX1) (N := 12) hx hb hts (fun w hw => List.mem_cons_of_mem _ (inX1 w hw)) hown hK hP 0 rfl rfl 5 (by decide) (hts _ (List.mem_cons_of_mem _ mw_449)) (fun _ h9 => h9) rfl dX1_press_51 ?_
        refine lv_iload hx hb dX1_press_54 (lv_at hl 0 rfl) ?_
        obtain ⟨v8, hv, hf⟩ := bd hf
        refine q_ild hx hb hK hP 4 0 rfl rfl hv dX1_press_56 ?_
        refine lv_iconst (v := (2 : Int32)) hx hb dX1_press_57 (by decide) ?_
        refine lv_icmp_ne (tgt := 94) hx hb dX1_press_58 (by decide) (fun h9 => ?_) (fun h9 => ?_)
        · have hf := ifn h9 hf
          refine lv_iinc (v := x4_ + (1 : Int32)) hx hb dX1_press_94 hl (k := 5) rfl (by rfl) (by decide) rfl (fun ls hl => ?_)
          have hl : lv_has ls 6 [(4, .int (x4_ + (1 : Int32))), (5, .int (((6 : Int32) * x3_) + x4_)), (0, .ref hm), (1, .int x1_), (2, .int x2_), (3, .int x3_)] := hl
          refine lv_goto (tgt := 21) hx hb dX1_press_97 (by decide) ?_
          exact ih _ _ _ _ hf _ _ _ hP hD hS (lv_sub hl [2, 3, 4, 5, 0] rfl) k0
        · have hf := ift h9 hf
          refine lv_aload_n hx hb dX1_press_61 rfl (lv_at hl 1 rfl) ?_
          refine va_get (D := (dC, dI)) (ci := 1) (v := .ref b5) (C := RX1) (T := TX1) (N := 12) hx hb hts (fun w hw => List.mem_cons_of_mem _ (inX1 w hw)) hown hK hP 0 rfl rfl 6 (by decide) (hts _ (List.mem_cons_of_mem _ mw_450)) (fun _ h9 => h9) rfl dX1_press_62 ?_
          refine lv_iload hx hb dX1_press_65 (lv_at hl 0 rfl) ?_
          obtain ⟨v10, hv, hf⟩ := bd hf
          refine q_ild hx hb hK hP 5 0 rfl rfl hv dX1_press_67 ?_
          refine lv_if_lt (tgt := 94) hx hb dX1_press_68 (by decide) (fun h11 => ?_) (fun h11 => ?_)
          · have hf := ift h11 hf
            refine lv_iinc (v := x4_ + (1 : Int32)) hx hb dX1_press_94 hl (k := 5) rfl (by rfl) (by decide) rfl (fun ls hl => ?_)
            have hl : lv_has ls 6 [(4, .int (x4_ + (1 : Int32))), (5, .int (((6 : Int32) * x3_) + x4_)), (0, .ref hm), (1, .int x1_), (2, .int x2_), (3, .int x3_)] := hl
            refine lv_goto (tgt := 21) hx hb dX1_press_97 (by decide) ?_
            exact ih _ _ _ _ hf _ _ _ hP hD hS (lv_sub hl [2, 3, 4, 5, 0] rfl) k0
          · have hf := ifn h11 hf
            refine lv_aload_n hx hb dX1_press_71 rfl (lv_at hl 1 rfl) ?_
            refine va_get (D := (dC, dI)) (ci := 1) (v := .ref b6) (C := RX1) (T := TX1) (N := 12) hx hb hts (fun w hw => List.mem_cons_of_mem _ (inX1 w hw)) hown hK hP 0 rfl rfl 7 (by decide) (hts _ (List.mem_cons_of_mem _ mw_451)) (fun _ h9 => h9) rfl dX1_press_72 ?_
            refine lv_aload_n hx hb dX1_press_75 rfl (lv_at hl 1 rfl) ?_
            refine va_get (D := (dC, dI)) (ci := 1) (v := .ref b5) (C := RX1) (T := TX1) (N := 12) hx hb hts (fun w hw => List.mem_cons_of_mem _ (inX1 w hw)) hown hK hP 0 rfl rfl 6 (by decide) (hts _ (List.mem_cons_of_mem _ mw_450)) (fun _ h9 => h9) rfl dX1_press_76 ?_
            refine lv_iload hx hb dX1_press_79 (lv_at hl 0 rfl) ?_
            obtain ⟨v12, hv, hf⟩ := bd hf
            refine q_ild hx hb hK hP 5 0 rfl rfl hv dX1_press_81 ?_
            obtain ⟨v13, hv, hf⟩ := bd hf
            refine q_zld hx hb hK hP 6 1 rfl rfl hv dX1_press_82 ?_
            refine lv_if_ne (tgt := 94) hx hb dX1_press_83 (by decide) (fun h14 => ?_) (fun h14 => ?_)
            · have hf := ifn h14 hf
              refine lv_iinc (v := x4_ + (1 : Int32)) hx hb dX1_press_94 hl (k := 5) rfl (by rfl) (by decide) rfl (fun ls hl => ?_)
              have hl : lv_has ls 6 [(4, .int (x4_ + (1 : Int32))), (5, .int (((6 : Int32) * x3_) + x4_)), (0, .ref hm), (1, .int x1_), (2, .int x2_), (3, .int x3_)] := hl
              refine lv_goto (tgt := 21) hx hb dX1_press_97 (by decide) ?_
              exact ih _ _ _ _ hf _ _ _ hP hD hS (lv_sub hl [2, 3, 4, 5, 0] rfl) k0
            · have hf := ift h14 hf
              refine lv_aload_n hx hb dX1_press_86 rfl (lv_at hl 1 rfl) ?_
              refine va_get (D := (dC, dI)) (ci := 1) (v := .ref b5) (C := RX1) (T := TX1) (N := 12) hx hb hts (fun w hw => List.mem_cons_of_mem _ (inX1 w hw)) hown hK hP 0 rfl rfl 6 (by decide) (hts _ (List.mem_cons_of_mem _ mw_450)) (fun _ h9 => h9) rfl dX1_press_87 ?_
              refine lv_iload hx hb dX1_press_90 (lv_at hl 0 rfl) ?_
              refine lv_iconst (v := (-1 : Int32)) hx hb dX1_press_92 (by decide) ?_
              obtain ⟨va_15, hv, hf⟩ := bd hf
              refine q_ist hx hb hK hP hD hS 5 0 rfl rfl hv dX1_press_93 (fun H locs hP hD hS => ?_)
              have hP : va_P (dC, dI) vwCl (wM cI cZ hm b1 b2 b3 b4 b5 b6 b7 b8 b9 th mk us fi se ki va_15 li ct od ne ro) _ := hP
              have hD : va_D A (wM cI cZ hm b1 b2 b3 b4 b5 b6 b7 b8 b9 th mk us fi se ki va_15 li ct od ne ro) := hD
              refine lv_iinc (v := x4_ + (1 : Int32)) hx hb dX1_press_94 hl (k := 5) rfl (by rfl) (by decide) rfl (fun ls hl => ?_)
              have hl : lv_has ls 6 [(4, .int (x4_ + (1 : Int32))), (5, .int (((6 : Int32) * x3_) + x4_)), (0, .ref hm), (1, .int x1_), (2, .int x2_), (3, .int x3_)] := hl
              refine lv_goto (tgt := 21) hx hb dX1_press_97 (by decide) ?_
              exact ih _ _ _ _ hf _ _ _ hP hD hS (lv_sub hl [2, 3, 4, 5, 0] rfl) k0
set_option maxHeartbeats 4000000 in
set_option maxRecDepth 100000 in
theorem wX1_press_L11 {p : Program} {l : Launch} {e : Env} {s : State} {m : MethodId} {args : Array Value} {below : List Frame} {meth : Method} {c : Code} {Q : State → Prop} {A : Nat → Prop} (dC : Nat → ClassId) (dI : Nat → Nat → Nat) (cI cZ cL : ClassId) (hm b1 b2 b3 b4 b5 b6 b7 b8 b9 : Nat) (hx : p.tables.exec = Jvm.exec) (hb : c.code = cX1_press) (hml : c.maxLocals = 6) (hown : s.vm.findClass RX1 = some m.cls) (hts : ∀ w ∈ wsX1_press, w.before args s = true) (hK : va_K (dC, dI) vwCl (tyA cI cZ cL) s) (hA : ∀ q : Nat, s.heap.size ≤ q → A q) (x1_ : Int32) (x2_ : Int32) (th : Int32) (mk : Int32) (us : Nat → Int32) (fi : Nat → Int32) (se : Nat → Int32) (ki : Nat → Int32) (li : Nat → Int32) (ct : Int32) (od : Nat → Int32) (ne : Nat → Int32) (ro : Nat → Int32) (n : Nat) :
    ∀ (x3_ : Int32) (va : Nat → Int32) (x3_' : Int32) (va' : Nat → Int32), fX1_press_L11 us fi ki li n x3_ va = some (x3_', va') → ∀ (H : Heap) (locs : List Loc) (ls : Array Slot), va_P (dC, dI) vwCl (wM cI cZ hm b1 b2 b3 b4 b5 b6 b7 b8 b9 th mk us fi se ki va li ct od ne ro) H → va_D A (wM cI cZ hm b1 b2 b3 b4 b5 b6 b7 b8 b9 th mk us fi se ki va li ct od ne ro) → va_S A s.heap H locs → lv_has ls 6 [(0, .ref hm), (1, .int x1_), (2, .int x2_), (3, .int x3_)] → (∀ (H : Heap) (locs : List Loc) (ls : Array Slot), va_P (dC, dI) vwCl (wM cI cZ hm b1 b2 b3 b4 b5 b6 b7 b8 b9 th mk us fi se ki va' li ct od ne ro) H → va_D A (wM cI cZ hm b1 b2 b3 b4 b5 b6 b7 b8 b9 th mk us fi se ki va' li ct od ne ro) → va_S A s.heap H locs → lv_has ls 6 [(0, .ref hm), (1, .int x1_), (2, .int x2_), (3, .int x3_')] → W p l e (headSpec wsX1_press rmX1_press).room s m args below meth c H locs 0 0 Q (F0 m 106 ls [])) → W p l e (headSpec wsX1_press rmX1_press).room s m args below meth c H locs 0 0 Q (F0 m 11 ls []) := by
  induction n with
  | zero => intro x3_ va x3_' va' hf; cases hf
  | succ n ih =>
    intro x3_ va x3_' va' hf H locs ls hP hD hS hl k0
    have hf := (fX1_press_L11_s us fi ki li n x3_ va).symm.trans hf
    refine lv_iload_n hx hb dX1_press_11 rfl (lv_at hl 3 rfl) ?_
    refine lv_sipush (v := (128 : Int32)) hx hb dX1_press_12 (by decide) ?_
    refine lv_icmp_ge (tgt := 106) hx hb dX1_press_15 (by decide) (fun h3 => ?_) (fun h3 => ?_)
    · have hf := ift h3 hf
      cases hf
      exact k0 _ _ _ hP hD hS (lv_sub hl [0, 1, 2, 3] rfl)
    · have hf := ifn h3 hf
      refine lv_iconst (v := (0 : Int32)) hx hb dX1_press_18 (by decide) ?_
      refine lv_istore hx hb dX1_press_19 hl (by decide) rfl (fun ls hl => ?_)
      have hl : lv_has ls 6 [(4, .int (0 : Int32)), (0, .ref hm), (1, .int x1_), (2, .int x2_), (3, .int x3_)] := hl
      obtain ⟨⟨x_16, va_17⟩, hv, hf⟩ := bd hf
      dsimp only at hf
      refine wX1_press_L21 dC dI cI cZ cL hm b1 b2 b3 b4 b5 b6 b7 b8 b9 hx hb hml hown hts hK hA x1_ x2_ x3_ th mk us fi se ki li ct od ne ro FU (0 : Int32) va x_16 va_17 hv _ _ _ hP hD hS (lv_sub hl [1, 2, 3, 4, 0] rfl) (fun H locs ls hP hD hS hl => ?_)
      refine lv_iinc (v := x3_ + (1 : Int32)) hx hb dX1_press_100 hl (k := 3) rfl (by rfl) (by decide) rfl (fun ls hl => ?_)
      have hl : lv_has ls 6 [(3, .int (x3_ + (1 : Int32))), (0, .ref hm), (1, .int x1_), (2, .int x2_), (4, .int x_16)] := hl
      refine lv_goto (tgt := 11) hx hb dX1_press_103 (by decide) ?_
      exact ih _ _ _ _ hf _ _ _ hP hD hS (lv_sub hl [1, 2, 3, 0] rfl) k0
set_option maxHeartbeats 4000000 in
set_option maxRecDepth 100000 in
theorem wX1_press_L124 {p : Program} {l : Launch} {e : Env} {s : State} {m : MethodId} {args : Array Value} {below : List Frame} {meth : Method} {c : Code} {Q : State → Prop} {A : Nat → Prop} (dC : Nat → ClassId) (dI : Nat → Nat → Nat) (cI cZ cL : ClassId) (hm b1 b2 b3 b4 b5 b6 b7 b8 b9 : Nat) (hx : p.tables.exec = Jvm.exec) (hb : c.code = cX1_press) (hml : c.maxLocals = 6) (hown : s.vm.findClass RX1 = some m.cls) (hts : ∀ w ∈ wsX1_press, w.before args s = true) (hK : va_K (dC, dI) vwCl (tyA cI cZ cL) s) (hA : ∀ q : Nat, s.heap.size ≤ q → A q) (x1_ : Int32) (x2_ : Int32) (th : Int32) (mk : Int32) (fi : Nat → Int32) (se : Nat → Int32) (ki : Nat → Int32) (va : Nat → Int32) (li : Nat → Int32) (ct : Int32) (od : Nat → Int32) (ne : Nat → Int32) (ro : Nat → Int32) (n : Nat) :
    ∀ (x3_ : Int32) (us : Nat → Int32) (x3_' : Int32) (us' : Nat → Int32), fX1_press_L124 li n x3_ us = some (x3_', us') → ∀ (H : Heap) (locs : List Loc) (ls : Array Slot), va_P (dC, dI) vwCl (wM cI cZ hm b1 b2 b3 b4 b5 b6 b7 b8 b9 th mk us fi se ki va li ct od ne ro) H → va_D A (wM cI cZ hm b1 b2 b3 b4 b5 b6 b7 b8 b9 th mk us fi se ki va li ct od ne ro) → va_S A s.heap H locs → lv_has ls 6 [(0, .ref hm), (1, .int x1_), (2, .int x2_), (3, .int x3_)] → (∀ (H : Heap) (locs : List Loc) (ls : Array Slot), va_P (dC, dI) vwCl (wM cI cZ hm b1 b2 b3 b4 b5 b6 b7 b8 b9 th mk us' fi se ki va li ct od ne ro) H → va_D A (wM cI cZ hm b1 b2 b3 b4 b5 b6 b7 b8 b9 th mk us' fi se ki va li ct od ne ro) → va_S A s.heap H locs → lv_has ls 6 [(0, .ref hm), (1, .int x1_), (2, .int x2_), (3, .int x3_')] → W p l e (headSpec wsX1_press rmX1_press).room s m args below meth c H locs 0 0 Q (F0 m 166 ls [])) → W p l e (headSpec wsX1_press rmX1_press).room s m args below meth c H locs 0 0 Q (F0 m 124 ls []) := by
  induction n with
  | zero => intro x3_ us x3_' us' hf; cases hf
  | succ n ih =>
    intro x3_ us x3_' us' hf H locs ls hP hD hS hl k0
    have hf := (fX1_press_L124_s li n x3_ us).symm.trans hf
    refine lv_iload_n hx hb dX1_press_124 rfl (lv_at hl 3 rfl) ?_
    refine lv_sipush (v := (128 : Int32)) hx hb dX1_press_125 (by decide) ?_
    refine lv_icmp_ge (tgt := 166) hx hb dX1_press_128 (by decide) (fun h22 => ?_) (fun h22 => ?_)
    · have hf := ift h22 hf
      cases hf
      exact k0 _ _ _ hP hD hS (lv_sub hl [0, 1, 2, 3] rfl)
    · have hf := ifn h22 hf
      refine lv_aload_n hx hb dX1_press_131 rfl (lv_at hl 0 rfl) ?_
      refine va_get (D := (dC, dI)) (ci := 1) (v := .ref b1) (C := RX1) (T := TX1) (N := 12) hx hb hts (fun w hw => List.mem_cons_of_mem _ (inX1 w hw)) hown hK hP 0 rfl rfl 2 (by decide) (hts _ (List.mem_cons_of_mem _ mw_446)) (fun _ h9 => h9) rfl dX1_press_132 ?_
      refine lv_iload_n hx hb dX1_press_135 rfl (lv_at hl 3 rfl) ?_
      refine lv_aload_n hx hb dX1_press_136 rfl (lv_at hl 0 rfl) ?_
      refine va_get (D := (dC, dI)) (ci := 1) (v := .ref b1) (C := RX1) (T := TX1) (N := 12) hx hb hts (fun w hw => List.mem_cons_of_mem _ (inX1 w hw)) hown hK hP 0 rfl rfl 2 (by decide) (hts _ (List.mem_cons_of_mem _ mw_446)) (fun _ h9 => h9) rfl dX1_press_137 ?_
      refine lv_iload_n hx hb dX1_press_140 rfl (lv_at hl 3 rfl) ?_
      obtain ⟨v23, hv, hf⟩ := bd hf
      refine q_zld hx hb hK hP 1 1 rfl rfl hv dX1_press_141 ?_
      refine lv_if_eq (tgt := 158) hx hb dX1_press_142 (by decide) (fun h24 => ?_) (fun h24 => ?_)
      · have hf := ift h24 hf
        refine lv_iconst (v := (0 : Int32)) hx hb dX1_press_158 (by decide) ?_
        obtain ⟨us_25, hv, hf⟩ := bd hf
        refine q_zst hx hb hK hP hD hS 1 1 rfl rfl hv dX1_press_159 (fun H locs hP hD hS => ?_)
        have hP : va_P (dC, dI) vwCl (wM cI cZ hm b1 b2 b3 b4 b5 b6 b7 b8 b9 th mk us_25 fi se ki va li ct od ne ro) _ := hP
        have hD : va_D A (wM cI cZ hm b1 b2 b3 b4 b5 b6 b7 b8 b9 th mk us_25 fi se ki va li ct od ne ro) := hD
        refine lv_iinc (v := x3_ + (1 : Int32)) hx hb dX1_press_160 hl (k := 3) rfl (by rfl) (by decide) rfl (fun ls hl => ?_)
        have hl : lv_has ls 6 [(3, .int (x3_ + (1 : Int32))), (0, .ref hm), (1, .int x1_), (2, .int x2_)] := hl
        refine lv_goto (tgt := 124) hx hb dX1_press_163 (by decide) ?_
        exact ih _ _ _ _ hf _ _ _ hP hD hS (lv_sub hl [1, 2, 3, 0] rfl) k0
      · have hf := ifn h24 hf
        refine lv_aload_n hx hb dX1_press_145 rfl (lv_at hl 0 rfl) ?_
        refine va_get (D := (dC, dI)) (ci := 1) (v := .ref b6) (C := RX1) (T := TX1) (N := 12) hx hb hts (fun w hw => List.mem_cons_of_mem _ (inX1 w hw)) hown hK hP 0 rfl rfl 7 (by decide) (hts _ (List.mem_cons_of_mem _ mw_451)) (fun _ h9 => h9) rfl dX1_press_146 ?_
        refine lv_iload_n hx hb dX1_press_149 rfl (lv_at hl 3 rfl) ?_
        obtain ⟨v26, hv, hf⟩ := bd hf
        refine q_zld hx hb hK hP 6 1 rfl rfl hv dX1_press_150 ?_
        refine lv_if_eq (tgt := 158) hx hb dX1_press_151 (by decide) (fun h27 => ?_) (fun h27 => ?_)
        · have hf := ift h27 hf
          refine lv_iconst (v := (0 : Int32)) hx hb dX1_press_158 (by decide) ?_
          obtain ⟨us_28, hv, hf⟩ := bd hf
          refine q_zst hx hb hK hP hD hS 1 1 rfl rfl hv dX1_press_159 (fun H locs hP hD hS => ?_)
          have hP : va_P (dC, dI) vwCl (wM cI cZ hm b1 b2 b3 b4 b5 b6 b7 b8 b9 th mk us_28 fi se ki va li ct od ne ro) _ := hP
          have hD : va_D A (wM cI cZ hm b1 b2 b3 b4 b5 b6 b7 b8 b9 th mk us_28 fi se ki va li ct od ne ro) := hD
          refine lv_iinc (v := x3_ + (1 : Int32)) hx hb dX1_press_160 hl (k := 3) rfl (by rfl) (by decide) rfl (fun ls hl => ?_)
          have hl : lv_has ls 6 [(3, .int (x3_ + (1 : Int32))), (0, .ref hm), (1, .int x1_), (2, .int x2_)] := hl
          refine lv_goto (tgt := 124) hx hb dX1_press_163 (by decide) ?_
          exact ih _ _ _ _ hf _ _ _ hP hD hS (lv_sub hl [1, 2, 3, 0] rfl) k0
        · have hf := ifn h27 hf
          refine lv_iconst (v := (1 : Int32)) hx hb dX1_press_154 (by decide) ?_
          refine lv_goto (tgt := 159) hx hb dX1_press_155 (by decide) ?_
          obtain ⟨us_29, hv, hf⟩ := bd hf
          refine q_zst hx hb hK hP hD hS 1 1 rfl rfl hv dX1_press_159 (fun H locs hP hD hS => ?_)
          have hP : va_P (dC, dI) vwCl (wM cI cZ hm b1 b2 b3 b4 b5 b6 b7 b8 b9 th mk us_29 fi se ki va li ct od ne ro) _ := hP
          have hD : va_D A (wM cI cZ hm b1 b2 b3 b4 b5 b6 b7 b8 b9 th mk us_29 fi se ki va li ct od ne ro) := hD
          refine lv_iinc (v := x3_ + (1 : Int32)) hx hb dX1_press_160 hl (k := 3) rfl (by rfl) (by decide) rfl (fun ls hl => ?_)
          have hl : lv_has ls 6 [(3, .int (x3_ + (1 : Int32))), (0, .ref hm), (1, .int x1_), (2, .int x2_)] := hl
          refine lv_goto (tgt := 124) hx hb dX1_press_163 (by decide) ?_
          exact ih _ _ _ _ hf _ _ _ hP hD hS (lv_sub hl [1, 2, 3, 0] rfl) k0
set_option maxHeartbeats 4000000 in
set_option maxRecDepth 100000 in
theorem wX1_press_L173 {p : Program} {l : Launch} {e : Env} {s : State} {m : MethodId} {args : Array Value} {below : List Frame} {meth : Method} {c : Code} {Q : State → Prop} {A : Nat → Prop} (dC : Nat → ClassId) (dI : Nat → Nat → Nat) (cI cZ cL : ClassId) (hm b1 b2 b3 b4 b5 b6 b7 b8 b9 : Nat) (hx : p.tables.exec = Jvm.exec) (hb : c.code = cX1_press) (hml : c.maxLocals = 6) (hown : s.vm.findClass RX1 = some m.cls) (hts : ∀ w ∈ wsX1_press, w.before args s = true) (hK : va_K (dC, dI) vwCl (tyA cI cZ cL) s) (hA : ∀ q : Nat, s.heap.size ≤ q → A q) (x1_ : Int32) (x2_ : Int32) (th : Int32) (mk : Int32) (us : Nat → Int32) (fi : Nat → Int32) (se : Nat → Int32) (ki : Nat → Int32) (va : Nat → Int32) (li : Nat → Int32) (ct : Int32) (ne : Nat → Int32) (ro : Nat → Int32) (n : Nat) :
    ∀ (x3_ : Int32) (od : Nat → Int32) (x3_' : Int32) (od' : Nat → Int32), fX1_press_L173 x2_ ne n x3_ od = some (x3_', od') → ∀ (H : Heap) (locs : List Loc) (ls : Array Slot), va_P (dC, dI) vwCl (wM cI cZ hm b1 b2 b3 b4 b5 b6 b7 b8 b9 th mk us fi se ki va li ct od ne ro) H → va_D A (wM cI cZ hm b1 b2 b3 b4 b5 b6 b7 b8 b9 th mk us fi se ki va li ct od ne ro) → va_S A s.heap H locs → lv_has ls 6 [(0, .ref hm), (1, .int x1_), (2, .int x2_), (3, .int x3_)] → (∀ (H : Heap) (locs : List Loc) (ls : Array Slot), va_P (dC, dI) vwCl (wM cI cZ hm b1 b2 b3 b4 b5 b6 b7 b8 b9 th mk us fi se ki va li ct od' ne ro) H → va_D A (wM cI cZ hm b1 b2 b3 b4 b5 b6 b7 b8 b9 th mk us fi se ki va li ct od' ne ro) → va_S A s.heap H locs → lv_has ls 6 [(0, .ref hm), (1, .int x1_), (2, .int x2_), (3, .int x3_')] → W p l e (headSpec wsX1_press rmX1_press).room s m args below meth c H locs 0 0 Q (F0 m 196 ls [])) → W p l e (headSpec wsX1_press rmX1_press).room s m args below meth c H locs 0 0 Q (F0 m 173 ls []) := by
  induction n with
  | zero => intro x3_ od x3_' od' hf; cases hf
  | succ n ih =>
    intro x3_ od x3_' od' hf H locs ls hP hD hS hl k0
    have hf := (fX1_press_L173_s x2_ ne n x3_ od).symm.trans hf
    refine lv_iload_n hx hb dX1_press_173 rfl (lv_at hl 3 rfl) ?_
    refine lv_iload_n hx hb dX1_press_174 rfl (lv_at hl 2 rfl) ?_
    refine lv_icmp_ge (tgt := 196) hx hb dX1_press_175 (by decide) (fun h32 => ?_) (fun h32 => ?_)
    · have hf := ift h32 hf
      cases hf
      exact k0 _ _ _ hP hD hS (lv_sub hl [0, 1, 2, 3] rfl)
    · have hf := ifn h32 hf
      refine lv_aload_n hx hb dX1_press_178 rfl (lv_at hl 0 rfl) ?_
      refine va_get (D := (dC, dI)) (ci := 1) (v := .ref b7) (C := RX1) (T := TX1) (N := 12) hx hb hts (fun w hw => List.mem_cons_of_mem _ (inX1 w hw)) hown hK hP 0 rfl rfl 9 (by decide) (hts _ (List.mem_cons_of_mem _ mw_453)) (fun _ h9 => h9) rfl dX1_press_179 ?_
      refine lv_iload_n hx hb dX1_press_182 rfl (lv_at hl 3 rfl) ?_
      refine lv_aload_n hx hb dX1_press_183 rfl (lv_at hl 0 rfl) ?_
      refine va_get (D := (dC, dI)) (ci := 1) (v := .ref b8) (C := RX1) (T := TX1) (N := 12) hx hb hts (fun w hw => List.mem_cons_of_mem _ (inX1 w hw)) hown hK hP 0 rfl rfl 10 (by decide) (hts _ (List.mem_cons_of_mem _ mw_454)) (fun _ h9 => h9) rfl dX1_press_184 ?_
      refine lv_iload_n hx hb dX1_press_187 rfl (lv_at hl 3 rfl) ?_
      obtain ⟨v33, hv, hf⟩ := bd hf
      refine q_ild hx hb hK hP 8 0 rfl rfl hv dX1_press_188 ?_
      obtain ⟨od_34, hv, hf⟩ := bd hf
      refine q_ist hx hb hK hP hD hS 7 0 rfl rfl hv dX1_press_189 (fun H locs hP hD hS => ?_)
      have hP : va_P (dC, dI) vwCl (wM cI cZ hm b1 b2 b3 b4 b5 b6 b7 b8 b9 th mk us fi se ki va li ct od_34 ne ro) _ := hP
      have hD : va_D A (wM cI cZ hm b1 b2 b3 b4 b5 b6 b7 b8 b9 th mk us fi se ki va li ct od_34 ne ro) := hD
      refine lv_iinc (v := x3_ + (1 : Int32)) hx hb dX1_press_190 hl (k := 3) rfl (by rfl) (by decide) rfl (fun ls hl => ?_)
      have hl : lv_has ls 6 [(3, .int (x3_ + (1 : Int32))), (0, .ref hm), (1, .int x1_), (2, .int x2_)] := hl
      refine lv_goto (tgt := 173) hx hb dX1_press_193 (by decide) ?_
      exact ih _ _ _ _ hf _ _ _ hP hD hS (lv_sub hl [1, 2, 3, 0] rfl) k0
set_option maxHeartbeats 4000000 in
set_option maxRecDepth 100000 in
theorem ctX1_press (l : Launch) (dC : Nat → ClassId) (dI : Nat → Nat → Nat) (cI cZ cL : ClassId) (hm b1 b2 b3 b4 b5 b6 b7 b8 b9 : Nat) (sz : Nat) (th : Int32) (mk : Int32) (us : Nat → Int32) (fi : Nat → Int32) (se : Nat → Int32) (ki : Nat → Int32) (va : Nat → Int32) (li : Nat → Int32) (ct : Int32) (od : Nat → Int32) (ne : Nat → Int32) (ro : Nat → Int32) (x1 : Int32) (us' : Nat → Int32) (va' : Nat → Int32) (li' : Nat → Int32) (ct' : Int32) (od' : Nat → Int32) (ne' : Nat → Int32) (hf : fX1_press us fi ki va li ct od ne ro x1 = some (us', va', li', ct', od', ne')) : Met l yX1_press wsX1_press rmX1_press (va_Pc [.ref hm, .int x1] (q_pre (dC, dI) vwCl (tyA cI cZ cL) sz (wM cI cZ hm b1 b2 b3 b4 b5 b6 b7 b8 b9 th mk us fi se ki va li ct od ne ro))) (va_Qv (fun (_ : Unit) => True) (fun _ => q_post (dC, dI) vwCl (tyA cI cZ cL) (va_A (wM cI cZ hm b1 b2 b3 b4 b5 b6 b7 b8 b9 th mk us fi se ki va li ct od ne ro) sz) (wM cI cZ hm b1 b2 b3 b4 b5 b6 b7 b8 b9 th mk us' fi se ki va' li' ct' od' ne' ro)) (va_A (wM cI cZ hm b1 b2 b3 b4 b5 b6 b7 b8 b9 th mk us fi se ki va li ct od ne ro) sz)) 0 0 (va_A (wM cI cZ hm b1 b2 b3 b4 b5 b6 b7 b8 b9 th mk us fi se ki va li ct od ne ro) sz) := by
  refine Met.ofW (cc := cX1_press) (maxL := 6) (ret := (none)) (by decide) rfl ?_
  intro p e s m args below meth c s₁ B hml hv
  obtain ⟨rfl, hsz, hP, hK, hD0⟩ := hv
  have hx := B.exec
  have hb := B.bytes
  have hr := B.returns
  have hts := atoms_spec (ws := wsX1_press) B.pre
  have hown : s.vm.findClass RX1 = some m.cls := findClass_of_methodNamed B.named
  subst hsz
  have hD := hD0.self (sz := s.heap.size)
  generalize hAe : va_A (wM cI cZ hm b1 b2 b3 b4 b5 b6 b7 b8 b9 th mk us fi se ki va li ct od ne ro) s.heap.size = A at hD ⊢
  have hA : ∀ q : Nat, s.heap.size ≤ q → A q := fun q h => by rw [← hAe]; exact Or.inr h
  have hS : va_S A s.heap s.heap [] := va_S.rf
  have hl := lv_entry ([.ref hm, .int x1]) (n := 6) (Nat.le_of_ble_eq_true rfl)
  rw [lg_entry_eq]
  generalize (lg_sl ([.ref hm, .int x1]) ++ List.replicate (6 - (lg_sl ([.ref hm, .int x1])).length) Slot.unset).toArray = ls at hl ⊢
  have hl : lv_has ls 6 [(0, .ref hm), (1, .int x1)] := hl
  unfold fX1_press at hf
  refine lv_aload_n hx hb dX1_press_0 rfl (lv_at hl 0 rfl) ?_
  obtain ⟨li_1, hv, hf⟩ := bd hf
  refine q_cv (wr := []) (va_runV (As := []) (rest := []) ⟨hx, hb, hml, hown, hts⟩ (ctX1_findAlive l dC dI cI cZ cL hm b1 b2 b3 b4 b5 b6 b7 b8 b9 _ th mk us fi se ki va li ct od ne ro li_1 hv) (cwV 0 hts (gV mw_502 mw_504 mw_26 mw_40 mw_505) rfl rfl rfl (by decide +kernel) ⟨Nat.le_of_ble_eq_true rfl, Nat.le_of_ble_eq_true rfl⟩) (q_preV [] hK hP hD [0, 1, 2, 3, 4, 5, 6, 7, 8, 9] (by decide) rfl (ci := 1) rfl rfl) rfl rfl hl.1 rfl (lv_room (Nat.le_of_ble_eq_true rfl)) dX1_press_1 ⟨Nat.le_of_ble_eq_true rfl, Nat.le_of_ble_eq_true rfl⟩) hP hD hS hA [0, 1, 2, 3, 4, 5, 6, 7, 8, 9] [] rfl rfl (by decide) (by decide) (fun H locs hP hD hS => ?_)
  have hP : va_P (dC, dI) vwCl (wM cI cZ hm b1 b2 b3 b4 b5 b6 b7 b8 b9 th mk us fi se ki va li_1 ct od ne ro) _ := hP
  have hD : va_D A (wM cI cZ hm b1 b2 b3 b4 b5 b6 b7 b8 b9 th mk us fi se ki va li_1 ct od ne ro) := hD
  refine lv_aload_n hx hb dX1_press_4 rfl (lv_at hl 0 rfl) ?_
  obtain ⟨v2, hv, hf⟩ := bd hf
  refine q_ci (wr := []) (va_runV (As := []) (rest := []) ⟨hx, hb, hml, hown, hts⟩ (ctX1_countAlive l dC dI cI cZ cL hm b1 b2 b3 b4 b5 b6 b7 b8 b9 _ th mk us fi se ki va li_1 ct od ne ro v2 hv) (cwV 0 hts (gV mw_510 mw_512 mw_28 mw_40 mw_513) rfl rfl rfl (by decide +kernel) ⟨Nat.le_of_ble_eq_true rfl, Nat.le_of_ble_eq_true rfl⟩) (q_preV [] hK hP hD [0, 1, 2, 3, 4, 5, 6, 7, 8, 9] (by decide) rfl (ci := 1) rfl rfl) rfl rfl hl.1 rfl (lv_room (Nat.le_of_ble_eq_true rfl)) dX1_press_5 ⟨Nat.le_of_ble_eq_true rfl, Nat.le_of_ble_eq_true rfl⟩) hP hD hS hA [0, 1, 2, 3, 4, 5, 6, 7, 8, 9] [] rfl rfl (by decide) (by decide) (fun H locs hP hD hS => ?_)
  have hP : va_P (dC, dI) vwCl (wM cI cZ hm b1 b2 b3 b4 b5 b6 b7 b8 b9 th mk us fi se ki va li_1 ct od ne ro) _ := hP
  have hD : va_D A (wM cI cZ hm b1 b2 b3 b4 b5 b6 b7 b8 b9 th mk us fi se ki va li_1 ct od ne ro) := hD
  refine lv_istore_n hx hb dX1_press_8 rfl hl (by decide) rfl (fun ls hl => ?_)
  have hl : lv_has ls 6 [(2, .int v2), (0, .ref hm), (1, .int x1)] := hl
  refine lv_iconst (v := (0 : Int32)) hx hb dX1_press_9 (by decide) ?_
  refine lv_istore_n hx hb dX1_press_10 rfl hl (by decide) rfl (fun ls hl => ?_)
  have hl : lv_has ls 6 [(3, .int (0 : Int32)), (2, .int v2), (0, .ref hm), (1, .int x1)] := hl
  obtain ⟨⟨x_18, va_19⟩, hv, hf⟩ := bd hf
  dsimp only at hf
  refine wX1_press_L11 dC dI cI cZ cL hm b1 b2 b3 b4 b5 b6 b7 b8 b9 hx hb hml hown hts hK hA x1 v2 th mk us fi se ki li_1 ct od ne ro FU (0 : Int32) va x_18 va_19 hv _ _ _ hP hD hS (lv_sub hl [2, 3, 1, 0] rfl) (fun H locs ls hP hD hS hl => ?_)
  refine lv_iload_n hx hb dX1_press_106 rfl (lv_at hl 1 rfl) ?_
  refine lv_iconst (v := (1 : Int32)) hx hb dX1_press_107 (by decide) ?_
  refine lv_icmp_ne (tgt := 118) hx hb dX1_press_108 (by decide) (fun h20 => ?_) (fun h20 => ?_)
  · have hf := ifn h20 hf
    refine lv_aload_n hx hb dX1_press_118 rfl (lv_at hl 0 rfl) ?_
    obtain ⟨ne_21, hv, hf⟩ := bd hf
    refine q_cv (wr := []) (va_runV (As := []) (rest := []) ⟨hx, hb, hml, hown, hts⟩ (ctX1_keepOrder l dC dI cI cZ cL hm b1 b2 b3 b4 b5 b6 b7 b8 b9 _ th mk us fi se ki va_19 li_1 ct od ne ro ne_21 hv) (cwV 0 hts (gV mw_518 mw_520 mw_30 mw_40 mw_521) rfl rfl rfl (by decide +kernel) ⟨Nat.le_of_ble_eq_true rfl, Nat.le_of_ble_eq_true rfl⟩) (q_preV [] hK hP hD [0, 1, 2, 3, 4, 5, 6, 7, 8, 9] (by decide) rfl (ci := 1) rfl rfl) rfl rfl hl.1 rfl (lv_room (Nat.le_of_ble_eq_true rfl)) dX1_press_119 ⟨Nat.le_of_ble_eq_true rfl, Nat.le_of_ble_eq_true rfl⟩) hP hD hS hA [0, 1, 2, 3, 4, 5, 6, 7, 8, 9] [] rfl rfl (by decide) (by decide) (fun H locs hP hD hS => ?_)
    have hP : va_P (dC, dI) vwCl (wM cI cZ hm b1 b2 b3 b4 b5 b6 b7 b8 b9 th mk us fi se ki va_19 li_1 ct od ne_21 ro) _ := hP
    have hD : va_D A (wM cI cZ hm b1 b2 b3 b4 b5 b6 b7 b8 b9 th mk us fi se ki va_19 li_1 ct od ne_21 ro) := hD
    refine lv_iconst (v := (0 : Int32)) hx hb dX1_press_122 (by decide) ?_
    refine lv_istore_n hx hb dX1_press_123 rfl hl (by decide) rfl (fun ls hl => ?_)
    have hl : lv_has ls 6 [(3, .int (0 : Int32)), (0, .ref hm), (1, .int x1), (2, .int v2)] := hl
    obtain ⟨⟨x_30, us_31⟩, hv, hf⟩ := bd hf
    dsimp only at hf
    refine wX1_press_L124 dC dI cI cZ cL hm b1 b2 b3 b4 b5 b6 b7 b8 b9 hx hb hml hown hts hK hA x1 v2 th mk fi se ki va_19 li_1 ct od ne_21 ro FU (0 : Int32) us x_30 us_31 hv _ _ _ hP hD hS (lv_sub hl [1, 2, 3, 0] rfl) (fun H locs ls hP hD hS hl => ?_)
    refine lv_aload_n hx hb dX1_press_166 rfl (lv_at hl 0 rfl) ?_
    refine lv_iload_n hx hb dX1_press_167 rfl (lv_at hl 2 rfl) ?_
    refine va_put (D := (dC, dI)) (ci := 1) (v := .int v2) (ty := .int) (C := RX1) (T := TX1) (N := 12) hx hb hts (fun w hw => List.mem_cons_of_mem _ (inX1 w hw)) tyX1 tyX1_ok nmX1 hown hK hP hD hS 0 rfl rfl 8 (by decide) (hts _ (List.mem_cons_of_mem _ mw_452)) (fun _ h9 => h9) rfl (by decide +kernel) rfl rfl (Nat.le_of_ble_eq_true rfl) dX1_press_168 (fun H locs hP hD hS => ?_)
    have hP : va_P (dC, dI) vwCl (wM cI cZ hm b1 b2 b3 b4 b5 b6 b7 b8 b9 th mk us_31 fi se ki va_19 li_1 v2 od ne_21 ro) _ := hP
    have hD : va_D A (wM cI cZ hm b1 b2 b3 b4 b5 b6 b7 b8 b9 th mk us_31 fi se ki va_19 li_1 v2 od ne_21 ro) := hD
    refine lv_iconst (v := (0 : Int32)) hx hb dX1_press_171 (by decide) ?_
    refine lv_istore_n hx hb dX1_press_172 rfl hl (by decide) rfl (fun ls hl => ?_)
    have hl : lv_has ls 6 [(3, .int (0 : Int32)), (0, .ref hm), (1, .int x1), (2, .int v2)] := hl
    obtain ⟨⟨x_35, od_36⟩, hv, hf⟩ := bd hf
    dsimp only at hf
    refine wX1_press_L173 dC dI cI cZ cL hm b1 b2 b3 b4 b5 b6 b7 b8 b9 hx hb hml hown hts hK hA x1 v2 th mk us_31 fi se ki va_19 li_1 v2 ne_21 ro FU (0 : Int32) od x_35 od_36 hv _ _ _ hP hD hS (lv_sub hl [1, 2, 3, 0] rfl) (fun H locs ls hP hD hS hl => ?_)
    have hg0 := Option.some.inj hf
    obtain ⟨hq1, hg1⟩ := Prod.mk.inj hg0
    subst hq1
    obtain ⟨hq2, hg2⟩ := Prod.mk.inj hg1
    subst hq2
    obtain ⟨hq3, hg3⟩ := Prod.mk.inj hg2
    subst hq3
    obtain ⟨hq4, hg4⟩ := Prod.mk.inj hg3
    subst hq4
    obtain ⟨hq5, hg5⟩ := Prod.mk.inj hg4
    subst hq5
    subst hg5
    exact W.vret hx hb hr (fun t ht hW => ⟨⟨(), rfl, trivial, by rw [ht]; exact hP, va_K.moved hW.alike hK, hD⟩, hS.F ht⟩) hS.2.2 dX1_press_196
  · have hf := ift h20 hf
    refine lv_aload_n hx hb dX1_press_111 rfl (lv_at hl 0 rfl) ?_
    obtain ⟨ne_37, hv, hf⟩ := bd hf
    refine q_cv (wr := []) (va_runV (As := []) (rest := []) ⟨hx, hb, hml, hown, hts⟩ (ctX1_fillGaps l dC dI cI cZ cL hm b1 b2 b3 b4 b5 b6 b7 b8 b9 _ th mk us fi se ki va_19 li_1 ct od ne ro ne_37 hv) (cwV 0 hts (gV mw_514 mw_516 mw_29 mw_40 mw_517) rfl rfl rfl (by decide +kernel) ⟨Nat.le_of_ble_eq_true rfl, Nat.le_of_ble_eq_true rfl⟩) (q_preV [] hK hP hD [0, 1, 2, 3, 4, 5, 6, 7, 8, 9] (by decide) rfl (ci := 1) rfl rfl) rfl rfl hl.1 rfl (lv_room (Nat.le_of_ble_eq_true rfl)) dX1_press_112 ⟨Nat.le_of_ble_eq_true rfl, Nat.le_of_ble_eq_true rfl⟩) hP hD hS hA [0, 1, 2, 3, 4, 5, 6, 7, 8, 9] [] rfl rfl (by decide) (by decide) (fun H locs hP hD hS => ?_)
    have hP : va_P (dC, dI) vwCl (wM cI cZ hm b1 b2 b3 b4 b5 b6 b7 b8 b9 th mk us fi se ki va_19 li_1 ct od ne_37 ro) _ := hP
    have hD : va_D A (wM cI cZ hm b1 b2 b3 b4 b5 b6 b7 b8 b9 th mk us fi se ki va_19 li_1 ct od ne_37 ro) := hD
    refine lv_goto (tgt := 122) hx hb dX1_press_115 (by decide) ?_
    refine lv_iconst (v := (0 : Int32)) hx hb dX1_press_122 (by decide) ?_
    refine lv_istore_n hx hb dX1_press_123 rfl hl (by decide) rfl (fun ls hl => ?_)
    have hl : lv_has ls 6 [(3, .int (0 : Int32)), (0, .ref hm), (1, .int x1), (2, .int v2)] := hl
    obtain ⟨⟨x_38, us_39⟩, hv, hf⟩ := bd hf
    dsimp only at hf
    refine wX1_press_L124 dC dI cI cZ cL hm b1 b2 b3 b4 b5 b6 b7 b8 b9 hx hb hml hown hts hK hA x1 v2 th mk fi se ki va_19 li_1 ct od ne_37 ro FU (0 : Int32) us x_38 us_39 hv _ _ _ hP hD hS (lv_sub hl [1, 2, 3, 0] rfl) (fun H locs ls hP hD hS hl => ?_)
    refine lv_aload_n hx hb dX1_press_166 rfl (lv_at hl 0 rfl) ?_
    refine lv_iload_n hx hb dX1_press_167 rfl (lv_at hl 2 rfl) ?_
    refine va_put (D := (dC, dI)) (ci := 1) (v := .int v2) (ty := .int) (C := RX1) (T := TX1) (N := 12) hx hb hts (fun w hw => List.mem_cons_of_mem _ (inX1 w hw)) tyX1 tyX1_ok nmX1 hown hK hP hD hS 0 rfl rfl 8 (by decide) (hts _ (List.mem_cons_of_mem _ mw_452)) (fun _ h9 => h9) rfl (by decide +kernel) rfl rfl (Nat.le_of_ble_eq_true rfl) dX1_press_168 (fun H locs hP hD hS => ?_)
    have hP : va_P (dC, dI) vwCl (wM cI cZ hm b1 b2 b3 b4 b5 b6 b7 b8 b9 th mk us_39 fi se ki va_19 li_1 v2 od ne_37 ro) _ := hP
    have hD : va_D A (wM cI cZ hm b1 b2 b3 b4 b5 b6 b7 b8 b9 th mk us_39 fi se ki va_19 li_1 v2 od ne_37 ro) := hD
    refine lv_iconst (v := (0 : Int32)) hx hb dX1_press_171 (by decide) ?_
    refine lv_istore_n hx hb dX1_press_172 rfl hl (by decide) rfl (fun ls hl => ?_)
    have hl : lv_has ls 6 [(3, .int (0 : Int32)), (0, .ref hm), (1, .int x1), (2, .int v2)] := hl
    obtain ⟨⟨x_40, od_41⟩, hv, hf⟩ := bd hf
    dsimp only at hf
    refine wX1_press_L173 dC dI cI cZ cL hm b1 b2 b3 b4 b5 b6 b7 b8 b9 hx hb hml hown hts hK hA x1 v2 th mk us_39 fi se ki va_19 li_1 v2 ne_37 ro FU (0 : Int32) od x_40 od_41 hv _ _ _ hP hD hS (lv_sub hl [1, 2, 3, 0] rfl) (fun H locs ls hP hD hS hl => ?_)
    have hg0 := Option.some.inj hf
    obtain ⟨hq1, hg1⟩ := Prod.mk.inj hg0
    subst hq1
    obtain ⟨hq2, hg2⟩ := Prod.mk.inj hg1
    subst hq2
    obtain ⟨hq3, hg3⟩ := Prod.mk.inj hg2
    subst hq3
    obtain ⟨hq4, hg4⟩ := Prod.mk.inj hg3
    subst hq4
    obtain ⟨hq5, hg5⟩ := Prod.mk.inj hg4
    subst hq5
    subst hg5
    exact W.vret hx hb hr (fun t ht hW => ⟨⟨(), rfl, trivial, by rw [ht]; exact hP, va_K.moved hW.alike hK, hD⟩, hS.F ht⟩) hS.2.2 dX1_press_196
set_option maxHeartbeats 4000000 in
set_option maxRecDepth 100000 in
theorem wX1_make_L2 {p : Program} {l : Launch} {e : Env} {s : State} {m : MethodId} {args : Array Value} {below : List Frame} {meth : Method} {c : Code} {Q : State → Prop} {A : Nat → Prop} (dC : Nat → ClassId) (dI : Nat → Nat → Nat) (cI cZ cL : ClassId) (hm b1 b2 b3 b4 b5 b6 b7 b8 b9 : Nat) (hx : p.tables.exec = Jvm.exec) (hb : c.code = cX1_make) (hml : c.maxLocals = 5) (hown : s.vm.findClass RX1 = some m.cls) (hts : ∀ w ∈ wsX1_make, w.before args s = true) (hK : va_K (dC, dI) vwCl (tyA cI cZ cL) s) (hA : ∀ q : Nat, s.heap.size ≤ q → A q) (x1_ : Int32) (x2_ : Int32) (th : Int32) (mk : Int32) (us : Nat → Int32) (fi : Nat → Int32) (se : Nat → Int32) (ki : Nat → Int32) (va : Nat → Int32) (li : Nat → Int32) (ct : Int32) (od : Nat → Int32) (ne : Nat → Int32) (ro : Nat → Int32) (n : Nat) :
    ∀ (x3_ : Int32) (x3_' : Int32), fX1_make_L2 us n x3_ = some x3_' → ∀ (H : Heap) (locs : List Loc) (ls : Array Slot), va_P (dC, dI) vwCl (wM cI cZ hm b1 b2 b3 b4 b5 b6 b7 b8 b9 th mk us fi se ki va li ct od ne ro) H → va_D A (wM cI cZ hm b1 b2 b3 b4 b5 b6 b7 b8 b9 th mk us fi se ki va li ct od ne ro) → va_S A s.heap H locs → lv_has ls 5 [(0, .ref hm), (1, .int x1_), (2, .int x2_), (3, .int x3_)] → (∀ (H : Heap) (locs : List Loc) (ls : Array Slot), va_P (dC, dI) vwCl (wM cI cZ hm b1 b2 b3 b4 b5 b6 b7 b8 b9 th mk us fi se ki va li ct od ne ro) H → va_D A (wM cI cZ hm b1 b2 b3 b4 b5 b6 b7 b8 b9 th mk us fi se ki va li ct od ne ro) → va_S A s.heap H locs → lv_has ls 5 [(0, .ref hm), (1, .int x1_), (2, .int x2_), (3, .int x3_')] → W p l e (headSpec wsX1_make rmX1_make).room s m args below meth c H locs 0 0 Q (F0 m 17 ls [])) → W p l e (headSpec wsX1_make rmX1_make).room s m args below meth c H locs 0 0 Q (F0 m 2 ls []) := by
  induction n with
  | zero => intro x3_ x3_' hf; cases hf
  | succ n ih =>
    intro x3_ x3_' hf H locs ls hP hD hS hl k0
    have hf := (fX1_make_L2_s us n x3_).symm.trans hf
    refine lv_aload_n hx hb dX1_make_2 rfl (lv_at hl 0 rfl) ?_
    refine va_get (D := (dC, dI)) (ci := 1) (v := .ref b1) (C := RX1) (T := TX1) (N := 12) hx hb hts (fun w hw => List.mem_cons_of_mem _ (inX1 w hw)) hown hK hP 0 rfl rfl 2 (by decide) (hts _ (List.mem_cons_of_mem _ mw_446)) (fun _ h9 => h9) rfl dX1_make_3 ?_
    refine lv_iload_n hx hb dX1_make_6 rfl (lv_at hl 3 rfl) ?_
    obtain ⟨v1, hv, hf⟩ := bd hf
    refine q_zld hx hb hK hP 1 1 rfl rfl hv dX1_make_7 ?_
    refine lv_if_eq (tgt := 17) hx hb dX1_make_8 (by decide) (fun h2 => ?_) (fun h2 => ?_)
    · have hf := ift h2 hf
      cases hf
      exact k0 _ _ _ hP hD hS (lv_sub hl [0, 1, 2, 3] rfl)
    · have hf := ifn h2 hf
      refine lv_iinc (v := x3_ + (1 : Int32)) hx hb dX1_make_11 hl (k := 3) rfl (by rfl) (by decide) rfl (fun ls hl => ?_)
      have hl : lv_has ls 5 [(3, .int (x3_ + (1 : Int32))), (0, .ref hm), (1, .int x1_), (2, .int x2_)] := hl
      refine lv_goto (tgt := 2) hx hb dX1_make_14 (by decide) ?_
      exact ih _ _ hf _ _ _ hP hD hS (lv_sub hl [1, 2, 3, 0] rfl) k0
set_option maxHeartbeats 4000000 in
set_option maxRecDepth 100000 in
theorem wX1_make_L54 {p : Program} {l : Launch} {e : Env} {s : State} {m : MethodId} {args : Array Value} {below : List Frame} {meth : Method} {c : Code} {Q : State → Prop} {A : Nat → Prop} (dC : Nat → ClassId) (dI : Nat → Nat → Nat) (cI cZ cL : ClassId) (hm b1 b2 b3 b4 b5 b6 b7 b8 b9 : Nat) (hx : p.tables.exec = Jvm.exec) (hb : c.code = cX1_make) (hml : c.maxLocals = 5) (hown : s.vm.findClass RX1 = some m.cls) (hts : ∀ w ∈ wsX1_make, w.before args s = true) (hK : va_K (dC, dI) vwCl (tyA cI cZ cL) s) (hA : ∀ q : Nat, s.heap.size ≤ q → A q) (x1_ : Int32) (x2_ : Int32) (x3_ : Int32) (th : Int32) (mk : Int32) (us : Nat → Int32) (fi : Nat → Int32) (se : Nat → Int32) (li : Nat → Int32) (ct : Int32) (od : Nat → Int32) (ne : Nat → Int32) (ro : Nat → Int32) (n : Nat) :
    ∀ (x4_ : Int32) (ki : Nat → Int32) (va : Nat → Int32) (x4_' : Int32) (ki' : Nat → Int32) (va' : Nat → Int32), fX1_make_L54 x3_ n x4_ ki va = some (x4_', ki', va') → ∀ (H : Heap) (locs : List Loc) (ls : Array Slot), va_P (dC, dI) vwCl (wM cI cZ hm b1 b2 b3 b4 b5 b6 b7 b8 b9 th mk us fi se ki va li ct od ne ro) H → va_D A (wM cI cZ hm b1 b2 b3 b4 b5 b6 b7 b8 b9 th mk us fi se ki va li ct od ne ro) → va_S A s.heap H locs → lv_has ls 5 [(0, .ref hm), (1, .int x1_), (2, .int x2_), (3, .int x3_), (4, .int x4_)] → (∀ (H : Heap) (locs : List Loc) (ls : Array Slot), va_P (dC, dI) vwCl (wM cI cZ hm b1 b2 b3 b4 b5 b6 b7 b8 b9 th mk us fi se ki' va' li ct od ne ro) H → va_D A (wM cI cZ hm b1 b2 b3 b4 b5 b6 b7 b8 b9 th mk us fi se ki' va' li ct od ne ro) → va_S A s.heap H locs → lv_has ls 5 [(0, .ref hm), (1, .int x1_), (2, .int x2_), (3, .int x3_), (4, .int x4_')] → W p l e (headSpec wsX1_make rmX1_make).room s m args below meth c H locs 0 0 Q (F0 m 93 ls [])) → W p l e (headSpec wsX1_make rmX1_make).room s m args below meth c H locs 0 0 Q (F0 m 54 ls []) := by
  induction n with
  | zero => intro x4_ ki va x4_' ki' va' hf; cases hf
  | succ n ih =>
    intro x4_ ki va x4_' ki' va' hf H locs ls hP hD hS hl k0
    have hf := (fX1_make_L54_s x3_ n x4_ ki va).symm.trans hf
    refine lv_iload hx hb dX1_make_54 (lv_at hl 4 rfl) ?_
    refine lv_bipush (v := (6 : Int32)) hx hb dX1_make_56 (by decide) ?_
    refine lv_icmp_ge (tgt := 93) hx hb dX1_make_58 (by decide) (fun h7 => ?_) (fun h7 => ?_)
    · have hf := ift h7 hf
      cases hf
      exact k0 _ _ _ hP hD hS (lv_sub hl [0, 1, 2, 3, 4] rfl)
    · have hf := ifn h7 hf
      refine lv_aload_n hx hb dX1_make_61 rfl (lv_at hl 0 rfl) ?_
      refine va_get (D := (dC, dI)) (ci := 1) (v := .ref b4) (C := RX1) (T := TX1) (N := 12) hx hb hts (fun w hw => List.mem_cons_of_mem _ (inX1 w hw)) hown hK hP 0 rfl rfl 5 (by decide) (hts _ (List.mem_cons_of_mem _ mw_449)) (fun _ h9 => h9) rfl dX1_make_62 ?_
      refine lv_bipush (v := (6 : Int32)) hx hb dX1_make_65 (by decide) ?_
      refine lv_iload_n hx hb dX1_make_67 rfl (lv_at hl 3 rfl) ?_
      refine lv_imul hx hb dX1_make_68 ?_
      refine lv_iload hx hb dX1_make_69 (lv_at hl 4 rfl) ?_
      refine lv_iadd hx hb dX1_make_71 ?_
      refine lv_iconst (v := (0 : Int32)) hx hb dX1_make_72 (by decide) ?_
      obtain ⟨ki_8, hv, hf⟩ := bd hf
      refine q_ist hx hb hK hP hD hS 4 0 rfl rfl hv dX1_make_73 (fun H locs hP hD hS => ?_)
      have hP : va_P (dC, dI) vwCl (wM cI cZ hm b1 b2 b3 b4 b5 b6 b7 b8 b9 th mk us fi se ki_8 va li ct od ne ro) _ := hP
      have hD : va_D A (wM cI cZ hm b1 b2 b3 b4 b5 b6 b7 b8 b9 th mk us fi se ki_8 va li ct od ne ro) := hD
      refine lv_aload_n hx hb dX1_make_74 rfl (lv_at hl 0 rfl) ?_
      refine va_get (D := (dC, dI)) (ci := 1) (v := .ref b5) (C := RX1) (T := TX1) (N := 12) hx hb hts (fun w hw => List.mem_cons_of_mem _ (inX1 w hw)) hown hK hP 0 rfl rfl 6 (by decide) (hts _ (List.mem_cons_of_mem _ mw_450)) (fun _ h9 => h9) rfl dX1_make_75 ?_
      refine lv_bipush (v := (6 : Int32)) hx hb dX1_make_78 (by decide) ?_
      refine lv_iload_n hx hb dX1_make_80 rfl (lv_at hl 3 rfl) ?_
      refine lv_imul hx hb dX1_make_81 ?_
      refine lv_iload hx hb dX1_make_82 (lv_at hl 4 rfl) ?_
      refine lv_iadd hx hb dX1_make_84 ?_
      refine lv_iconst (v := (0 : Int32)) hx hb dX1_make_85 (by decide) ?_
      obtain ⟨va_9, hv, hf⟩ := bd hf
      refine q_ist hx hb hK hP hD hS 5 0 rfl rfl hv dX1_make_86 (fun H locs hP hD hS => ?_)
      have hP : va_P (dC, dI) vwCl (wM cI cZ hm b1 b2 b3 b4 b5 b6 b7 b8 b9 th mk us fi se ki_8 va_9 li ct od ne ro) _ := hP
      have hD : va_D A (wM cI cZ hm b1 b2 b3 b4 b5 b6 b7 b8 b9 th mk us fi se ki_8 va_9 li ct od ne ro) := hD
      refine lv_iinc (v := x4_ + (1 : Int32)) hx hb dX1_make_87 hl (k := 4) rfl (by rfl) (by decide) rfl (fun ls hl => ?_)
      have hl : lv_has ls 5 [(4, .int (x4_ + (1 : Int32))), (0, .ref hm), (1, .int x1_), (2, .int x2_), (3, .int x3_)] := hl
      refine lv_goto (tgt := 54) hx hb dX1_make_90 (by decide) ?_
      exact ih _ _ _ _ _ _ hf _ _ _ hP hD hS (lv_sub hl [1, 2, 3, 4, 0] rfl) k0
set_option maxHeartbeats 4000000 in
set_option maxRecDepth 100000 in
theorem ctX1_make (l : Launch) (dC : Nat → ClassId) (dI : Nat → Nat → Nat) (cI cZ cL : ClassId) (hm b1 b2 b3 b4 b5 b6 b7 b8 b9 : Nat) (sz : Nat) (th : Int32) (mk : Int32) (us : Nat → Int32) (fi : Nat → Int32) (se : Nat → Int32) (ki : Nat → Int32) (va : Nat → Int32) (li : Nat → Int32) (ct : Int32) (od : Nat → Int32) (ne : Nat → Int32) (ro : Nat → Int32) (x1 : Int32) (x2 : Int32) (rs : Int32) (mk' : Int32) (us' : Nat → Int32) (fi' : Nat → Int32) (se' : Nat → Int32) (ki' : Nat → Int32) (va' : Nat → Int32) (ct' : Int32) (od' : Nat → Int32) (ro' : Nat → Int32) (hf : fX1_make mk us fi se ki va ct od ro x1 x2 = some (rs, mk', us', fi', se', ki', va', ct', od', ro')) : Met l yX1_make wsX1_make rmX1_make (va_Pc [.ref hm, .int x1, .int x2] (q_pre (dC, dI) vwCl (tyA cI cZ cL) sz (wM cI cZ hm b1 b2 b3 b4 b5 b6 b7 b8 b9 th mk us fi se ki va li ct od ne ro))) (va_Qi (fun r (_ : Unit) => r = rs) (fun _ => q_post (dC, dI) vwCl (tyA cI cZ cL) (va_A (wM cI cZ hm b1 b2 b3 b4 b5 b6 b7 b8 b9 th mk us fi se ki va li ct od ne ro) sz) (wM cI cZ hm b1 b2 b3 b4 b5 b6 b7 b8 b9 th mk' us' fi' se' ki' va' li ct' od' ne ro')) (va_A (wM cI cZ hm b1 b2 b3 b4 b5 b6 b7 b8 b9 th mk us fi se ki va li ct od ne ro) sz)) 0 0 (va_A (wM cI cZ hm b1 b2 b3 b4 b5 b6 b7 b8 b9 th mk us fi se ki va li ct od ne ro) sz) := by
  refine Met.ofW (cc := cX1_make) (maxL := 5) (ret := (some .int)) (by decide) rfl ?_
  intro p e s m args below meth c s₁ B hml hv
  obtain ⟨rfl, hsz, hP, hK, hD0⟩ := hv
  have hx := B.exec
  have hb := B.bytes
  have hr := B.returns
  have hts := atoms_spec (ws := wsX1_make) B.pre
  have hown : s.vm.findClass RX1 = some m.cls := findClass_of_methodNamed B.named
  subst hsz
  have hD := hD0.self (sz := s.heap.size)
  generalize hAe : va_A (wM cI cZ hm b1 b2 b3 b4 b5 b6 b7 b8 b9 th mk us fi se ki va li ct od ne ro) s.heap.size = A at hD ⊢
  have hA : ∀ q : Nat, s.heap.size ≤ q → A q := fun q h => by rw [← hAe]; exact Or.inr h
  have hS : va_S A s.heap s.heap [] := va_S.rf
  have hl := lv_entry ([.ref hm, .int x1, .int x2]) (n := 5) (Nat.le_of_ble_eq_true rfl)
  rw [lg_entry_eq]
  generalize (lg_sl ([.ref hm, .int x1, .int x2]) ++ List.replicate (5 - (lg_sl ([.ref hm, .int x1, .int x2])).length) Slot.unset).toArray = ls at hl ⊢
  have hl : lv_has ls 5 [(0, .ref hm), (1, .int x1), (2, .int x2)] := hl
  unfold fX1_make at hf
  refine lv_iconst (v := (0 : Int32)) hx hb dX1_make_0 (by decide) ?_
  refine lv_istore_n hx hb dX1_make_1 rfl hl (by decide) rfl (fun ls hl => ?_)
  have hl : lv_has ls 5 [(3, .int (0 : Int32)), (0, .ref hm), (1, .int x1), (2, .int x2)] := hl
  obtain ⟨x_3, hv, hf⟩ := bd hf
  refine wX1_make_L2 dC dI cI cZ cL hm b1 b2 b3 b4 b5 b6 b7 b8 b9 hx hb hml hown hts hK hA x1 x2 th mk us fi se ki va li ct od ne ro FU (0 : Int32) x_3 hv _ _ _ hP hD hS (lv_sub hl [1, 2, 3, 0] rfl) (fun H locs ls hP hD hS hl => ?_)
  refine lv_aload_n hx hb dX1_make_17 rfl (lv_at hl 0 rfl) ?_
  refine lv_dup hx hb dX1_make_18 rfl ?_
  refine va_get (D := (dC, dI)) (ci := 1) (v := .int mk) (C := RX1) (T := TX1) (N := 12) hx hb hts (fun w hw => List.mem_cons_of_mem _ (inX1 w hw)) hown hK hP 0 rfl rfl 1 (by decide) (hts _ (List.mem_cons_of_mem _ mw_445)) (fun _ h9 => h9) rfl dX1_make_19 ?_
  refine lv_iconst (v := (1 : Int32)) hx hb dX1_make_22 (by decide) ?_
  refine lv_iadd hx hb dX1_make_23 ?_
  refine va_put (D := (dC, dI)) (ci := 1) (v := .int (mk + (1 : Int32))) (ty := .int) (C := RX1) (T := TX1) (N := 12) hx hb hts (fun w hw => List.mem_cons_of_mem _ (inX1 w hw)) tyX1 tyX1_ok nmX1 hown hK hP hD hS 0 rfl rfl 1 (by decide) (hts _ (List.mem_cons_of_mem _ mw_445)) (fun _ h9 => h9) rfl (by decide +kernel) rfl rfl (Nat.le_of_ble_eq_true rfl) dX1_make_24 (fun H locs hP hD hS => ?_)
  have hP : va_P (dC, dI) vwCl (wM cI cZ hm b1 b2 b3 b4 b5 b6 b7 b8 b9 th (mk + (1 : Int32)) us fi se ki va li ct od ne ro) _ := hP
  have hD : va_D A (wM cI cZ hm b1 b2 b3 b4 b5 b6 b7 b8 b9 th (mk + (1 : Int32)) us fi se ki va li ct od ne ro) := hD
  refine lv_aload_n hx hb dX1_make_27 rfl (lv_at hl 0 rfl) ?_
  refine va_get (D := (dC, dI)) (ci := 1) (v := .ref b1) (C := RX1) (T := TX1) (N := 12) hx hb hts (fun w hw => List.mem_cons_of_mem _ (inX1 w hw)) hown hK hP 0 rfl rfl 2 (by decide) (hts _ (List.mem_cons_of_mem _ mw_446)) (fun _ h9 => h9) rfl dX1_make_28 ?_
  refine lv_iload_n hx hb dX1_make_31 rfl (lv_at hl 3 rfl) ?_
  refine lv_iconst (v := (1 : Int32)) hx hb dX1_make_32 (by decide) ?_
  obtain ⟨us_4, hv, hf⟩ := bd hf
  refine q_zst hx hb hK hP hD hS 1 1 rfl rfl hv dX1_make_33 (fun H locs hP hD hS => ?_)
  have hP : va_P (dC, dI) vwCl (wM cI cZ hm b1 b2 b3 b4 b5 b6 b7 b8 b9 th (mk + (1 : Int32)) us_4 fi se ki va li ct od ne ro) _ := hP
  have hD : va_D A (wM cI cZ hm b1 b2 b3 b4 b5 b6 b7 b8 b9 th (mk + (1 : Int32)) us_4 fi se ki va li ct od ne ro) := hD
  refine lv_aload_n hx hb dX1_make_34 rfl (lv_at hl 0 rfl) ?_
  refine va_get (D := (dC, dI)) (ci := 1) (v := .ref b2) (C := RX1) (T := TX1) (N := 12) hx hb hts (fun w hw => List.mem_cons_of_mem _ (inX1 w hw)) hown hK hP 0 rfl rfl 3 (by decide) (hts _ (List.mem_cons_of_mem _ mw_447)) (fun _ h9 => h9) rfl dX1_make_35 ?_
  refine lv_iload_n hx hb dX1_make_38 rfl (lv_at hl 3 rfl) ?_
  refine lv_iload_n hx hb dX1_make_39 rfl (lv_at hl 2 rfl) ?_
  obtain ⟨fi_5, hv, hf⟩ := bd hf
  refine q_ist hx hb hK hP hD hS 2 0 rfl rfl hv dX1_make_40 (fun H locs hP hD hS => ?_)
  have hP : va_P (dC, dI) vwCl (wM cI cZ hm b1 b2 b3 b4 b5 b6 b7 b8 b9 th (mk + (1 : Int32)) us_4 fi_5 se ki va li ct od ne ro) _ := hP
  have hD : va_D A (wM cI cZ hm b1 b2 b3 b4 b5 b6 b7 b8 b9 th (mk + (1 : Int32)) us_4 fi_5 se ki va li ct od ne ro) := hD
  refine lv_aload_n hx hb dX1_make_41 rfl (lv_at hl 0 rfl) ?_
  refine va_get (D := (dC, dI)) (ci := 1) (v := .ref b3) (C := RX1) (T := TX1) (N := 12) hx hb hts (fun w hw => List.mem_cons_of_mem _ (inX1 w hw)) hown hK hP 0 rfl rfl 4 (by decide) (hts _ (List.mem_cons_of_mem _ mw_448)) (fun _ h9 => h9) rfl dX1_make_42 ?_
  refine lv_iload_n hx hb dX1_make_45 rfl (lv_at hl 3 rfl) ?_
  refine lv_aload_n hx hb dX1_make_46 rfl (lv_at hl 0 rfl) ?_
  refine va_get (D := (dC, dI)) (ci := 1) (v := .int (mk + (1 : Int32))) (C := RX1) (T := TX1) (N := 12) hx hb hts (fun w hw => List.mem_cons_of_mem _ (inX1 w hw)) hown hK hP 0 rfl rfl 1 (by decide) (hts _ (List.mem_cons_of_mem _ mw_445)) (fun _ h9 => h9) rfl dX1_make_47 ?_
  obtain ⟨se_6, hv, hf⟩ := bd hf
  refine q_ist hx hb hK hP hD hS 3 0 rfl rfl hv dX1_make_50 (fun H locs hP hD hS => ?_)
  have hP : va_P (dC, dI) vwCl (wM cI cZ hm b1 b2 b3 b4 b5 b6 b7 b8 b9 th (mk + (1 : Int32)) us_4 fi_5 se_6 ki va li ct od ne ro) _ := hP
  have hD : va_D A (wM cI cZ hm b1 b2 b3 b4 b5 b6 b7 b8 b9 th (mk + (1 : Int32)) us_4 fi_5 se_6 ki va li ct od ne ro) := hD
  refine lv_iconst (v := (0 : Int32)) hx hb dX1_make_51 (by decide) ?_
  refine lv_istore hx hb dX1_make_52 hl (by decide) rfl (fun ls hl => ?_)
  have hl : lv_has ls 5 [(4, .int (0 : Int32)), (0, .ref hm), (1, .int x1), (2, .int x2), (3, .int x_3)] := hl
  obtain ⟨⟨x_10, ki_11, va_12⟩, hv, hf⟩ := bd hf
  dsimp only at hf
  refine wX1_make_L54 dC dI cI cZ cL hm b1 b2 b3 b4 b5 b6 b7 b8 b9 hx hb hml hown hts hK hA x1 x2 x_3 th (mk + (1 : Int32)) us_4 fi_5 se_6 li ct od ne ro FU (0 : Int32) ki va x_10 ki_11 va_12 hv _ _ _ hP hD hS (lv_sub hl [1, 2, 3, 4, 0] rfl) (fun H locs ls hP hD hS hl => ?_)
  refine lv_aload_n hx hb dX1_make_93 rfl (lv_at hl 0 rfl) ?_
  refine va_get (D := (dC, dI)) (ci := 1) (v := .ref b7) (C := RX1) (T := TX1) (N := 12) hx hb hts (fun w hw => List.mem_cons_of_mem _ (inX1 w hw)) hown hK hP 0 rfl rfl 9 (by decide) (hts _ (List.mem_cons_of_mem _ mw_453)) (fun _ h9 => h9) rfl dX1_make_94 ?_
  refine lv_aload_n hx hb dX1_make_97 rfl (lv_at hl 0 rfl) ?_
  refine va_get (D := (dC, dI)) (ci := 1) (v := .int ct) (C := RX1) (T := TX1) (N := 12) hx hb hts (fun w hw => List.mem_cons_of_mem _ (inX1 w hw)) hown hK hP 0 rfl rfl 8 (by decide) (hts _ (List.mem_cons_of_mem _ mw_452)) (fun _ h9 => h9) rfl dX1_make_98 ?_
  refine lv_iload_n hx hb dX1_make_101 rfl (lv_at hl 3 rfl) ?_
  obtain ⟨od_13, hv, hf⟩ := bd hf
  refine q_ist hx hb hK hP hD hS 7 0 rfl rfl hv dX1_make_102 (fun H locs hP hD hS => ?_)
  have hP : va_P (dC, dI) vwCl (wM cI cZ hm b1 b2 b3 b4 b5 b6 b7 b8 b9 th (mk + (1 : Int32)) us_4 fi_5 se_6 ki_11 va_12 li ct od_13 ne ro) _ := hP
  have hD : va_D A (wM cI cZ hm b1 b2 b3 b4 b5 b6 b7 b8 b9 th (mk + (1 : Int32)) us_4 fi_5 se_6 ki_11 va_12 li ct od_13 ne ro) := hD
  refine lv_aload_n hx hb dX1_make_103 rfl (lv_at hl 0 rfl) ?_
  refine lv_dup hx hb dX1_make_104 rfl ?_
  refine va_get (D := (dC, dI)) (ci := 1) (v := .int ct) (C := RX1) (T := TX1) (N := 12) hx hb hts (fun w hw => List.mem_cons_of_mem _ (inX1 w hw)) hown hK hP 0 rfl rfl 8 (by decide) (hts _ (List.mem_cons_of_mem _ mw_452)) (fun _ h9 => h9) rfl dX1_make_105 ?_
  refine lv_iconst (v := (1 : Int32)) hx hb dX1_make_108 (by decide) ?_
  refine lv_iadd hx hb dX1_make_109 ?_
  refine va_put (D := (dC, dI)) (ci := 1) (v := .int (ct + (1 : Int32))) (ty := .int) (C := RX1) (T := TX1) (N := 12) hx hb hts (fun w hw => List.mem_cons_of_mem _ (inX1 w hw)) tyX1 tyX1_ok nmX1 hown hK hP hD hS 0 rfl rfl 8 (by decide) (hts _ (List.mem_cons_of_mem _ mw_452)) (fun _ h9 => h9) rfl (by decide +kernel) rfl rfl (Nat.le_of_ble_eq_true rfl) dX1_make_110 (fun H locs hP hD hS => ?_)
  have hP : va_P (dC, dI) vwCl (wM cI cZ hm b1 b2 b3 b4 b5 b6 b7 b8 b9 th (mk + (1 : Int32)) us_4 fi_5 se_6 ki_11 va_12 li (ct + (1 : Int32)) od_13 ne ro) _ := hP
  have hD : va_D A (wM cI cZ hm b1 b2 b3 b4 b5 b6 b7 b8 b9 th (mk + (1 : Int32)) us_4 fi_5 se_6 ki_11 va_12 li (ct + (1 : Int32)) od_13 ne ro) := hD
  refine lv_aload_n hx hb dX1_make_113 rfl (lv_at hl 0 rfl) ?_
  refine va_get (D := (dC, dI)) (ci := 1) (v := .ref b9) (C := RX1) (T := TX1) (N := 12) hx hb hts (fun w hw => List.mem_cons_of_mem _ (inX1 w hw)) hown hK hP 0 rfl rfl 11 (by decide) (hts _ (List.mem_cons_of_mem _ mw_455)) (fun _ h9 => h9) rfl dX1_make_114 ?_
  refine lv_iload_n hx hb dX1_make_117 rfl (lv_at hl 1 rfl) ?_
  refine lv_iload_n hx hb dX1_make_118 rfl (lv_at hl 3 rfl) ?_
  obtain ⟨ro_14, hv, hf⟩ := bd hf
  refine q_ist hx hb hK hP hD hS 9 0 rfl rfl hv dX1_make_119 (fun H locs hP hD hS => ?_)
  have hP : va_P (dC, dI) vwCl (wM cI cZ hm b1 b2 b3 b4 b5 b6 b7 b8 b9 th (mk + (1 : Int32)) us_4 fi_5 se_6 ki_11 va_12 li (ct + (1 : Int32)) od_13 ne ro_14) _ := hP
  have hD : va_D A (wM cI cZ hm b1 b2 b3 b4 b5 b6 b7 b8 b9 th (mk + (1 : Int32)) us_4 fi_5 se_6 ki_11 va_12 li (ct + (1 : Int32)) od_13 ne ro_14) := hD
  refine lv_aload_n hx hb dX1_make_120 rfl (lv_at hl 0 rfl) ?_
  refine va_get (D := (dC, dI)) (ci := 1) (v := .int (mk + (1 : Int32))) (C := RX1) (T := TX1) (N := 12) hx hb hts (fun w hw => List.mem_cons_of_mem _ (inX1 w hw)) hown hK hP 0 rfl rfl 1 (by decide) (hts _ (List.mem_cons_of_mem _ mw_445)) (fun _ h9 => h9) rfl dX1_make_121 ?_
  have hg0 := Option.some.inj hf
  obtain ⟨hq1, hg1⟩ := Prod.mk.inj hg0
  subst hq1
  obtain ⟨hq2, hg2⟩ := Prod.mk.inj hg1
  subst hq2
  obtain ⟨hq3, hg3⟩ := Prod.mk.inj hg2
  subst hq3
  obtain ⟨hq4, hg4⟩ := Prod.mk.inj hg3
  subst hq4
  obtain ⟨hq5, hg5⟩ := Prod.mk.inj hg4
  subst hq5
  obtain ⟨hq6, hg6⟩ := Prod.mk.inj hg5
  subst hq6
  obtain ⟨hq7, hg7⟩ := Prod.mk.inj hg6
  subst hq7
  obtain ⟨hq8, hg8⟩ := Prod.mk.inj hg7
  subst hq8
  obtain ⟨hq9, hg9⟩ := Prod.mk.inj hg8
  subst hq9
  subst hg9
  exact W.iret hx hb hr (fun t ht hW => ⟨⟨_, (), rfl, rfl, by rw [ht]; exact hP, va_K.moved hW.alike hK, hD⟩, hS.F ht⟩) hS.2.2 dX1_make_124
set_option maxHeartbeats 4000000 in
set_option maxRecDepth 100000 in
theorem ctX1_isRoot (l : Launch) (dC : Nat → ClassId) (dI : Nat → Nat → Nat) (cI cZ cL : ClassId) (sz : Nat) (x0 : Int32) (rs : Int32) (hf : fX1_isRoot x0 = some rs) : Met l yX1_isRoot wsX1_isRoot rmX1_isRoot (va_Pc [.int x0] (q_pre (dC, dI) vwCl (tyA cI cZ cL) sz ([] : va_W))) (va_Qi (fun r (_ : Unit) => r = rs) (fun _ => q_post (dC, dI) vwCl (tyA cI cZ cL) (va_A ([] : va_W) sz) ([] : va_W)) (va_A ([] : va_W) sz)) 0 0 (va_A ([] : va_W) sz) := by
  refine Met.ofW (cc := cX1_isRoot) (maxL := 1) (ret := (some .boolean)) (by decide) rfl ?_
  intro p e s m args below meth c s₁ B hml hv
  obtain ⟨rfl, hsz, hP, hK, hD0⟩ := hv
  have hx := B.exec
  have hb := B.bytes
  have hr := B.returns
  have hts := atoms_spec (ws := wsX1_isRoot) B.pre
  have hown : s.vm.findClass RX1 = some m.cls := findClass_of_methodNamed B.named
  subst hsz
  have hD := hD0.self (sz := s.heap.size)
  generalize hAe : va_A ([] : va_W) s.heap.size = A at hD ⊢
  have hA : ∀ q : Nat, s.heap.size ≤ q → A q := fun q h => by rw [← hAe]; exact Or.inr h
  have hS : va_S A s.heap s.heap [] := va_S.rf
  have hl := lv_entry ([.int x0]) (n := 1) (Nat.le_of_ble_eq_true rfl)
  rw [lg_entry_eq]
  generalize (lg_sl ([.int x0]) ++ List.replicate (1 - (lg_sl ([.int x0])).length) Slot.unset).toArray = ls at hl ⊢
  have hl : lv_has ls 1 [(0, .int x0)] := hl
  unfold fX1_isRoot at hf
  refine lv_iload_n hx hb dX1_isRoot_0 rfl (lv_at hl 0 rfl) ?_
  refine lv_if_lt (tgt := 14) hx hb dX1_isRoot_1 (by decide) (fun h1 => ?_) (fun h1 => ?_)
  · have hf := ift h1 hf
    refine lv_iconst (v := (0 : Int32)) hx hb dX1_isRoot_14 (by decide) ?_
    have hg0 := Option.some.inj hf
    subst hg0
    exact W.zret hx hb hr rfl (fun t ht hW => ⟨⟨_, (), rfl, rfl, by rw [ht]; exact hP, va_K.moved hW.alike hK, hD⟩, hS.F ht⟩) hS.2.2 dX1_isRoot_15
  · have hf := ifn h1 hf
    refine lv_iload_n hx hb dX1_isRoot_4 rfl (lv_at hl 0 rfl) ?_
    refine lv_bipush (v := (7 : Int32)) hx hb dX1_isRoot_5 (by decide) ?_
    refine lv_icmp_gt (tgt := 14) hx hb dX1_isRoot_7 (by decide) (fun h2 => ?_) (fun h2 => ?_)
    · have hf := ift h2 hf
      refine lv_iconst (v := (0 : Int32)) hx hb dX1_isRoot_14 (by decide) ?_
      have hg0 := Option.some.inj hf
      subst hg0
      exact W.zret hx hb hr rfl (fun t ht hW => ⟨⟨_, (), rfl, rfl, by rw [ht]; exact hP, va_K.moved hW.alike hK, hD⟩, hS.F ht⟩) hS.2.2 dX1_isRoot_15
    · have hf := ifn h2 hf
      refine lv_iconst (v := (1 : Int32)) hx hb dX1_isRoot_10 (by decide) ?_
      refine lv_goto (tgt := 15) hx hb dX1_isRoot_11 (by decide) ?_
      have hg0 := Option.some.inj hf
      subst hg0
      exact W.zret hx hb hr rfl (fun t ht hW => ⟨⟨_, (), rfl, rfl, by rw [ht]; exact hP, va_K.moved hW.alike hK, hD⟩, hS.F ht⟩) hS.2.2 dX1_isRoot_15
set_option maxHeartbeats 4000000 in
set_option maxRecDepth 100000 in
theorem ctX1_isFields (l : Launch) (dC : Nat → ClassId) (dI : Nat → Nat → Nat) (cI cZ cL : ClassId) (sz : Nat) (x0 : Int32) (rs : Int32) (hf : fX1_isFields x0 = some rs) : Met l yX1_isFields wsX1_isFields rmX1_isFields (va_Pc [.int x0] (q_pre (dC, dI) vwCl (tyA cI cZ cL) sz ([] : va_W))) (va_Qi (fun r (_ : Unit) => r = rs) (fun _ => q_post (dC, dI) vwCl (tyA cI cZ cL) (va_A ([] : va_W) sz) ([] : va_W)) (va_A ([] : va_W) sz)) 0 0 (va_A ([] : va_W) sz) := by
  refine Met.ofW (cc := cX1_isFields) (maxL := 1) (ret := (some .boolean)) (by decide) rfl ?_
  intro p e s m args below meth c s₁ B hml hv
  obtain ⟨rfl, hsz, hP, hK, hD0⟩ := hv
  have hx := B.exec
  have hb := B.bytes
  have hr := B.returns
  have hts := atoms_spec (ws := wsX1_isFields) B.pre
  have hown : s.vm.findClass RX1 = some m.cls := findClass_of_methodNamed B.named
  subst hsz
  have hD := hD0.self (sz := s.heap.size)
  generalize hAe : va_A ([] : va_W) s.heap.size = A at hD ⊢
  have hA : ∀ q : Nat, s.heap.size ≤ q → A q := fun q h => by rw [← hAe]; exact Or.inr h
  have hS : va_S A s.heap s.heap [] := va_S.rf
  have hl := lv_entry ([.int x0]) (n := 1) (Nat.le_of_ble_eq_true rfl)
  rw [lg_entry_eq]
  generalize (lg_sl ([.int x0]) ++ List.replicate (1 - (lg_sl ([.int x0])).length) Slot.unset).toArray = ls at hl ⊢
  have hl : lv_has ls 1 [(0, .int x0)] := hl
  unfold fX1_isFields at hf
  refine lv_iload_n hx hb dX1_isFields_0 rfl (lv_at hl 0 rfl) ?_
  refine lv_if_lt (tgt := 14) hx hb dX1_isFields_1 (by decide) (fun h1 => ?_) (fun h1 => ?_)
  · have hf := ift h1 hf
    refine lv_iconst (v := (0 : Int32)) hx hb dX1_isFields_14 (by decide) ?_
    have hg0 := Option.some.inj hf
    subst hg0
    exact W.zret hx hb hr rfl (fun t ht hW => ⟨⟨_, (), rfl, rfl, by rw [ht]; exact hP, va_K.moved hW.alike hK, hD⟩, hS.F ht⟩) hS.2.2 dX1_isFields_15
  · have hf := ifn h1 hf
    refine lv_iload_n hx hb dX1_isFields_4 rfl (lv_at hl 0 rfl) ?_
    refine lv_bipush (v := (6 : Int32)) hx hb dX1_isFields_5 (by decide) ?_
    refine lv_icmp_gt (tgt := 14) hx hb dX1_isFields_7 (by decide) (fun h2 => ?_) (fun h2 => ?_)
    · have hf := ift h2 hf
      refine lv_iconst (v := (0 : Int32)) hx hb dX1_isFields_14 (by decide) ?_
      have hg0 := Option.some.inj hf
      subst hg0
      exact W.zret hx hb hr rfl (fun t ht hW => ⟨⟨_, (), rfl, rfl, by rw [ht]; exact hP, va_K.moved hW.alike hK, hD⟩, hS.F ht⟩) hS.2.2 dX1_isFields_15
    · have hf := ifn h2 hf
      refine lv_iconst (v := (1 : Int32)) hx hb dX1_isFields_10 (by decide) ?_
      refine lv_goto (tgt := 15) hx hb dX1_isFields_11 (by decide) ?_
      have hg0 := Option.some.inj hf
      subst hg0
      exact W.zret hx hb hr rfl (fun t ht hW => ⟨⟨_, (), rfl, rfl, by rw [ht]; exact hP, va_K.moved hW.alike hK, hD⟩, hS.F ht⟩) hS.2.2 dX1_isFields_15
set_option maxHeartbeats 4000000 in
set_option maxRecDepth 100000 in
theorem ctX1_fits (l : Launch) (dC : Nat → ClassId) (dI : Nat → Nat → Nat) (cI cZ cL : ClassId) (hm b1 b2 b3 b4 b5 b6 b7 b8 b9 : Nat) (sz : Nat) (th : Int32) (mk : Int32) (us : Nat → Int32) (fi : Nat → Int32) (se : Nat → Int32) (ki : Nat → Int32) (va : Nat → Int32) (li : Nat → Int32) (ct : Int32) (od : Nat → Int32) (ne : Nat → Int32) (ro : Nat → Int32) (x1 : Int32) (rs : Int32) (hf : fX1_fits fi ct od x1 = some rs) : Met l yX1_fits wsX1_fits rmX1_fits (va_Pc [.ref hm, .int x1] (q_pre (dC, dI) vwCl (tyA cI cZ cL) sz (wM cI cZ hm b1 b2 b3 b4 b5 b6 b7 b8 b9 th mk us fi se ki va li ct od ne ro))) (va_Qi (fun r (_ : Unit) => r = rs) (fun _ => q_post (dC, dI) vwCl (tyA cI cZ cL) (va_A (wM cI cZ hm b1 b2 b3 b4 b5 b6 b7 b8 b9 th mk us fi se ki va li ct od ne ro) sz) (wM cI cZ hm b1 b2 b3 b4 b5 b6 b7 b8 b9 th mk us fi se ki va li ct od ne ro)) (va_A (wM cI cZ hm b1 b2 b3 b4 b5 b6 b7 b8 b9 th mk us fi se ki va li ct od ne ro) sz)) 0 0 (va_A (wM cI cZ hm b1 b2 b3 b4 b5 b6 b7 b8 b9 th mk us fi se ki va li ct od ne ro) sz) := by
  refine Met.ofW (cc := cX1_fits) (maxL := 2) (ret := (some .boolean)) (by decide) rfl ?_
  intro p e s m args below meth c s₁ B hml hv
  obtain ⟨rfl, hsz, hP, hK, hD0⟩ := hv
  have hx := B.exec
  have hb := B.bytes
  have hr := B.returns
  have hts := atoms_spec (ws := wsX1_fits) B.pre
  have hown : s.vm.findClass RX1 = some m.cls := findClass_of_methodNamed B.named
  subst hsz
  have hD := hD0.self (sz := s.heap.size)
  generalize hAe : va_A (wM cI cZ hm b1 b2 b3 b4 b5 b6 b7 b8 b9 th mk us fi se ki va li ct od ne ro) s.heap.size = A at hD ⊢
  have hA : ∀ q : Nat, s.heap.size ≤ q → A q := fun q h => by rw [← hAe]; exact Or.inr h
  have hS : va_S A s.heap s.heap [] := va_S.rf
  have hl := lv_entry ([.ref hm, .int x1]) (n := 2) (Nat.le_of_ble_eq_true rfl)
  rw [lg_entry_eq]
  generalize (lg_sl ([.ref hm, .int x1]) ++ List.replicate (2 - (lg_sl ([.ref hm, .int x1])).length) Slot.unset).toArray = ls at hl ⊢
  have hl : lv_has ls 2 [(0, .ref hm), (1, .int x1)] := hl
  unfold fX1_fits at hf
  refine lv_aload_n hx hb dX1_fits_0 rfl (lv_at hl 0 rfl) ?_
  obtain ⟨v1, hv, hf⟩ := bd hf
  refine q_ci (wr := []) (va_runV (As := []) (rest := []) ⟨hx, hb, hml, hown, hts⟩ (ctX1_topNow l dC dI cI cZ cL hm b1 b2 b3 b4 b5 b6 b7 b8 b9 _ th mk us fi se ki va li ct od ne ro v1 hv) (cwV 0 hts (gV mw_494 mw_496 mw_24 mw_40 mw_497) rfl rfl rfl (by decide +kernel) ⟨Nat.le_of_ble_eq_true rfl, Nat.le_of_ble_eq_true rfl⟩) (q_preV [] hK hP hD [0, 1, 2, 3, 4, 5, 6, 7, 8, 9] (by decide) rfl (ci := 1) rfl rfl) rfl rfl hl.1 rfl (lv_room (Nat.le_of_ble_eq_true rfl)) dX1_fits_1 ⟨Nat.le_of_ble_eq_true rfl, Nat.le_of_ble_eq_true rfl⟩) hP hD hS hA [0, 1, 2, 3, 4, 5, 6, 7, 8, 9] [] rfl rfl (by decide) (by decide) (fun H locs hP hD hS => ?_)
  have hP : va_P (dC, dI) vwCl (wM cI cZ hm b1 b2 b3 b4 b5 b6 b7 b8 b9 th mk us fi se ki va li ct od ne ro) _ := hP
  have hD : va_D A (wM cI cZ hm b1 b2 b3 b4 b5 b6 b7 b8 b9 th mk us fi se ki va li ct od ne ro) := hD
  refine lv_iload_n hx hb dX1_fits_4 rfl (lv_at hl 1 rfl) ?_
  refine lv_iadd hx hb dX1_fits_5 ?_
  refine lv_iconst (v := (2 : Int32)) hx hb dX1_fits_6 (by decide) ?_
  refine lv_iadd hx hb dX1_fits_7 ?_
  refine lv_sipush (v := (256 : Int32)) hx hb dX1_fits_8 (by decide) ?_
  refine lv_icmp_gt (tgt := 18) hx hb dX1_fits_11 (by decide) (fun h2 => ?_) (fun h2 => ?_)
  · have hf := ift h2 hf
    refine lv_iconst (v := (0 : Int32)) hx hb dX1_fits_18 (by decide) ?_
    have hg0 := Option.some.inj hf
    subst hg0
    exact W.zret hx hb hr rfl (fun t ht hW => ⟨⟨_, (), rfl, rfl, by rw [ht]; exact hP, va_K.moved hW.alike hK, hD⟩, hS.F ht⟩) hS.2.2 dX1_fits_19
  · have hf := ifn h2 hf
    refine lv_iconst (v := (1 : Int32)) hx hb dX1_fits_14 (by decide) ?_
    refine lv_goto (tgt := 19) hx hb dX1_fits_15 (by decide) ?_
    have hg0 := Option.some.inj hf
    subst hg0
    exact W.zret hx hb hr rfl (fun t ht hW => ⟨⟨_, (), rfl, rfl, by rw [ht]; exact hP, va_K.moved hW.alike hK, hD⟩, hS.F ht⟩) hS.2.2 dX1_fits_19
