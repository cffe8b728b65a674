set_option maxHeartbeats 4000000 in
set_option maxRecDepth 100000 in
theorem ctX1_thrown (l : Launch) (dC : Nat → ClassId) (dI : Nat → Nat → Nat) (cI cZ cL : ClassId) (hm b1 b2 b3 b4 b5 b6 b7 b8 b9 : Nat) (sz : Nat) (th : Int32) (mk : Int32) (us : Nat → Int32) (fi : Nat → Int32) (se : Nat → Int32) (ki : Nat → Int32) (va : Nat → Int32) (li : Nat → Int32) (ct : Int32) (od : Nat → Int32) (ne : Nat → Int32) (ro : Nat → Int32) (rs : Int32) (hf : fX1_thrown th = some rs) : Met l yX1_thrown wsX1_thrown rmX1_thrown (va_Pc [.ref hm] (q_pre (dC, dI) vwCl (tyA cI cZ cL) sz (wM cI cZ hm b1 b2 b3 b4 b5 b6 b7 b8 b9 th mk us fi se ki va li ct od ne ro))) (va_Qi (fun r (_ : Unit) => r = rs) (fun _ => q_post (dC, dI) vwCl (tyA cI cZ cL) (va_A (wM cI cZ hm b1 b2 b3 b4 b5 b6 b7 b8 b9 th mk us fi se ki va li ct od ne ro) sz) (wM cI cZ hm b1 b2 b3 b4 b5 b6 b7 b8 b9 th mk us fi se ki va li ct od ne ro)) (va_A (wM cI cZ hm b1 b2 b3 b4 b5 b6 b7 b8 b9 th mk us fi se ki va li ct od ne ro) sz)) 0 0 (va_A (wM cI cZ hm b1 b2 b3 b4 b5 b6 b7 b8 b9 th mk us fi se ki va li ct od ne ro) sz) := by
  refine Met.ofW (cc := cX1_thrown) (maxL := 1) (ret := (some .int)) (by decide) rfl ?_
  intro p e s m args below meth c s₁ B hml hv
  obtain ⟨rfl, hsz, hP, hK, hD0⟩ := hv
  have hx := B.exec
  have hb := B.bytes
  have hr := B.returns
  have hts := atoms_spec (ws := wsX1_thrown) B.pre
  have hown : s.vm.findClass RX1 = some m.cls := findClass_of_methodNamed B.named
  subst hsz
  have hD := hD0.self (sz := s.heap.size)
  generalize hAe : va_A (wM cI cZ hm b1 b2 b3 b4 b5 b6 b7 b8 b9 th mk us fi se ki va li ct od ne ro) s.heap.size = A at hD ⊢
  have hA : ∀ q : Nat, s.heap.size ≤ q → A q := fun q h => by rw [← hAe]; exact Or.inr h
  have hS : va_S A s.heap s.heap [] := va_S.rf
  have hl := lv_entry ([.ref hm]) (n := 1) (Nat.le_of_ble_eq_true rfl)
  rw [lg_entry_eq]
  generalize (lg_sl ([.ref hm]) ++ List.replicate (1 - (lg_sl ([.ref hm])).length) Slot.unset).toArray = ls at hl ⊢
  have hl : lv_has ls 1 [(0, .ref hm)] := hl
  unfold fX1_thrown at hf
  refine lv_aload_n hx hb dX1_thrown_0 rfl (lv_at hl 0 rfl) ?_
  refine va_get (D := (dC, dI)) (ci := 1) (v := .int th) (C := RX1) (T := TX1) (N := 12) hx hb hts (fun w hw => List.mem_cons_of_mem _ (inX1 w hw)) hown hK hP 0 rfl rfl 0 (by decide) (hts _ (List.mem_cons_of_mem _ mw_444)) (fun _ h9 => h9) rfl dX1_thrown_1 ?_
  have hg0 := Option.some.inj hf
  subst hg0
  exact W.iret hx hb hr (fun t ht hW => ⟨⟨_, (), rfl, rfl, by rw [ht]; exact hP, va_K.moved hW.alike hK, hD⟩, hS.F ht⟩) hS.2.2 dX1_thrown_4
set_option maxHeartbeats 4000000 in
set_option maxRecDepth 100000 in
theorem wX1_topNow_L4 {p : Program} {l : Launch} {e : Env} {s : State} {m : MethodId} {args : Array Value} {below : List Frame} {meth : Method} {c : Code} {Q : State → Prop} {A : Nat → Prop} (dC : Nat → ClassId) (dI : Nat → Nat → Nat) (cI cZ cL : ClassId) (hm b1 b2 b3 b4 b5 b6 b7 b8 b9 : Nat) (hx : p.tables.exec = Jvm.exec) (hb : c.code = cX1_topNow) (hml : c.maxLocals = 3) (hown : s.vm.findClass RX1 = some m.cls) (hts : ∀ w ∈ wsX1_topNow, w.before args s = true) (hK : va_K (dC, dI) vwCl (tyA cI cZ cL) s) (hA : ∀ q : Nat, s.heap.size ≤ q → A q) (th : Int32) (mk : Int32) (us : Nat → Int32) (fi : Nat → Int32) (se : Nat → Int32) (ki : Nat → Int32) (va : Nat → Int32) (li : Nat → Int32) (ct : Int32) (od : Nat → Int32) (ne : Nat → Int32) (ro : Nat → Int32) (n : Nat) :
    ∀ (x1_ : Int32) (x2_ : Int32) (x1_' : Int32) (x2_' : Int32), fX1_topNow_L4 fi ct od n x1_ x2_ = some (x1_', x2_') → ∀ (H : Heap) (locs : List Loc) (ls : Array Slot), va_P (dC, dI) vwCl (wM cI cZ hm b1 b2 b3 b4 b5 b6 b7 b8 b9 th mk us fi se ki va li ct od ne ro) H → va_D A (wM cI cZ hm b1 b2 b3 b4 b5 b6 b7 b8 b9 th mk us fi se ki va li ct od ne ro) → va_S A s.heap H locs → lv_has ls 3 [(0, .ref hm), (1, .int x1_), (2, .int x2_)] → (∀ (H : Heap) (locs : List Loc) (ls : Array Slot), va_P (dC, dI) vwCl (wM cI cZ hm b1 b2 b3 b4 b5 b6 b7 b8 b9 th mk us fi se ki va li ct od ne ro) H → va_D A (wM cI cZ hm b1 b2 b3 b4 b5 b6 b7 b8 b9 th mk us fi se ki va li ct od ne ro) → va_S A s.heap H locs → lv_has ls 3 [(0, .ref hm), (1, .int x1_'), (2, .int x2_')] → W p l e (headSpec wsX1_topNow rmX1_topNow).room s m args below meth c H locs 0 0 Q (F0 m 34 ls [])) → W p l e (headSpec wsX1_topNow rmX1_topNow).room s m args below meth c H locs 0 0 Q (F0 m 4 ls []) := by
  induction n with
  | zero => intro x1_ x2_ x1_' x2_' hf; cases hf
  | succ n ih =>
    intro x1_ x2_ x1_' x2_' hf H locs ls hP hD hS hl k0
    have hf := (fX1_topNow_L4_s fi ct od n x1_ x2_).symm.trans hf
    refine lv_iload_n hx hb dX1_topNow_4 rfl (lv_at hl 2 rfl) ?_
    refine lv_aload_n hx hb dX1_topNow_5 rfl (lv_at hl 0 rfl) ?_
    refine va_get (D := (dC, dI)) (ci := 1) (v := .int ct) (C := RX1) (T := TX1) (N := 12) hx hb hts (fun w hw => List.mem_cons_of_mem _ (inX1 w hw)) hown hK hP 0 rfl rfl 8 (by decide) (hts _ (List.mem_cons_of_mem _ mw_452)) (fun _ h9 => h9) rfl dX1_topNow_6 ?_
    refine lv_icmp_ge (tgt := 34) hx hb dX1_topNow_9 (by decide) (fun h1 => ?_) (fun h1 => ?_)
    · have hf := ift h1 hf
      cases hf
      exact k0 _ _ _ hP hD hS (lv_sub hl [0, 1, 2] rfl)
    · have hf := ifn h1 hf
      refine lv_iload_n hx hb dX1_topNow_12 rfl (lv_at hl 1 rfl) ?_
      refine lv_aload_n hx hb dX1_topNow_13 rfl (lv_at hl 0 rfl) ?_
      refine va_get (D := (dC, dI)) (ci := 1) (v := .ref b2) (C := RX1) (T := TX1) (N := 12) hx hb hts (fun w hw => List.mem_cons_of_mem _ (inX1 w hw)) hown hK hP 0 rfl rfl 3 (by decide) (hts _ (List.mem_cons_of_mem _ mw_447)) (fun _ h9 => h9) rfl dX1_topNow_14 ?_
      refine lv_aload_n hx hb dX1_topNow_17 rfl (lv_at hl 0 rfl) ?_
      refine va_get (D := (dC, dI)) (ci := 1) (v := .ref b7) (C := RX1) (T := TX1) (N := 12) hx hb hts (fun w hw => List.mem_cons_of_mem _ (inX1 w hw)) hown hK hP 0 rfl rfl 9 (by decide) (hts _ (List.mem_cons_of_mem _ mw_453)) (fun _ h9 => h9) rfl dX1_topNow_18 ?_
      refine lv_iload_n hx hb dX1_topNow_21 rfl (lv_at hl 2 rfl) ?_
      obtain ⟨v2, hv, hf⟩ := bd hf
      refine q_ild hx hb hK hP 7 0 rfl rfl hv dX1_topNow_22 ?_
      obtain ⟨v3, hv, hf⟩ := bd hf
      refine q_ild hx hb hK hP 2 0 rfl rfl hv dX1_topNow_23 ?_
      refine lv_iadd hx hb dX1_topNow_24 ?_
      refine lv_iconst (v := (2 : Int32)) hx hb dX1_topNow_25 (by decide) ?_
      refine lv_iadd hx hb dX1_topNow_26 ?_
      refine lv_istore_n hx hb dX1_topNow_27 rfl hl (by decide) rfl (fun ls hl => ?_)
      have hl : lv_has ls 3 [(1, .int ((x1_ + v3) + (2 : Int32))), (0, .ref hm), (2, .int x2_)] := hl
      refine lv_iinc (v := x2_ + (1 : Int32)) hx hb dX1_topNow_28 hl (k := 2) rfl (by rfl) (by decide) rfl (fun ls hl => ?_)
      have hl : lv_has ls 3 [(2, .int (x2_ + (1 : Int32))), (1, .int ((x1_ + v3) + (2 : Int32))), (0, .ref hm)] := hl
      refine lv_goto (tgt := 4) hx hb dX1_topNow_31 (by decide) ?_
      exact ih _ _ _ _ hf _ _ _ hP hD hS (lv_sub hl [2, 1, 0] rfl) k0
set_option maxHeartbeats 4000000 in
set_option maxRecDepth 100000 in
theorem ctX1_topNow (l : Launch) (dC : Nat → ClassId) (dI : Nat → Nat → Nat) (cI cZ cL : ClassId) (hm b1 b2 b3 b4 b5 b6 b7 b8 b9 : Nat) (sz : Nat) (th : Int32) (mk : Int32) (us : Nat → Int32) (fi : Nat → Int32) (se : Nat → Int32) (ki : Nat → Int32) (va : Nat → Int32) (li : Nat → Int32) (ct : Int32) (od : Nat → Int32) (ne : Nat → Int32) (ro : Nat → Int32) (rs : Int32) (hf : fX1_topNow fi ct od = some rs) : Met l yX1_topNow wsX1_topNow rmX1_topNow (va_Pc [.ref hm] (q_pre (dC, dI) vwCl (tyA cI cZ cL) sz (wM cI cZ hm b1 b2 b3 b4 b5 b6 b7 b8 b9 th mk us fi se ki va li ct od ne ro))) (va_Qi (fun r (_ : Unit) => r = rs) (fun _ => q_post (dC, dI) vwCl (tyA cI cZ cL) (va_A (wM cI cZ hm b1 b2 b3 b4 b5 b6 b7 b8 b9 th mk us fi se ki va li ct od ne ro) sz) (wM cI cZ hm b1 b2 b3 b4 b5 b6 b7 b8 b9 th mk us fi se ki va li ct od ne ro)) (va_A (wM cI cZ hm b1 b2 b3 b4 b5 b6 b7 b8 b9 th mk us fi se ki va li ct od ne ro) sz)) 0 0 (va_A (wM cI cZ hm b1 b2 b3 b4 b5 b6 b7 b8 b9 th mk us fi se ki va li ct od ne ro) sz) := by
  refine Met.ofW (cc := cX1_topNow) (maxL := 3) (ret := (some .int)) (by decide) rfl ?_
  intro p e s m args below meth c s₁ B hml hv
  obtain ⟨rfl, hsz, hP, hK, hD0⟩ := hv
  have hx := B.exec
  have hb := B.bytes
  have hr := B.returns
  have hts := atoms_spec (ws := wsX1_topNow) B.pre
  have hown : s.vm.findClass RX1 = some m.cls := findClass_of_methodNamed B.named
  subst hsz
  have hD := hD0.self (sz := s.heap.size)
  generalize hAe : va_A (wM cI cZ hm b1 b2 b3 b4 b5 b6 b7 b8 b9 th mk us fi se ki va li ct od ne ro) s.heap.size = A at hD ⊢
  have hA : ∀ q : Nat, s.heap.size ≤ q → A q := fun q h => by rw [← hAe]; exact Or.inr h
  have hS : va_S A s.heap s.heap [] := va_S.rf
  have hl := lv_entry ([.ref hm]) (n := 3) (Nat.le_of_ble_eq_true rfl)
  rw [lg_entry_eq]
  generalize (lg_sl ([.ref hm]) ++ List.replicate (3 - (lg_sl ([.ref hm])).length) Slot.unset).toArray = ls at hl ⊢
  have hl : lv_has ls 3 [(0, .ref hm)] := hl
  unfold fX1_topNow at hf
  refine lv_iconst (v := (0 : Int32)) hx hb dX1_topNow_0 (by decide) ?_
  refine lv_istore_n hx hb dX1_topNow_1 rfl hl (by decide) rfl (fun ls hl => ?_)
  have hl : lv_has ls 3 [(1, .int (0 : Int32)), (0, .ref hm)] := hl
  refine lv_iconst (v := (0 : Int32)) hx hb dX1_topNow_2 (by decide) ?_
  refine lv_istore_n hx hb dX1_topNow_3 rfl hl (by decide) rfl (fun ls hl => ?_)
  have hl : lv_has ls 3 [(2, .int (0 : Int32)), (1, .int (0 : Int32)), (0, .ref hm)] := hl
  obtain ⟨⟨x_4, x_5⟩, hv, hf⟩ := bd hf
  dsimp only at hf
  refine wX1_topNow_L4 dC dI cI cZ cL hm b1 b2 b3 b4 b5 b6 b7 b8 b9 hx hb hml hown hts hK hA th mk us fi se ki va li ct od ne ro FU (0 : Int32) (0 : Int32) x_4 x_5 hv _ _ _ hP hD hS (lv_sub hl [2, 1, 0] rfl) (fun H locs ls hP hD hS hl => ?_)
  refine lv_iload_n hx hb dX1_topNow_34 rfl (lv_at hl 1 rfl) ?_
  have hg0 := Option.some.inj hf
  subst hg0
  exact W.iret hx hb hr (fun t ht hW => ⟨⟨_, (), rfl, rfl, by rw [ht]; exact hP, va_K.moved hW.alike hK, hD⟩, hS.F ht⟩) hS.2.2 dX1_topNow_35
set_option maxHeartbeats 4000000 in
set_option maxRecDepth 100000 in
theorem wX1_addressOf_L4 {p : Program} {l : Launch} {e : Env} {s : State} {m : MethodId} {args : Array Value} {below : List Frame} {meth : Method} {c : Code} {Q : State → Prop} {A : Nat → Prop} (dC : Nat → ClassId) (dI : Nat → Nat → Nat) (cI cZ cL : ClassId) (hm b1 b2 b3 b4 b5 b6 b7 b8 b9 : Nat) (hx : p.tables.exec = Jvm.exec) (hb : c.code = cX1_addressOf) (hml : c.maxLocals = 4) (hown : s.vm.findClass RX1 = some m.cls) (hts : ∀ w ∈ wsX1_addressOf, w.before args s = true) (hK : va_K (dC, dI) vwCl (tyA cI cZ cL) s) (hA : ∀ q : Nat, s.heap.size ≤ q → A q) (x1_ : Int32) (th : Int32) (mk : Int32) (us : Nat → Int32) (fi : Nat → Int32) (se : Nat → Int32) (ki : Nat → Int32) (va : Nat → Int32) (li : Nat → Int32) (ct : Int32) (od : Nat → Int32) (ne : Nat → Int32) (ro : Nat → Int32) (n : Nat) :
    ∀ (x2_ : Int32) (x3_ : Int32) (tg : Nat) (x2_' : Int32) (x3_' : Int32) (rv : Int32), fX1_addressOf_L4 x1_ fi ct od n x2_ x3_ = some (tg, x2_', x3_', rv) → ∀ (H : Heap) (locs : List Loc) (ls : Array Slot), va_P (dC, dI) vwCl (wM cI cZ hm b1 b2 b3 b4 b5 b6 b7 b8 b9 th mk us fi se ki va li ct od ne ro) H → va_D A (wM cI cZ hm b1 b2 b3 b4 b5 b6 b7 b8 b9 th mk us fi se ki va li ct od ne ro) → va_S A s.heap H locs → lv_has ls 4 [(0, .ref hm), (1, .int x1_), (2, .int x2_), (3, .int x3_)] → (tg = 0 → ∀ (H : Heap) (locs : List Loc) (ls : Array Slot), va_P (dC, dI) vwCl (wM cI cZ hm b1 b2 b3 b4 b5 b6 b7 b8 b9 th mk us fi se ki va li ct od ne ro) H → va_D A (wM cI cZ hm b1 b2 b3 b4 b5 b6 b7 b8 b9 th mk us fi se ki va li ct od ne ro) → va_S A s.heap H locs → lv_has ls 4 [(0, .ref hm), (1, .int x1_), (2, .int x2_'), (3, .int x3_')] → W p l e (headSpec wsX1_addressOf rmX1_addressOf).room s m args below meth c H locs 0 0 Q (F0 m 46 ls [])) → (tg = 1 → ∀ (H : Heap) (locs : List Loc) (ls : Array Slot), va_P (dC, dI) vwCl (wM cI cZ hm b1 b2 b3 b4 b5 b6 b7 b8 b9 th mk us fi se ki va li ct od ne ro) H → va_D A (wM cI cZ hm b1 b2 b3 b4 b5 b6 b7 b8 b9 th mk us fi se ki va li ct od ne ro) → va_S A s.heap H locs → lv_has ls 4 [(0, .ref hm), (1, .int x1_), (2, .int x2_'), (3, .int x3_')] → W p l e (headSpec wsX1_addressOf rmX1_addressOf).room s m args below meth c H locs 0 0 Q (F0 m 23 ls [.int rv])) → W p l e (headSpec wsX1_addressOf rmX1_addressOf).room s m args below meth c H locs 0 0 Q (F0 m 4 ls []) := by
  induction n with
  | zero => intro x2_ x3_ tg x2_' x3_' rv hf; cases hf
  | succ n ih =>
    intro x2_ x3_ tg x2_' x3_' rv hf H locs ls hP hD hS hl k0 k1
    have hf := (fX1_addressOf_L4_s x1_ fi ct od n x2_ x3_).symm.trans hf
    refine lv_iload_n hx hb dX1_addressOf_4 rfl (lv_at hl 3 rfl) ?_
    refine lv_aload_n hx hb dX1_addressOf_5 rfl (lv_at hl 0 rfl) ?_
    refine va_get (D := (dC, dI)) (ci := 1) (v := .int ct) (C := RX1) (T := TX1) (N := 12) hx hb hts (fun w hw => List.mem_cons_of_mem _ (inX1 w hw)) hown hK hP 0 rfl rfl 8 (by decide) (hts _ (List.mem_cons_of_mem _ mw_452)) (fun _ h9 => h9) rfl dX1_addressOf_6 ?_
    refine lv_icmp_ge (tgt := 46) hx hb dX1_addressOf_9 (by decide) (fun h1 => ?_) (fun h1 => ?_)
    · have hf := ift h1 hf
      cases hf
      exact k0 rfl _ _ _ hP hD hS (lv_sub hl [0, 1, 2, 3] rfl)
    · have hf := ifn h1 hf
      refine lv_aload_n hx hb dX1_addressOf_12 rfl (lv_at hl 0 rfl) ?_
      refine va_get (D := (dC, dI)) (ci := 1) (v := .ref b7) (C := RX1) (T := TX1) (N := 12) hx hb hts (fun w hw => List.mem_cons_of_mem _ (inX1 w hw)) hown hK hP 0 rfl rfl 9 (by decide) (hts _ (List.mem_cons_of_mem _ mw_453)) (fun _ h9 => h9) rfl dX1_addressOf_13 ?_
      refine lv_iload_n hx hb dX1_addressOf_16 rfl (lv_at hl 3 rfl) ?_
      obtain ⟨v2, hv, hf⟩ := bd hf
      refine q_ild hx hb hK hP 7 0 rfl rfl hv dX1_addressOf_17 ?_
      refine lv_iload_n hx hb dX1_addressOf_18 rfl (lv_at hl 1 rfl) ?_
      refine lv_icmp_ne (tgt := 24) hx hb dX1_addressOf_19 (by decide) (fun h3 => ?_) (fun h3 => ?_)
      · have hf := ifn h3 hf
        refine lv_iload_n hx hb dX1_addressOf_24 rfl (lv_at hl 2 rfl) ?_
        refine lv_aload_n hx hb dX1_addressOf_25 rfl (lv_at hl 0 rfl) ?_
        refine va_get (D := (dC, dI)) (ci := 1) (v := .ref b2) (C := RX1) (T := TX1) (N := 12) hx hb hts (fun w hw => List.mem_cons_of_mem _ (inX1 w hw)) hown hK hP 0 rfl rfl 3 (by decide) (hts _ (List.mem_cons_of_mem _ mw_447)) (fun _ h9 => h9) rfl dX1_addressOf_26 ?_
        refine lv_aload_n hx hb dX1_addressOf_29 rfl (lv_at hl 0 rfl) ?_
        refine va_get (D := (dC, dI)) (ci := 1) (v := .ref b7) (C := RX1) (T := TX1) (N := 12) hx hb hts (fun w hw => List.mem_cons_of_mem _ (inX1 w hw)) hown hK hP 0 rfl rfl 9 (by decide) (hts _ (List.mem_cons_of_mem _ mw_453)) (fun _ h9 => h9) rfl dX1_addressOf_30 ?_
        refine lv_iload_n hx hb dX1_addressOf_33 rfl (lv_at hl 3 rfl) ?_
        obtain ⟨v4, hv, hf⟩ := bd hf
        refine q_ild hx hb hK hP 7 0 rfl rfl hv dX1_addressOf_34 ?_
        obtain ⟨v5, hv, hf⟩ := bd hf
        refine q_ild hx hb hK hP 2 0 rfl rfl hv dX1_addressOf_35 ?_
        refine lv_iadd hx hb dX1_addressOf_36 ?_
        refine lv_iconst (v := (2 : Int32)) hx hb dX1_addressOf_37 (by decide) ?_
        refine lv_iadd hx hb dX1_addressOf_38 ?_
        refine lv_istore_n hx hb dX1_addressOf_39 rfl hl (by decide) rfl (fun ls hl => ?_)
        have hl : lv_has ls 4 [(2, .int ((x2_ + v5) + (2 : Int32))), (0, .ref hm), (1, .int x1_), (3, .int x3_)] := hl
        refine lv_iinc (v := x3_ + (1 : Int32)) hx hb dX1_addressOf_40 hl (k := 3) rfl (by rfl) (by decide) rfl (fun ls hl => ?_)
        have hl : lv_has ls 4 [(3, .int (x3_ + (1 : Int32))), (2, .int ((x2_ + v5) + (2 : Int32))), (0, .ref hm), (1, .int x1_)] := hl
        refine lv_goto (tgt := 4) hx hb dX1_addressOf_43 (by decide) ?_
        exact ih _ _ _ _ _ _ hf _ _ _ hP hD hS (lv_sub hl [2, 3, 1, 0] rfl) k0 k1
      · have hf := ift h3 hf
        refine lv_iload_n hx hb dX1_addressOf_22 rfl (lv_at hl 2 rfl) ?_
        cases hf
        exact k1 rfl _ _ _ hP hD hS (lv_sub hl [0, 1, 2, 3] rfl)
set_option maxHeartbeats 4000000 in
set_option maxRecDepth 100000 in
theorem ctX1_addressOf (l : Launch) (dC : Nat → ClassId) (dI : Nat → Nat → Nat) (cI cZ cL : ClassId) (hm b1 b2 b3 b4 b5 b6 b7 b8 b9 : Nat) (sz : Nat) (th : Int32) (mk : Int32) (us : Nat → Int32) (fi : Nat → Int32) (se : Nat → Int32) (ki : Nat → Int32) (va : Nat → Int32) (li : Nat → Int32) (ct : Int32) (od : Nat → Int32) (ne : Nat → Int32) (ro : Nat → Int32) (x1 : Int32) (rs : Int32) (hf : fX1_addressOf fi ct od x1 = some rs) : Met l yX1_addressOf wsX1_addressOf rmX1_addressOf (va_Pc [.ref hm, .int x1] (q_pre (dC, dI) vwCl (tyA cI cZ cL) sz (wM cI cZ hm b1 b2 b3 b4 b5 b6 b7 b8 b9 th mk us fi se ki va li ct od ne ro))) (va_Qi (fun r (_ : Unit) => r = rs) (fun _ => q_post (dC, dI) vwCl (tyA cI cZ cL) (va_A (wM cI cZ hm b1 b2 b3 b4 b5 b6 b7 b8 b9 th mk us fi se ki va li ct od ne ro) sz) (wM cI cZ hm b1 b2 b3 b4 b5 b6 b7 b8 b9 th mk us fi se ki va li ct od ne ro)) (va_A (wM cI cZ hm b1 b2 b3 b4 b5 b6 b7 b8 b9 th mk us fi se ki va li ct od ne ro) sz)) 0 0 (va_A (wM cI cZ hm b1 b2 b3 b4 b5 b6 b7 b8 b9 th mk us fi se ki va li ct od ne ro) sz) := by
  refine Met.ofW (cc := cX1_addressOf) (maxL := 4) (ret := (some .int)) (by decide) rfl ?_
  intro p e s m args below meth c s₁ B hml hv
  obtain ⟨rfl, hsz, hP, hK, hD0⟩ := hv
  have hx := B.exec
  have hb := B.bytes
  have hr := B.returns
  have hts := atoms_spec (ws := wsX1_addressOf) B.pre
  have hown : s.vm.findClass RX1 = some m.cls := findClass_of_methodNamed B.named
  subst hsz
  have hD := hD0.self (sz := s.heap.size)
  generalize hAe : va_A (wM cI cZ hm b1 b2 b3 b4 b5 b6 b7 b8 b9 th mk us fi se ki va li ct od ne ro) s.heap.size = A at hD ⊢
  have hA : ∀ q : Nat, s.heap.size ≤ q → A q := fun q h => by rw [← hAe]; exact Or.inr h
  have hS : va_S A s.heap s.heap [] := va_S.rf
  have hl := lv_entry ([.ref hm, .int x1]) (n := 4) (Nat.le_of_ble_eq_true rfl)
  rw [lg_entry_eq]
  generalize (lg_sl ([.ref hm, .int x1]) ++ List.replicate (4 - (lg_sl ([.ref hm, .int x1])).length) Slot.unset).toArray = ls at hl ⊢
  have hl : lv_has ls 4 [(0, .ref hm), (1, .int x1)] := hl
  unfold fX1_addressOf at hf
  refine lv_iconst (v := (0 : Int32)) hx hb dX1_addressOf_0 (by decide) ?_
  refine lv_istore_n hx hb dX1_addressOf_1 rfl hl (by decide) rfl (fun ls hl => ?_)
  have hl : lv_has ls 4 [(2, .int (0 : Int32)), (0, .ref hm), (1, .int x1)] := hl
  refine lv_iconst (v := (0 : Int32)) hx hb dX1_addressOf_2 (by decide) ?_
  refine lv_istore_n hx hb dX1_addressOf_3 rfl hl (by decide) rfl (fun ls hl => ?_)
  have hl : lv_has ls 4 [(3, .int (0 : Int32)), (2, .int (0 : Int32)), (0, .ref hm), (1, .int x1)] := hl
  obtain ⟨⟨t8, x_6, x_7, y9⟩, hv, hf⟩ := bd hf
  dsimp only at hf
  refine wX1_addressOf_L4 dC dI cI cZ cL hm b1 b2 b3 b4 b5 b6 b7 b8 b9 hx hb hml hown hts hK hA x1 th mk us fi se ki va li ct od ne ro FU (0 : Int32) (0 : Int32) t8 x_6 x_7 y9 hv _ _ _ hP hD hS (lv_sub hl [2, 3, 1, 0] rfl) (fun ht H locs ls hP hD hS hl => ?_) (fun ht H locs ls hP hD hS hl => ?_)
  · have hf := ift ht hf
    refine lv_iconst (v := (-1 : Int32)) hx hb dX1_addressOf_46 (by decide) ?_
    have hg0 := Option.some.inj hf
    subst hg0
    exact W.iret hx hb hr (fun t ht hW => ⟨⟨_, (), rfl, rfl, by rw [ht]; exact hP, va_K.moved hW.alike hK, hD⟩, hS.F ht⟩) hS.2.2 dX1_addressOf_47
  · have hf := ifn (by rw [ht]; decide) hf
    have hg0 := Option.some.inj hf
    subst hg0
    exact W.iret hx hb hr (fun t ht hW => ⟨⟨_, (), rfl, rfl, by rw [ht]; exact hP, va_K.moved hW.alike hK, hD⟩, hS.F ht⟩) hS.2.2 dX1_addressOf_23
set_option maxHeartbeats 4000000 in
set_option maxRecDepth 100000 in
theorem ctX1_enliven (l : Launch) (dC : Nat → ClassId) (dI : Nat → Nat → Nat) (cI cZ cL : ClassId) (hm b1 b2 b3 b4 b5 b6 b7 b8 b9 : Nat) (sz : Nat) (th : Int32) (mk : Int32) (us : Nat → Int32) (fi : Nat → Int32) (se : Nat → Int32) (ki : Nat → Int32) (va : Nat → Int32) (li : Nat → Int32) (ct : Int32) (od : Nat → Int32) (ne : Nat → Int32) (ro : Nat → Int32) (x1 : Int32) (rs : Int32) (li' : Nat → Int32) (hf : fX1_enliven li x1 = some (rs, li')) : Met l yX1_enliven wsX1_enliven rmX1_enliven (va_Pc [.ref hm, .int x1] (q_pre (dC, dI) vwCl (tyA cI cZ cL) sz (wM cI cZ hm b1 b2 b3 b4 b5 b6 b7 b8 b9 th mk us fi se ki va li ct od ne ro))) (va_Qi (fun r (_ : Unit) => r = rs) (fun _ => q_post (dC, dI) vwCl (tyA cI cZ cL) (va_A (wM cI cZ hm b1 b2 b3 b4 b5 b6 b7 b8 b9 th mk us fi se ki va li ct od ne ro) sz) (wM cI cZ hm b1 b2 b3 b4 b5 b6 b7 b8 b9 th mk us fi se ki va li' ct od ne ro)) (va_A (wM cI cZ hm b1 b2 b3 b4 b5 b6 b7 b8 b9 th mk us fi se ki va li ct od ne ro) sz)) 0 0 (va_A (wM cI cZ hm b1 b2 b3 b4 b5 b6 b7 b8 b9 th mk us fi se ki va li ct od ne ro) sz) := by
  refine Met.ofW (cc := cX1_enliven) (maxL := 3) (ret := (some .boolean)) (by decide) rfl ?_
  intro p e s m args below meth c s₁ B hml hv
  obtain ⟨rfl, hsz, hP, hK, hD0⟩ := hv
  have hx := B.exec
  have hb := B.bytes
  have hr := B.returns
  have hts := atoms_spec (ws := wsX1_enliven) B.pre
  have hown : s.vm.findClass RX1 = some m.cls := findClass_of_methodNamed B.named
  subst hsz
  have hD := hD0.self (sz := s.heap.size)
  generalize hAe : va_A (wM cI cZ hm b1 b2 b3 b4 b5 b6 b7 b8 b9 th mk us fi se ki va li ct od ne ro) s.heap.size = A at hD ⊢
  have hA : ∀ q : Nat, s.heap.size ≤ q → A q := fun q h => by rw [← hAe]; exact Or.inr h
  have hS : va_S A s.heap s.heap [] := va_S.rf
  have hl := lv_entry ([.ref hm, .int x1]) (n := 3) (Nat.le_of_ble_eq_true rfl)
  rw [lg_entry_eq]
  generalize (lg_sl ([.ref hm, .int x1]) ++ List.replicate (3 - (lg_sl ([.ref hm, .int x1])).length) Slot.unset).toArray = ls at hl ⊢
  have hl : lv_has ls 3 [(0, .ref hm), (1, .int x1)] := hl
  unfold fX1_enliven at hf
  refine lv_iload_n hx hb dX1_enliven_0 rfl (lv_at hl 1 rfl) ?_
  refine lv_if_lt (tgt := 17) hx hb dX1_enliven_1 (by decide) (fun h1 => ?_) (fun h1 => ?_)
  · have hf := ift h1 hf
    refine lv_iconst (v := (0 : Int32)) hx hb dX1_enliven_17 (by decide) ?_
    refine lv_istore_n hx hb dX1_enliven_18 rfl hl (by decide) rfl (fun ls hl => ?_)
    have hl : lv_has ls 3 [(2, .int (0 : Int32)), (0, .ref hm), (1, .int x1)] := hl
    refine lv_iload_n hx hb dX1_enliven_19 rfl (lv_at hl 0 rfl) ?_
    refine lv_if_eq (tgt := 30) hx hb dX1_enliven_20 (by decide) (fun _ => ?_) (fun h9 => absurd h9 (by decide))
    refine lv_iload_n hx hb dX1_enliven_30 rfl (lv_at hl 0 rfl) ?_
    have hg0 := Option.some.inj hf
    obtain ⟨hq1, hg1⟩ := Prod.mk.inj hg0
    subst hq1
    subst hg1
    exact W.zret hx hb hr rfl (fun t ht hW => ⟨⟨_, (), rfl, rfl, by rw [ht]; exact hP, va_K.moved hW.alike hK, hD⟩, hS.F ht⟩) hS.2.2 dX1_enliven_31
  · have hf := ifn h1 hf
    refine lv_aload_n hx hb dX1_enliven_4 rfl (lv_at hl 0 rfl) ?_
    refine va_get (D := (dC, dI)) (ci := 1) (v := .ref b6) (C := RX1) (T := TX1) (N := 12) hx hb hts (fun w hw => List.mem_cons_of_mem _ (inX1 w hw)) hown hK hP 0 rfl rfl 7 (by decide) (hts _ (List.mem_cons_of_mem _ mw_451)) (fun _ h9 => h9) rfl dX1_enliven_5 ?_
    refine lv_iload_n hx hb dX1_enliven_8 rfl (lv_at hl 1 rfl) ?_
    obtain ⟨v2, hv, hf⟩ := bd hf
    refine q_zld hx hb hK hP 6 1 rfl rfl hv dX1_enliven_9 ?_
    refine lv_if_ne (tgt := 17) hx hb dX1_enliven_10 (by decide) (fun h3 => ?_) (fun h3 => ?_)
    · have hf := ifn h3 hf
      refine lv_iconst (v := (0 : Int32)) hx hb dX1_enliven_17 (by decide) ?_
      refine lv_istore_n hx hb dX1_enliven_18 rfl hl (by decide) rfl (fun ls hl => ?_)
      have hl : lv_has ls 3 [(2, .int (0 : Int32)), (0, .ref hm), (1, .int x1)] := hl
      refine lv_iload_n hx hb dX1_enliven_19 rfl (lv_at hl 0 rfl) ?_
      refine lv_if_eq (tgt := 30) hx hb dX1_enliven_20 (by decide) (fun _ => ?_) (fun h9 => absurd h9 (by decide))
      refine lv_iload_n hx hb dX1_enliven_30 rfl (lv_at hl 0 rfl) ?_
      have hg0 := Option.some.inj hf
      obtain ⟨hq1, hg1⟩ := Prod.mk.inj hg0
      subst hq1
      subst hg1
      exact W.zret hx hb hr rfl (fun t ht hW => ⟨⟨_, (), rfl, rfl, by rw [ht]; exact hP, va_K.moved hW.alike hK, hD⟩, hS.F ht⟩) hS.2.2 dX1_enliven_31
    · have hf := ift h3 hf
      refine lv_iconst (v := (1 : Int32)) hx hb dX1_enliven_13 (by decide) ?_
      refine lv_goto (tgt := 18) hx hb dX1_enliven_14 (by decide) ?_
      refine lv_istore_n hx hb dX1_enliven_18 rfl hl (by decide) rfl (fun ls hl => ?_)
      have hl : lv_has ls 3 [(2, .int (1 : Int32)), (0, .ref hm), (1, .int x1)] := hl
      refine lv_iload_n hx hb dX1_enliven_19 rfl (lv_at hl 0 rfl) ?_
      refine lv_if_eq (tgt := 30) hx hb dX1_enliven_20 (by decide) (fun h9 => absurd h9 (by decide)) (fun _ => ?_)
      refine lv_aload_n hx hb dX1_enliven_23 rfl (lv_at hl 1 rfl) ?_
      refine va_get (D := (dC, dI)) (ci := 1) (v := .ref b6) (C := RX1) (T := TX1) (N := 12) hx hb hts (fun w hw => List.mem_cons_of_mem _ (inX1 w hw)) hown hK hP 0 rfl rfl 7 (by decide) (hts _ (List.mem_cons_of_mem _ mw_451)) (fun _ h9 => h9) rfl dX1_enliven_24 ?_
      refine lv_iload_n hx hb dX1_enliven_27 rfl (lv_at hl 2 rfl) ?_
      refine lv_iconst (v := (1 : Int32)) hx hb dX1_enliven_28 (by decide) ?_
      obtain ⟨li_4, hv, hf⟩ := bd hf
      refine q_zst hx hb hK hP hD hS 6 1 rfl rfl hv dX1_enliven_29 (fun H locs hP hD hS => ?_)
      have hP : va_P (dC, dI) vwCl (wM cI cZ hm b1 b2 b3 b4 b5 b6 b7 b8 b9 th mk us fi se ki va li_4 ct od ne ro) _ := hP
      have hD : va_D A (wM cI cZ hm b1 b2 b3 b4 b5 b6 b7 b8 b9 th mk us fi se ki va li_4 ct od ne ro) := hD
      refine lv_iload_n hx hb dX1_enliven_30 rfl (lv_at hl 0 rfl) ?_
      have hg0 := Option.some.inj hf
      obtain ⟨hq1, hg1⟩ := Prod.mk.inj hg0
      subst hq1
      subst hg1
      exact W.zret hx hb hr rfl (fun t ht hW => ⟨⟨_, (), rfl, rfl, by rw [ht]; exact hP, va_K.moved hW.alike hK, hD⟩, hS.F ht⟩) hS.2.2 dX1_enliven_31
set_option maxHeartbeats 4000000 in
set_option maxRecDepth 100000 in
theorem wX1_findAlive_L2 {p : Program} {l : Launch} {e : Env} {s : State} {m : MethodId} {args : Array Value} {below : List Frame} {meth : Method} {c : Code} {Q : State → Prop} {A : Nat → Prop} (dC : Nat → ClassId) (dI : Nat → Nat → Nat) (cI cZ cL : ClassId) (hm b1 b2 b3 b4 b5 b6 b7 b8 b9 : Nat) (hx : p.tables.exec = Jvm.exec) (hb : c.code = cX1_findAlive) (hml : c.maxLocals = 5) (hown : s.vm.findClass RX1 = some m.cls) (hts : ∀ w ∈ wsX1_findAlive, w.before args s = true) (hK : va_K (dC, dI) vwCl (tyA cI cZ cL) s) (hA : ∀ q : Nat, s.heap.size ≤ q → A q) (th : Int32) (mk : Int32) (us : Nat → Int32) (fi : Nat → Int32) (se : Nat → Int32) (ki : Nat → Int32) (va : Nat → Int32) (ct : Int32) (od : Nat → Int32) (ne : Nat → Int32) (ro : Nat → Int32) (n : Nat) :
    ∀ (x1_ : Int32) (li : Nat → Int32) (x1_' : Int32) (li' : Nat → Int32), fX1_findAlive_L2 n x1_ li = some (x1_', li') → ∀ (H : Heap) (locs : List Loc) (ls : Array Slot), va_P (dC, dI) vwCl (wM cI cZ hm b1 b2 b3 b4 b5 b6 b7 b8 b9 th mk us fi se ki va li ct od ne ro) H → va_D A (wM cI cZ hm b1 b2 b3 b4 b5 b6 b7 b8 b9 th mk us fi se ki va li ct od ne ro) → va_S A s.heap H locs → lv_has ls 5 [(0, .ref hm), (1, .int x1_)] → (∀ (H : Heap) (locs : List Loc) (ls : Array Slot), va_P (dC, dI) vwCl (wM cI cZ hm b1 b2 b3 b4 b5 b6 b7 b8 b9 th mk us fi se ki va li' ct od ne ro) H → va_D A (wM cI cZ hm b1 b2 b3 b4 b5 b6 b7 b8 b9 th mk us fi se ki va li' ct od ne ro) → va_S A s.heap H locs → lv_has ls 5 [(0, .ref hm), (1, .int x1_')] → W p l e (headSpec wsX1_findAlive rmX1_findAlive).room s m args below meth c H locs 0 0 Q (F0 m 22 ls [])) → W p l e (headSpec wsX1_findAlive rmX1_findAlive).room s m args below meth c H locs 0 0 Q (F0 m 2 ls []) := by
  induction n with
  | zero => intro x1_ li x1_' li' hf; cases hf
  | succ n ih =>
    intro x1_ li x1_' li' hf H locs ls hP hD hS hl k0
    have hf := (fX1_findAlive_L2_s  n x1_ li).symm.trans hf
    refine lv_iload_n hx hb dX1_findAlive_2 rfl (lv_at hl 1 rfl) ?_
    refine lv_sipush (v := (128 : Int32)) hx hb dX1_findAlive_3 (by decide) ?_
    refine lv_icmp_ge (tgt := 22) hx hb dX1_findAlive_6 (by decide) (fun h1 => ?_) (fun h1 => ?_)
    · have hf := ift h1 hf
      cases hf
      exact k0 _ _ _ hP hD hS (lv_sub hl [0, 1] rfl)
    · have hf := ifn h1 hf
      refine lv_aload_n hx hb dX1_findAlive_9 rfl (lv_at hl 0 rfl) ?_
      refine va_get (D := (dC, dI)) (ci := 1) (v := .ref b6) (C := RX1) (T := TX1) (N := 12) hx hb hts (fun w hw => List.mem_cons_of_mem _ (inX1 w hw)) hown hK hP 0 rfl rfl 7 (by decide) (hts _ (List.mem_cons_of_mem _ mw_451)) (fun _ h9 => h9) rfl dX1_findAlive_10 ?_
      refine lv_iload_n hx hb dX1_findAlive_13 rfl (lv_at hl 1 rfl) ?_
      refine lv_iconst (v := (0 : Int32)) hx hb dX1_findAlive_14 (by decide) ?_
      obtain ⟨li_2, hv, hf⟩ := bd hf
      refine q_zst hx hb hK hP hD hS 6 1 rfl rfl hv dX1_findAlive_15 (fun H locs hP hD hS => ?_)
      have hP : va_P (dC, dI) vwCl (wM cI cZ hm b1 b2 b3 b4 b5 b6 b7 b8 b9 th mk us fi se ki va li_2 ct od ne ro) _ := hP
      have hD : va_D A (wM cI cZ hm b1 b2 b3 b4 b5 b6 b7 b8 b9 th mk us fi se ki va li_2 ct od ne ro) := hD
      refine lv_iinc (v := x1_ + (1 : Int32)) hx hb dX1_findAlive_16 hl (k := 1) rfl (by rfl) (by decide) rfl (fun ls hl => ?_)
      have hl : lv_has ls 5 [(1, .int (x1_ + (1 : Int32))), (0, .ref hm)] := hl
      refine lv_goto (tgt := 2) hx hb dX1_findAlive_19 (by decide) ?_
      exact ih _ _ _ _ hf _ _ _ hP hD hS (lv_sub hl [1, 0] rfl) k0
set_option maxHeartbeats 4000000 in
set_option maxRecDepth 100000 in
theorem wX1_findAlive_L26 {p : Program} {l : Launch} {e : Env} {s : State} {m : MethodId} {args : Array Value} {below : List Frame} {meth : Method} {c : Code} {Q : State → Prop} {A : Nat → Prop} (dC : Nat → ClassId) (dI : Nat → Nat → Nat) (cI cZ cL : ClassId) (hm b1 b2 b3 b4 b5 b6 b7 b8 b9 : Nat) (hx : p.tables.exec = Jvm.exec) (hb : c.code = cX1_findAlive) (hml : c.maxLocals = 5) (hown : s.vm.findClass RX1 = some m.cls) (hts : ∀ w ∈ wsX1_findAlive, w.before args s = true) (hK : va_K (dC, dI) vwCl (tyA cI cZ cL) s) (hA : ∀ q : Nat, s.heap.size ≤ q → A q) (th : Int32) (mk : Int32) (us : Nat → Int32) (fi : Nat → Int32) (se : Nat → Int32) (ki : Nat → Int32) (va : Nat → Int32) (ct : Int32) (od : Nat → Int32) (ne : Nat → Int32) (ro : Nat → Int32) (n : Nat) :
    ∀ (x1_ : Int32) (x2_ : Int32) (li : Nat → Int32) (x1_' : Int32) (x2_' : Int32) (li' : Nat → Int32), fX1_findAlive_L26 ro n x1_ x2_ li = some (x1_', x2_', li') → ∀ (H : Heap) (locs : List Loc) (ls : Array Slot), va_P (dC, dI) vwCl (wM cI cZ hm b1 b2 b3 b4 b5 b6 b7 b8 b9 th mk us fi se ki va li ct od ne ro) H → va_D A (wM cI cZ hm b1 b2 b3 b4 b5 b6 b7 b8 b9 th mk us fi se ki va li ct od ne ro) → va_S A s.heap H locs → lv_has ls 5 [(0, .ref hm), (1, .int x1_), (2, .int x2_)] → (∀ (H : Heap) (locs : List Loc) (ls : Array Slot), va_P (dC, dI) vwCl (wM cI cZ hm b1 b2 b3 b4 b5 b6 b7 b8 b9 th mk us fi se ki va li' ct od ne ro) H → va_D A (wM cI cZ hm b1 b2 b3 b4 b5 b6 b7 b8 b9 th mk us fi se ki va li' ct od ne ro) → va_S A s.heap H locs → lv_has ls 5 [(0, .ref hm), (1, .int x1_'), (2, .int x2_')] → W p l e (headSpec wsX1_findAlive rmX1_findAlive).room s m args below meth c H locs 0 0 Q (F0 m 63 ls [])) → W p l e (headSpec wsX1_findAlive rmX1_findAlive).room s m args below meth c H locs 0 0 Q (F0 m 26 ls []) := by
  induction n with
  | zero => intro x1_ x2_ li x1_' x2_' li' hf; cases hf
  | succ n ih =>
    intro x1_ x2_ li x1_' x2_' li' hf H locs ls hP hD hS hl k0
    have hf := (fX1_findAlive_L26_s ro n x1_ x2_ li).symm.trans hf
    refine lv_iload_n hx hb dX1_findAlive_26 rfl (lv_at hl 2 rfl) ?_
    refine lv_bipush (v := (8 : Int32)) hx hb dX1_findAlive_27 (by decide) ?_
    refine lv_icmp_ge (tgt := 63) hx hb dX1_findAlive_29 (by decide) (fun h5 => ?_) (fun h5 => ?_)
    · have hf := ift h5 hf
      cases hf
      exact k0 _ _ _ hP hD hS (lv_sub hl [0, 1, 2] rfl)
    · have hf := ifn h5 hf
      refine lv_aload_n hx hb dX1_findAlive_32 rfl (lv_at hl 0 rfl) ?_
      refine lv_aload_n hx hb dX1_findAlive_33 rfl (lv_at hl 0 rfl) ?_
      refine va_get (D := (dC, dI)) (ci := 1) (v := .ref b9) (C := RX1) (T := TX1) (N := 12) hx hb hts (fun w hw => List.mem_cons_of_mem _ (inX1 w hw)) hown hK hP 0 rfl rfl 11 (by decide) (hts _ (List.mem_cons_of_mem _ mw_455)) (fun _ h9 => h9) rfl dX1_findAlive_34 ?_
      refine lv_iload_n hx hb dX1_findAlive_37 rfl (lv_at hl 2 rfl) ?_
      obtain ⟨v6, hv, hf⟩ := bd hf
      refine q_ild hx hb hK hP 9 0 rfl rfl hv dX1_findAlive_38 ?_
      obtain ⟨⟨v7, li_8⟩, hv, hf⟩ := bd hf
      dsimp only at hf
      refine q_ci (wr := []) (va_runV (As := [.int v6]) (rest := []) ⟨hx, hb, hml, hown, hts⟩ (ctX1_enliven l dC dI cI cZ cL hm b1 b2 b3 b4 b5 b6 b7 b8 b9 _ th mk us fi se ki va li ct od ne ro v6 v7 li_8 hv) (cwV 1 hts (gV mw_506 mw_508 mw_27 mw_40 mw_509) rfl rfl rfl (by decide +kernel) ⟨Nat.le_of_ble_eq_true rfl, Nat.le_of_ble_eq_true rfl⟩) (q_preV [.int v6] hK hP hD [0, 1, 2, 3, 4, 5, 6, 7, 8, 9] (by decide) rfl (ci := 1) rfl rfl) rfl rfl hl.1 rfl (lv_room (Nat.le_of_ble_eq_true rfl)) dX1_findAlive_39 ⟨Nat.le_of_ble_eq_true rfl, Nat.le_of_ble_eq_true rfl⟩) hP hD hS hA [0, 1, 2, 3, 4, 5, 6, 7, 8, 9] [] rfl rfl (by decide) (by decide) (fun H locs hP hD hS => ?_)
      have hP : va_P (dC, dI) vwCl (wM cI cZ hm b1 b2 b3 b4 b5 b6 b7 b8 b9 th mk us fi se ki va li_8 ct od ne ro) _ := hP
      have hD : va_D A (wM cI cZ hm b1 b2 b3 b4 b5 b6 b7 b8 b9 th mk us fi se ki va li_8 ct od ne ro) := hD
      refine lv_istore_n hx hb dX1_findAlive_42 rfl hl (by decide) rfl (fun ls hl => ?_)
      have hl : lv_has ls 5 [(3, .int v7), (0, .ref hm), (1, .int x1_), (2, .int x2_)] := hl
      refine lv_iload_n hx hb dX1_findAlive_43 rfl (lv_at hl 2 rfl) ?_
      refine lv_if_ne (tgt := 51) hx hb dX1_findAlive_44 (by decide) (fun h9 => ?_) (fun h9 => ?_)
      · have hf := ifn h9 hf
        refine lv_iconst (v := (1 : Int32)) hx hb dX1_findAlive_51 (by decide) ?_
        refine lv_goto (tgt := 56) hx hb dX1_findAlive_52 (by decide) ?_
        refine lv_istore_n hx hb dX1_findAlive_56 rfl hl (by decide) rfl (fun ls hl => ?_)
        have hl : lv_has ls 5 [(1, .int (1 : Int32)), (3, .int v7), (0, .ref hm), (2, .int x2_)] := hl
        refine lv_iinc (v := x2_ + (1 : Int32)) hx hb dX1_findAlive_57 hl (k := 3) rfl (by rfl) (by decide) rfl (fun ls hl => ?_)
        have hl : lv_has ls 5 [(2, .int (x2_ + (1 : Int32))), (1, .int (1 : Int32)), (3, .int v7), (0, .ref hm)] := hl
        refine lv_goto (tgt := 26) hx hb dX1_findAlive_60 (by decide) ?_
        exact ih _ _ _ _ _ _ hf _ _ _ hP hD hS (lv_sub hl [3, 1, 0] rfl) k0
      · have hf := ift h9 hf
        refine lv_iload_n hx hb dX1_findAlive_47 rfl (lv_at hl 0 rfl) ?_
        refine lv_if_eq (tgt := 55) hx hb dX1_findAlive_48 (by decide) (fun h10 => ?_) (fun h10 => ?_)
        · have hf := ift h10 hf
          refine lv_iconst (v := (0 : Int32)) hx hb dX1_findAlive_55 (by decide) ?_
          refine lv_istore_n hx hb dX1_findAlive_56 rfl hl (by decide) rfl (fun ls hl => ?_)
          have hl : lv_has ls 5 [(1, .int (0 : Int32)), (3, .int v7), (0, .ref hm), (2, .int x2_)] := hl
          refine lv_iinc (v := x2_ + (1 : Int32)) hx hb dX1_findAlive_57 hl (k := 3) rfl (by rfl) (by decide) rfl (fun ls hl => ?_)
          have hl : lv_has ls 5 [(2, .int (x2_ + (1 : Int32))), (1, .int (0 : Int32)), (3, .int v7), (0, .ref hm)] := hl
          refine lv_goto (tgt := 26) hx hb dX1_findAlive_60 (by decide) ?_
          exact ih _ _ _ _ _ _ hf _ _ _ hP hD hS (lv_sub hl [3, 1, 0] rfl) k0
        · have hf := ifn h10 hf
          refine lv_iconst (v := (1 : Int32)) hx hb dX1_findAlive_51 (by decide) ?_
          refine lv_goto (tgt := 56) hx hb dX1_findAlive_52 (by decide) ?_
          refine lv_istore_n hx hb dX1_findAlive_56 rfl hl (by decide) rfl (fun ls hl => ?_)
          have hl : lv_has ls 5 [(1, .int (1 : Int32)), (3, .int v7), (0, .ref hm), (2, .int x2_)] := hl
          refine lv_iinc (v := x2_ + (1 : Int32)) hx hb dX1_findAlive_57 hl (k := 3) rfl (by rfl) (by decide) rfl (fun ls hl => ?_)
          have hl : lv_has ls 5 [(2, .int (x2_ + (1 : Int32))), (1, .int (1 : Int32)), (3, .int v7), (0, .ref hm)] := hl
          refine lv_goto (tgt := 26) hx hb dX1_findAlive_60 (by decide) ?_
          exact ih _ _ _ _ _ _ hf _ _ _ hP hD hS (lv_sub hl [3, 1, 0] rfl) k0
set_option maxHeartbeats 4000000 in
set_option maxRecDepth 100000 in
theorem wX1_findAlive_L80 {p : Program} {l : Launch} {e : Env} {s : State} {m : MethodId} {args : Array Value} {below : List Frame} {meth : Method} {c : Code} {Q : State → Prop} {A : Nat → Prop} (dC : Nat → ClassId) (dI : Nat → Nat → Nat) (cI cZ cL : ClassId) (hm b1 b2 b3 b4 b5 b6 b7 b8 b9 : Nat) (hx : p.tables.exec = Jvm.exec) (hb : c.code = cX1_findAlive) (hml : c.maxLocals = 5) (hown : s.vm.findClass RX1 = some m.cls) (hts : ∀ w ∈ wsX1_findAlive, w.before args s = true) (hK : va_K (dC, dI) vwCl (tyA cI cZ cL) s) (hA : ∀ q : Nat, s.heap.size ≤ q → A q) (x2_ : Int32) (th : Int32) (mk : Int32) (us : Nat → Int32) (fi : Nat → Int32) (se : Nat → Int32) (ki : Nat → Int32) (va : Nat → Int32) (ct : Int32) (od : Nat → Int32) (ne : Nat → Int32) (ro : Nat → Int32) (n : Nat) :
    ∀ (x1_ : Int32) (x3_ : Int32) (li : Nat → Int32) (x1_' : Int32) (x3_' : Int32) (li' : Nat → Int32), fX1_findAlive_L80 x2_ fi ki va n x1_ x3_ li = some (x1_', x3_', li') → ∀ (H : Heap) (locs : List Loc) (ls : Array Slot), va_P (dC, dI) vwCl (wM cI cZ hm b1 b2 b3 b4 b5 b6 b7 b8 b9 th mk us fi se ki va li ct od ne ro) H → va_D A (wM cI cZ hm b1 b2 b3 b4 b5 b6 b7 b8 b9 th mk us fi se ki va li ct od ne ro) → va_S A s.heap H locs → lv_has ls 5 [(0, .ref hm), (1, .int x1_), (2, .int x2_), (3, .int x3_)] → (∀ (H : Heap) (locs : List Loc) (ls : Array Slot), va_P (dC, dI) vwCl (wM cI cZ hm b1 b2 b3 b4 b5 b6 b7 b8 b9 th mk us fi se ki va li' ct od ne ro) H → va_D A (wM cI cZ hm b1 b2 b3 b4 b5 b6 b7 b8 b9 th mk us fi se ki va li' ct od ne ro) → va_S A s.heap H locs → lv_has ls 5 [(0, .ref hm), (1, .int x1_'), (2, .int x2_), (3, .int x3_')] → W p l e (headSpec wsX1_findAlive rmX1_findAlive).room s m args below meth c H locs 0 0 Q (F0 m 160 ls [])) → W p l e (headSpec wsX1_findAlive rmX1_findAlive).room s m args below meth c H locs 0 0 Q (F0 m 80 ls []) := by
  induction n with
  | zero => intro x1_ x3_ li x1_' x3_' li' hf; cases hf
  | succ n ih =>
    intro x1_ x3_ li x1_' x3_' li' hf H locs ls hP hD hS hl k0
    have hf := (fX1_findAlive_L80_s x2_ fi ki va n x1_ x3_ li).symm.trans hf
    refine lv_iload_n hx hb dX1_findAlive_80 rfl (lv_at hl 3 rfl) ?_
    refine lv_aload_n hx hb dX1_findAlive_81 rfl (lv_at hl 0 rfl) ?_
    refine va_get (D := (dC, dI)) (ci := 1) (v := .ref b2) (C := RX1) (T := TX1) (N := 12) hx hb hts (fun w hw => List.mem_cons_of_mem _ (inX1 w hw)) hown hK hP 0 rfl rfl 3 (by decide) (hts _ (List.mem_cons_of_mem _ mw_447)) (fun _ h9 => h9) rfl dX1_findAlive_82 ?_
    refine lv_iload_n hx hb dX1_findAlive_85 rfl (lv_at hl 2 rfl) ?_
    obtain ⟨v16, hv, hf⟩ := bd hf
    refine q_ild hx hb hK hP 2 0 rfl rfl hv dX1_findAlive_86 ?_
    refine lv_icmp_ge (tgt := 160) hx hb dX1_findAlive_87 (by decide) (fun h17 => ?_) (fun h17 => ?_)
    · have hf := ift h17 hf
      cases hf
      exact k0 _ _ _ hP hD hS (lv_sub hl [0, 1, 2, 3] rfl)
    · have hf := ifn h17 hf
      refine lv_aload_n hx hb dX1_findAlive_90 rfl (lv_at hl 0 rfl) ?_
      refine va_get (D := (dC, dI)) (ci := 1) (v := .ref b6) (C := RX1) (T := TX1) (N := 12) hx hb hts (fun w hw => List.mem_cons_of_mem _ (inX1 w hw)) hown hK hP 0 rfl rfl 7 (by decide) (hts _ (List.mem_cons_of_mem _ mw_451)) (fun _ h9 => h9) rfl dX1_findAlive_91 ?_
      refine lv_iload_n hx hb dX1_findAlive_94 rfl (lv_at hl 2 rfl) ?_
      obtain ⟨v18, hv, hf⟩ := bd hf
      refine q_zld hx hb hK hP 6 1 rfl rfl hv dX1_findAlive_95 ?_
      refine lv_if_eq (tgt := 160) hx hb dX1_findAlive_96 (by decide) (fun h19 => ?_) (fun h19 => ?_)
      · have hf := ift h19 hf
        cases hf
        exact k0 _ _ _ hP hD hS (lv_sub hl [0, 1, 2, 3] rfl)
      · have hf := ifn h19 hf
        refine lv_aload_n hx hb dX1_findAlive_99 rfl (lv_at hl 0 rfl) ?_
        refine va_get (D := (dC, dI)) (ci := 1) (v := .ref b4) (C := RX1) (T := TX1) (N := 12) hx hb hts (fun w hw => List.mem_cons_of_mem _ (inX1 w hw)) hown hK hP 0 rfl rfl 5 (by decide) (hts _ (List.mem_cons_of_mem _ mw_449)) (fun _ h9 => h9) rfl dX1_findAlive_100 ?_
        refine lv_bipush (v := (6 : Int32)) hx hb dX1_findAlive_103 (by decide) ?_
        refine lv_iload_n hx hb dX1_findAlive_105 rfl (lv_at hl 2 rfl) ?_
        refine lv_imul hx hb dX1_findAlive_106 ?_
        refine lv_iload_n hx hb dX1_findAlive_107 rfl (lv_at hl 3 rfl) ?_
        refine lv_iadd hx hb dX1_findAlive_108 ?_
        obtain ⟨v20, hv, hf⟩ := bd hf
        refine q_ild hx hb hK hP 4 0 rfl rfl hv dX1_findAlive_109 ?_
        refine lv_iconst (v := (1 : Int32)) hx hb dX1_findAlive_110 (by decide) ?_
        refine lv_icmp_ne (tgt := 136) hx hb dX1_findAlive_111 (by decide) (fun h21 => ?_) (fun h21 => ?_)
        · have hf := ifn h21 hf
          refine lv_iconst (v := (0 : Int32)) hx hb dX1_findAlive_136 (by decide) ?_
          refine lv_istore hx hb dX1_findAlive_137 hl (by decide) rfl (fun ls hl => ?_)
          have hl : lv_has ls 5 [(4, .int (0 : Int32)), (0, .ref hm), (1, .int x1_), (2, .int x2_), (3, .int x3_)] := hl
          refine lv_iload_n hx hb dX1_findAlive_139 rfl (lv_at hl 2 rfl) ?_
          refine lv_if_ne (tgt := 148) hx hb dX1_findAlive_140 (by decide) (fun h22 => ?_) (fun h22 => ?_)
          · have hf := ifn h22 hf
            refine lv_iconst (v := (1 : Int32)) hx hb dX1_findAlive_148 (by decide) ?_
            refine lv_goto (tgt := 153) hx hb dX1_findAlive_149 (by decide) ?_
            refine lv_istore_n hx hb dX1_findAlive_153 rfl hl (by decide) rfl (fun ls hl => ?_)
            have hl : lv_has ls 5 [(1, .int (1 : Int32)), (4, .int (0 : Int32)), (0, .ref hm), (2, .int x2_), (3, .int x3_)] := hl
            refine lv_iinc (v := x3_ + (1 : Int32)) hx hb dX1_findAlive_154 hl (k := 4) rfl (by rfl) (by decide) rfl (fun ls hl => ?_)
            have hl : lv_has ls 5 [(3, .int (x3_ + (1 : Int32))), (1, .int (1 : Int32)), (4, .int (0 : Int32)), (0, .ref hm), (2, .int x2_)] := hl
            refine lv_goto (tgt := 80) hx hb dX1_findAlive_157 (by decide) ?_
            exact ih _ _ _ _ _ _ hf _ _ _ hP hD hS (lv_sub hl [3, 1, 4, 0] rfl) k0
          · have hf := ift h22 hf
            refine lv_iload hx hb dX1_findAlive_143 (lv_at hl 0 rfl) ?_
            refine lv_if_eq (tgt := 152) hx hb dX1_findAlive_145 (by decide) (fun _ => ?_) (fun h9 => absurd h9 (by decide))
            refine lv_iconst (v := (0 : Int32)) hx hb dX1_findAlive_152 (by decide) ?_
            refine lv_istore_n hx hb dX1_findAlive_153 rfl hl (by decide) rfl (fun ls hl => ?_)
            have hl : lv_has ls 5 [(1, .int (0 : Int32)), (4, .int (0 : Int32)), (0, .ref hm), (2, .int x2_), (3, .int x3_)] := hl
            refine lv_iinc (v := x3_ + (1 : Int32)) hx hb dX1_findAlive_154 hl (k := 4) rfl (by rfl) (by decide) rfl (fun ls hl => ?_)
            have hl : lv_has ls 5 [(3, .int (x3_ + (1 : Int32))), (1, .int (0 : Int32)), (4, .int (0 : Int32)), (0, .ref hm), (2, .int x2_)] := hl
            refine lv_goto (tgt := 80) hx hb dX1_findAlive_157 (by decide) ?_
            exact ih _ _ _ _ _ _ hf _ _ _ hP hD hS (lv_sub hl [3, 1, 4, 0] rfl) k0
        · have hf := ift h21 hf
          refine lv_aload_n hx hb dX1_findAlive_114 rfl (lv_at hl 0 rfl) ?_
          refine lv_aload_n hx hb dX1_findAlive_115 rfl (lv_at hl 0 rfl) ?_
          refine va_get (D := (dC, dI)) (ci := 1) (v := .ref b5) (C := RX1) (T := TX1) (N := 12) hx hb hts (fun w hw => List.mem_cons_of_mem _ (inX1 w hw)) hown hK hP 0 rfl rfl 6 (by decide) (hts _ (List.mem_cons_of_mem _ mw_450)) (fun _ h9 => h9) rfl dX1_findAlive_116 ?_
          refine lv_bipush (v := (6 : Int32)) hx hb dX1_findAlive_119 (by decide) ?_
          refine lv_iload_n hx hb dX1_findAlive_121 rfl (lv_at hl 2 rfl) ?_
          refine lv_imul hx hb dX1_findAlive_122 ?_
          refine lv_iload_n hx hb dX1_findAlive_123 rfl (lv_at hl 3 rfl) ?_
          refine lv_iadd hx hb dX1_findAlive_124 ?_
          obtain ⟨v23, hv, hf⟩ := bd hf
          refine q_ild hx hb hK hP 5 0 rfl rfl hv dX1_findAlive_125 ?_
          obtain ⟨⟨v24, li_25⟩, hv, hf⟩ := bd hf
          dsimp only at hf
          refine q_ci (wr := []) (va_runV (As := [.int v23]) (rest := []) ⟨hx, hb, hml, hown, hts⟩ (ctX1_enliven l dC dI cI cZ cL hm b1 b2 b3 b4 b5 b6 b7 b8 b9 _ th mk us fi se ki va li ct od ne ro v23 v24 li_25 hv) (cwV 1 hts (gV mw_506 mw_508 mw_27 mw_40 mw_509) rfl rfl rfl (by decide +kernel) ⟨Nat.le_of_ble_eq_true rfl, Nat.le_of_ble_eq_true rfl⟩) (q_preV [.int v23] hK hP hD [0, 1, 2, 3, 4, 5, 6, 7, 8, 9] (by decide) rfl (ci := 1) rfl rfl) rfl rfl hl.1 rfl (lv_room (Nat.le_of_ble_eq_true rfl)) dX1_findAlive_126 ⟨Nat.le_of_ble_eq_true rfl, Nat.le_of_ble_eq_true rfl⟩) hP hD hS hA [0, 1, 2, 3, 4, 5, 6, 7, 8, 9] [] rfl rfl (by decide) (by decide) (fun H locs hP hD hS => ?_)
          have hP : va_P (dC, dI) vwCl (wM cI cZ hm b1 b2 b3 b4 b5 b6 b7 b8 b9 th mk us fi se ki va li_25 ct od ne ro) _ := hP
          have hD : va_D A (wM cI cZ hm b1 b2 b3 b4 b5 b6 b7 b8 b9 th mk us fi se ki va li_25 ct od ne ro) := hD
          refine lv_if_eq (tgt := 136) hx hb dX1_findAlive_129 (by decide) (fun h26 => ?_) (fun h26 => ?_)
          · have hf := ift h26 hf
            refine lv_iconst (v := (0 : Int32)) hx hb dX1_findAlive_136 (by decide) ?_
            refine lv_istore hx hb dX1_findAlive_137 hl (by decide) rfl (fun ls hl => ?_)
            have hl : lv_has ls 5 [(4, .int (0 : Int32)), (0, .ref hm), (1, .int x1_), (2, .int x2_), (3, .int x3_)] := hl
            refine lv_iload_n hx hb dX1_findAlive_139 rfl (lv_at hl 2 rfl) ?_
            refine lv_if_ne (tgt := 148) hx hb dX1_findAlive_140 (by decide) (fun h27 => ?_) (fun h27 => ?_)
            · have hf := ifn h27 hf
              refine lv_iconst (v := (1 : Int32)) hx hb dX1_findAlive_148 (by decide) ?_
              refine lv_goto (tgt := 153) hx hb dX1_findAlive_149 (by decide) ?_
              refine lv_istore_n hx hb dX1_findAlive_153 rfl hl (by decide) rfl (fun ls hl => ?_)
              have hl : lv_has ls 5 [(1, .int (1 : Int32)), (4, .int (0 : Int32)), (0, .ref hm), (2, .int x2_), (3, .int x3_)] := hl
              refine lv_iinc (v := x3_ + (1 : Int32)) hx hb dX1_findAlive_154 hl (k := 4) rfl (by rfl) (by decide) rfl (fun ls hl => ?_)
              have hl : lv_has ls 5 [(3, .int (x3_ + (1 : Int32))), (1, .int (1 : Int32)), (4, .int (0 : Int32)), (0, .ref hm), (2, .int x2_)] := hl
              refine lv_goto (tgt := 80) hx hb dX1_findAlive_157 (by decide) ?_
              exact ih _ _ _ _ _ _ hf _ _ _ hP hD hS (lv_sub hl [3, 1, 4, 0] rfl) k0
            · have hf := ift h27 hf
              refine lv_iload hx hb dX1_findAlive_143 (lv_at hl 0 rfl) ?_
              refine lv_if_eq (tgt := 152) hx hb dX1_findAlive_145 (by decide) (fun _ => ?_) (fun h9 => absurd h9 (by decide))
              refine lv_iconst (v := (0 : Int32)) hx hb dX1_findAlive_152 (by decide) ?_
              refine lv_istore_n hx hb dX1_findAlive_153 rfl hl (by decide) rfl (fun ls hl => ?_)
              have hl : lv_has ls 5 [(1, .int (0 : Int32)), (4, .int (0 : Int32)), (0, .ref hm), (2, .int x2_), (3, .int x3_)] := hl
              refine lv_iinc (v := x3_ + (1 : Int32)) hx hb dX1_findAlive_154 hl (k := 4) rfl (by rfl) (by decide) rfl (fun ls hl => ?_)
              have hl : lv_has ls 5 [(3, .int (x3_ + (1 : Int32))), (1, .int (0 : Int32)), (4, .int (0 : Int32)), (0, .ref hm), (2, .int x2_)] := hl
              refine lv_goto (tgt := 80) hx hb dX1_findAlive_157 (by decide) ?_
              exact ih _ _ _ _ _ _ hf _ _ _ hP hD hS (lv_sub hl [3, 1, 4, 0] rfl) k0
          · have hf := ifn h26 hf
            refine lv_iconst (v := (1 : Int32)) hx hb dX1_findAlive_132 (by decide) ?_
            refine lv_goto (tgt := 137) hx hb dX1_findAlive_133 (by decide) ?_
            refine lv_istore hx hb dX1_findAlive_137 hl (by decide) rfl (fun ls hl => ?_)
            have hl : lv_has ls 5 [(4, .int (1 : Int32)), (0, .ref hm), (1, .int x1_), (2, .int x2_), (3, .int x3_)] := hl
            refine lv_iload_n hx hb dX1_findAlive_139 rfl (lv_at hl 2 rfl) ?_
            refine lv_if_ne (tgt := 148) hx hb dX1_findAlive_140 (by decide) (fun h28 => ?_) (fun h28 => ?_)
            · have hf := ifn h28 hf
              refine lv_iconst (v := (1 : Int32)) hx hb dX1_findAlive_148 (by decide) ?_
              refine lv_goto (tgt := 153) hx hb dX1_findAlive_149 (by decide) ?_
              refine lv_istore_n hx hb dX1_findAlive_153 rfl hl (by decide) rfl (fun ls hl => ?_)
              have hl : lv_has ls 5 [(1, .int (1 : Int32)), (4, .int (1 : Int32)), (0, .ref hm), (2, .int x2_), (3, .int x3_)] := hl
              refine lv_iinc (v := x3_ + (1 : Int32)) hx hb dX1_findAlive_154 hl (k := 4) rfl (by rfl) (by decide) rfl (fun ls hl => ?_)
              have hl : lv_has ls 5 [(3, .int (x3_ + (1 : Int32))), (1, .int (1 : Int32)), (4, .int (1 : Int32)), (0, .ref hm), (2, .int x2_)] := hl
              refine lv_goto (tgt := 80) hx hb dX1_findAlive_157 (by decide) ?_
              exact ih _ _ _ _ _ _ hf _ _ _ hP hD hS (lv_sub hl [3, 1, 4, 0] rfl) k0
            · have hf := ift h28 hf
              refine lv_iload hx hb dX1_findAlive_143 (lv_at hl 0 rfl) ?_
              refine lv_if_eq (tgt := 152) hx hb dX1_findAlive_145 (by decide) (fun h9 => absurd h9 (by decide)) (fun _ => ?_)
              refine lv_iconst (v := (1 : Int32)) hx hb dX1_findAlive_148 (by decide) ?_
              refine lv_goto (tgt := 153) hx hb dX1_findAlive_149 (by decide) ?_
              refine lv_istore_n hx hb dX1_findAlive_153 rfl hl (by decide) rfl (fun ls hl => ?_)
              have hl : lv_has ls 5 [(1, .int (1 : Int32)), (4, .int (1 : Int32)), (0, .ref hm), (2, .int x2_), (3, .int x3_)] := hl
              refine lv_iinc (v := x3_ + (1 : Int32)) hx hb dX1_findAlive_154 hl (k := 4) rfl (by rfl) (by decide) rfl (fun ls hl => ?_)
              have hl : lv_has ls 5 [(3, .int (x3_ + (1 : Int32))), (1, .int (1 : Int32)), (4, .int (1 : Int32)), (0, .ref hm), (2, .int x2_)] := hl
              refine lv_goto (tgt := 80) hx hb dX1_findAlive_157 (by decide) ?_
              exact ih _ _ _ _ _ _ hf _ _ _ hP hD hS (lv_sub hl [3, 1, 4, 0] rfl) k0
set_option maxHeartbeats 4000000 in
set_option maxRecDepth 100000 in
theorem wX1_findAlive_L71 {p : Program} {l : Launch} {e : Env} {s : State} {m : MethodId} {args : Array Value} {below : List Frame} {meth : Method} {c : Code} {Q : State → Prop} {A : Nat → Prop} (dC : Nat → ClassId) (dI : Nat → Nat → Nat) (cI cZ cL : ClassId) (hm b1 b2 b3 b4 b5 b6 b7 b8 b9 : Nat) (hx : p.tables.exec = Jvm.exec) (hb : c.code = cX1_findAlive) (hml : c.maxLocals = 5) (hown : s.vm.findClass RX1 = some m.cls) (hts : ∀ w ∈ wsX1_findAlive, w.before args s = true) (hK : va_K (dC, dI) vwCl (tyA cI cZ cL) s) (hA : ∀ q : Nat, s.heap.size ≤ q → A q) (th : Int32) (mk : Int32) (us : Nat → Int32) (fi : Nat → Int32) (se : Nat → Int32) (ki : Nat → Int32) (va : Nat → Int32) (ct : Int32) (od : Nat → Int32) (ne : Nat → Int32) (ro : Nat → Int32) (n : Nat) :
    ∀ (x1_ : Int32) (x2_ : Int32) (li : Nat → Int32) (x1_' : Int32) (x2_' : Int32) (li' : Nat → Int32), fX1_findAlive_L71 fi ki va n x1_ x2_ li = some (x1_', x2_', li') → ∀ (H : Heap) (locs : List Loc) (ls : Array Slot), va_P (dC, dI) vwCl (wM cI cZ hm b1 b2 b3 b4 b5 b6 b7 b8 b9 th mk us fi se ki va li ct od ne ro) H → va_D A (wM cI cZ hm b1 b2 b3 b4 b5 b6 b7 b8 b9 th mk us fi se ki va li ct od ne ro) → va_S A s.heap H locs → lv_has ls 5 [(0, .ref hm), (1, .int x1_), (2, .int x2_)] → (∀ (H : Heap) (locs : List Loc) (ls : Array Slot), va_P (dC, dI) vwCl (wM cI cZ hm b1 b2 b3 b4 b5 b6 b7 b8 b9 th mk us fi se ki va li' ct od ne ro) H → va_D A (wM cI cZ hm b1 b2 b3 b4 b5 b6 b7 b8 b9 th mk us fi se ki va li' ct od ne ro) → va_S A s.heap H locs → lv_has ls 5 [(0, .ref hm), (1, .int x1_'), (2, .int x2_')] → W p l e (headSpec wsX1_findAlive rmX1_findAlive).room s m args below meth c H locs 0 0 Q (F0 m 166 ls [])) → W p l e (headSpec wsX1_findAlive rmX1_findAlive).room s m args below meth c H locs 0 0 Q (F0 m 71 ls []) := by
  induction n with
  | zero => intro x1_ x2_ li x1_' x2_' li' hf; cases hf
  | succ n ih =>
    intro x1_ x2_ li x1_' x2_' li' hf H locs ls hP hD hS hl k0
    have hf := (fX1_findAlive_L71_s fi ki va n x1_ x2_ li).symm.trans hf
    refine lv_iload_n hx hb dX1_findAlive_71 rfl (lv_at hl 2 rfl) ?_
    refine lv_sipush (v := (128 : Int32)) hx hb dX1_findAlive_72 (by decide) ?_
    refine lv_icmp_ge (tgt := 166) hx hb dX1_findAlive_75 (by decide) (fun h15 => ?_) (fun h15 => ?_)
    · have hf := ift h15 hf
      cases hf
      exact k0 _ _ _ hP hD hS (lv_sub hl [0, 1, 2] rfl)
    · have hf := ifn h15 hf
      refine lv_iconst (v := (0 : Int32)) hx hb dX1_findAlive_78 (by decide) ?_
      refine lv_istore_n hx hb dX1_findAlive_79 rfl hl (by decide) rfl (fun ls hl => ?_)
      have hl : lv_has ls 5 [(3, .int (0 : Int32)), (0, .ref hm), (1, .int x1_), (2, .int x2_)] := hl
      obtain ⟨⟨x_29, x_30, li_31⟩, hv, hf⟩ := bd hf
      dsimp only at hf
      refine wX1_findAlive_L80 dC dI cI cZ cL hm b1 b2 b3 b4 b5 b6 b7 b8 b9 hx hb hml hown hts hK hA x2_ th mk us fi se ki va ct od ne ro FU x1_ (0 : Int32) li x_29 x_30 li_31 hv _ _ _ hP hD hS (lv_sub hl [1, 2, 3, 0] rfl) (fun H locs ls hP hD hS hl => ?_)
      refine lv_iinc (v := x2_ + (1 : Int32)) hx hb dX1_findAlive_160 hl (k := 2) rfl (by rfl) (by decide) rfl (fun ls hl => ?_)
      have hl : lv_has ls 5 [(2, .int (x2_ + (1 : Int32))), (0, .ref hm), (1, .int x_29), (3, .int x_30)] := hl
      refine lv_goto (tgt := 71) hx hb dX1_findAlive_163 (by decide) ?_
      exact ih _ _ _ _ _ _ hf _ _ _ hP hD hS (lv_sub hl [1, 2, 0] rfl) k0
set_option maxHeartbeats 4000000 in
set_option maxRecDepth 100000 in
theorem wX1_findAlive_L63 {p : Program} {l : Launch} {e : Env} {s : State} {m : MethodId} {args : Array Value} {below : List Frame} {meth : Method} {c : Code} {Q : State → Prop} {A : Nat → Prop} (dC : Nat → ClassId) (dI : Nat → Nat → Nat) (cI cZ cL : ClassId) (hm b1 b2 b3 b4 b5 b6 b7 b8 b9 : Nat) (hx : p.tables.exec = Jvm.exec) (hb : c.code = cX1_findAlive) (hml : c.maxLocals = 5) (hown : s.vm.findClass RX1 = some m.cls) (hts : ∀ w ∈ wsX1_findAlive, w.before args s = true) (hK : va_K (dC, dI) vwCl (tyA cI cZ cL) s) (hA : ∀ q : Nat, s.heap.size ≤ q → A q) (th : Int32) (mk : Int32) (us : Nat → Int32) (fi : Nat → Int32) (se : Nat → Int32) (ki : Nat → Int32) (va : Nat → Int32) (ct : Int32) (od : Nat → Int32) (ne : Nat → Int32) (ro : Nat → Int32) (n : Nat) :
    ∀ (x1_ : Int32) (x2_ : Int32) (li : Nat → Int32) (x1_' : Int32) (x2_' : Int32) (li' : Nat → Int32), fX1_findAlive_L63 fi ki va n x1_ x2_ li = some (x1_', x2_', li') → ∀ (H : Heap) (locs : List Loc) (ls : Array Slot), va_P (dC, dI) vwCl (wM cI cZ hm b1 b2 b3 b4 b5 b6 b7 b8 b9 th mk us fi se ki va li ct od ne ro) H → va_D A (wM cI cZ hm b1 b2 b3 b4 b5 b6 b7 b8 b9 th mk us fi se ki va li ct od ne ro) → va_S A s.heap H locs → lv_has ls 5 [(0, .ref hm), (1, .int x1_), (2, .int x2_)] → (∀ (H : Heap) (locs : List Loc) (ls : Array Slot), va_P (dC, dI) vwCl (wM cI cZ hm b1 b2 b3 b4 b5 b6 b7 b8 b9 th mk us fi se ki va li' ct od ne ro) H → va_D A (wM cI cZ hm b1 b2 b3 b4 b5 b6 b7 b8 b9 th mk us fi se ki va li' ct od ne ro) → va_S A s.heap H locs → lv_has ls 5 [(0, .ref hm), (1, .int x1_'), (2, .int x2_')] → W p l e (headSpec wsX1_findAlive rmX1_findAlive).room s m args below meth c H locs 0 0 Q (F0 m 169 ls [])) → W p l e (headSpec wsX1_findAlive rmX1_findAlive).room s m args below meth c H locs 0 0 Q (F0 m 63 ls []) := by
  induction n with
  | zero => intro x1_ x2_ li x1_' x2_' li' hf; cases hf
  | succ n ih =>
    intro x1_ x2_ li x1_' x2_' li' hf H locs ls hP hD hS hl k0
    have hf := (fX1_findAlive_L63_s fi ki va n x1_ x2_ li).symm.trans hf
    refine lv_iload_n hx hb dX1_findAlive_63 rfl (lv_at hl 1 rfl) ?_
    refine lv_if_eq (tgt := 169) hx hb dX1_findAlive_64 (by decide) (fun h14 => ?_) (fun h14 => ?_)
    · have hf := ift h14 hf
      cases hf
      exact k0 _ _ _ hP hD hS (lv_sub hl [0, 1, 2] rfl)
    · have hf := ifn h14 hf
      refine lv_iconst (v := (0 : Int32)) hx hb dX1_findAlive_67 (by decide) ?_
      refine lv_istore_n hx hb dX1_findAlive_68 rfl hl (by decide) rfl (fun ls hl => ?_)
      have hl : lv_has ls 5 [(1, .int (0 : Int32)), (0, .ref hm), (2, .int x2_)] := hl
      refine lv_iconst (v := (0 : Int32)) hx hb dX1_findAlive_69 (by decide) ?_
      refine lv_istore_n hx hb dX1_findAlive_70 rfl hl (by decide) rfl (fun ls hl => ?_)
      have hl : lv_has ls 5 [(2, .int (0 : Int32)), (1, .int (0 : Int32)), (0, .ref hm)] := hl
      obtain ⟨⟨x_32, x_33, li_34⟩, hv, hf⟩ := bd hf
      dsimp only at hf
      refine wX1_findAlive_L71 dC dI cI cZ cL hm b1 b2 b3 b4 b5 b6 b7 b8 b9 hx hb hml hown hts hK hA th mk us fi se ki va ct od ne ro FU (0 : Int32) (0 : Int32) li x_32 x_33 li_34 hv _ _ _ hP hD hS (lv_sub hl [2, 1, 0] rfl) (fun H locs ls hP hD hS hl => ?_)
      refine lv_goto (tgt := 63) hx hb dX1_findAlive_166 (by decide) ?_
      exact ih _ _ _ _ _ _ hf _ _ _ hP hD hS (lv_sub hl [0, 1, 2] rfl) k0
set_option maxHeartbeats 4000000 in
set_option maxRecDepth 100000 in
theorem ctX1_findAlive (l : Launch) (dC : Nat → ClassId) (dI : Nat → Nat → Nat) (cI cZ cL : ClassId) (hm b1 b2 b3 b4 b5 b6 b7 b8 b9 : Nat) (sz : Nat) (th : Int32) (mk : Int32) (us : Nat → Int32) (fi : Nat → Int32) (se : Nat → Int32) (ki : Nat → Int32) (va : Nat → Int32) (li : Nat → Int32) (ct : Int32) (od : Nat → Int32) (ne : Nat → Int32) (ro : Nat → Int32) (li' : Nat → Int32) (hf : fX1_findAlive fi ki va li ro = some li') : Met l yX1_findAlive wsX1_findAlive rmX1_findAlive (va_Pc [.ref hm] (q_pre (dC, dI) vwCl (tyA cI cZ cL) sz (wM cI cZ hm b1 b2 b3 b4 b5 b6 b7 b8 b9 th mk us fi se ki va li ct od ne ro))) (va_Qv (fun (_ : Unit) => True) (fun _ => q_post (dC, dI) vwCl (tyA cI cZ cL) (va_A (wM cI cZ hm b1 b2 b3 b4 b5 b6 b7 b8 b9 th mk us fi se ki va li ct od ne ro) sz) (wM cI cZ hm b1 b2 b3 b4 b5 b6 b7 b8 b9 th mk us fi se ki va li' ct od ne ro)) (va_A (wM cI cZ hm b1 b2 b3 b4 b5 b6 b7 b8 b9 th mk us fi se ki va li ct od ne ro) sz)) 0 0 (va_A (wM cI cZ hm b1 b2 b3 b4 b5 b6 b7 b8 b9 th mk us fi se ki va li ct od ne ro) sz) := by
  refine Met.ofW (cc := cX1_findAlive) (maxL := 5) (ret := (none)) (by decide) rfl ?_
  intro p e s m args below meth c s₁ B hml hv
  obtain ⟨rfl, hsz, hP, hK, hD0⟩ := hv
  have hx := B.exec
  have hb := B.bytes
  have hr := B.returns
  have hts := atoms_spec (ws := wsX1_findAlive) B.pre
  have hown : s.vm.findClass RX1 = some m.cls := findClass_of_methodNamed B.named
  subst hsz
  have hD := hD0.self (sz := s.heap.size)
  generalize hAe : va_A (wM cI cZ hm b1 b2 b3 b4 b5 b6 b7 b8 b9 th mk us fi se ki va li ct od ne ro) s.heap.size = A at hD ⊢
  have hA : ∀ q : Nat, s.heap.size ≤ q → A q := fun q h => by rw [← hAe]; exact Or.inr h
  have hS : va_S A s.heap s.heap [] := va_S.rf
  have hl := lv_entry ([.ref hm]) (n := 5) (Nat.le_of_ble_eq_true rfl)
  rw [lg_entry_eq]
  generalize (lg_sl ([.ref hm]) ++ List.replicate (5 - (lg_sl ([.ref hm])).length) Slot.unset).toArray = ls at hl ⊢
  have hl : lv_has ls 5 [(0, .ref hm)] := hl
  unfold fX1_findAlive at hf
  refine lv_iconst (v := (0 : Int32)) hx hb dX1_findAlive_0 (by decide) ?_
  refine lv_istore_n hx hb dX1_findAlive_1 rfl hl (by decide) rfl (fun ls hl => ?_)
  have hl : lv_has ls 5 [(1, .int (0 : Int32)), (0, .ref hm)] := hl
  obtain ⟨⟨x_3, li_4⟩, hv, hf⟩ := bd hf
  dsimp only at hf
  refine wX1_findAlive_L2 dC dI cI cZ cL hm b1 b2 b3 b4 b5 b6 b7 b8 b9 hx hb hml hown hts hK hA th mk us fi se ki va ct od ne ro FU (0 : Int32) li x_3 li_4 hv _ _ _ hP hD hS (lv_sub hl [1, 0] rfl) (fun H locs ls hP hD hS hl => ?_)
  refine lv_iconst (v := (0 : Int32)) hx hb dX1_findAlive_22 (by decide) ?_
  refine lv_istore_n hx hb dX1_findAlive_23 rfl hl (by decide) rfl (fun ls hl => ?_)
  have hl : lv_has ls 5 [(1, .int (0 : Int32)), (0, .ref hm)] := hl
  refine lv_iconst (v := (0 : Int32)) hx hb dX1_findAlive_24 (by decide) ?_
  refine lv_istore_n hx hb dX1_findAlive_25 rfl hl (by decide) rfl (fun ls hl => ?_)
  have hl : lv_has ls 5 [(2, .int (0 : Int32)), (1, .int (0 : Int32)), (0, .ref hm)] := hl
  obtain ⟨⟨x_11, x_12, li_13⟩, hv, hf⟩ := bd hf
  dsimp only at hf
  refine wX1_findAlive_L26 dC dI cI cZ cL hm b1 b2 b3 b4 b5 b6 b7 b8 b9 hx hb hml hown hts hK hA th mk us fi se ki va ct od ne ro FU (0 : Int32) (0 : Int32) li_4 x_11 x_12 li_13 hv _ _ _ hP hD hS (lv_sub hl [2, 1, 0] rfl) (fun H locs ls hP hD hS hl => ?_)
  obtain ⟨⟨x_35, x_36, li_37⟩, hv, hf⟩ := bd hf
  dsimp only at hf
  refine wX1_findAlive_L63 dC dI cI cZ cL hm b1 b2 b3 b4 b5 b6 b7 b8 b9 hx hb hml hown hts hK hA th mk us fi se ki va ct od ne ro FU x_11 x_12 li_13 x_35 x_36 li_37 hv _ _ _ hP hD hS (lv_sub hl [0, 1, 2] rfl) (fun H locs ls hP hD hS hl => ?_)
  have hg0 := Option.some.inj hf
  subst hg0
  exact W.vret hx hb hr (fun t ht hW => ⟨⟨(), rfl, trivial, by rw [ht]; exact hP, va_K.moved hW.alike hK, hD⟩, hS.F ht⟩) hS.2.2 dX1_findAlive_169
set_option maxHeartbeats 4000000 in
set_option maxRecDepth 100000 in
theorem wX1_countAlive_L4 {p : Program} {l : Launch} {e : Env} {s : State} {m : MethodId} {args : Array Value} {below : List Frame} {meth : Method} {c : Code} {Q : State → Prop} {A : Nat → Prop} (dC : Nat → ClassId) (dI : Nat → Nat → Nat) (cI cZ cL : ClassId) (hm b1 b2 b3 b4 b5 b6 b7 b8 b9 : Nat) (hx : p.tables.exec = Jvm.exec) (hb : c.code = cX1_countAlive) (hml : c.maxLocals = 3) (hown : s.vm.findClass RX1 = some m.cls) (hts : ∀ w ∈ wsX1_countAlive, w.before args s = true) (hK : va_K (dC, dI) vwCl (tyA cI cZ cL) s) (hA : ∀ q : Nat, s.heap.size ≤ q → A q) (th : Int32) (mk : Int32) (us : Nat → Int32) (fi : Nat → Int32) (se : Nat → Int32) (ki : Nat → Int32) (va : Nat → Int32) (li : Nat → Int32) (ct : Int32) (od : Nat → Int32) (ne : Nat → Int32) (ro : Nat → Int32) (n : Nat) :
    ∀ (x1_ : Int32) (x2_ : Int32) (x1_' : Int32) (x2_' : Int32), fX1_countAlive_L4 li ct od n x1_ x2_ = some (x1_', x2_') → ∀ (H : Heap) (locs : List Loc) (ls : Array Slot), va_P (dC, dI) vwCl (wM cI cZ hm b1 b2 b3 b4 b5 b6 b7 b8 b9 th mk us fi se ki va li ct od ne ro) H → va_D A (wM cI cZ hm b1 b2 b3 b4 b5 b6 b7 b8 b9 th mk us fi se ki va li ct od ne ro) → va_S A s.heap H locs → lv_has ls 3 [(0, .ref hm), (1, .int x1_), (2, .int x2_)] → (∀ (H : Heap) (locs : List Loc) (ls : Array Slot), va_P (dC, dI) vwCl (wM cI cZ hm b1 b2 b3 b4 b5 b6 b7 b8 b9 th mk us fi se ki va li ct od ne ro) H → va_D A (wM cI cZ hm b1 b2 b3 b4 b5 b6 b7 b8 b9 th mk us fi se ki va li ct od ne ro) → va_S A s.heap H locs → lv_has ls 3 [(0, .ref hm), (1, .int x1_'), (2, .int x2_')] → W p l e (headSpec wsX1_countAlive rmX1_countAlive).room s m args below meth c H locs 0 0 Q (F0 m 40 ls [])) → W p l e (headSpec wsX1_countAlive rmX1_countAlive).room s m args below meth c H locs 0 0 Q (F0 m 4 ls []) := by
  induction n with
  | zero => intro x1_ x2_ x1_' x2_' hf; cases hf
  | succ n ih =>
    intro x1_ x2_ x1_' x2_' hf H locs ls hP hD hS hl k0
    have hf := (fX1_countAlive_L4_s li ct od n x1_ x2_).symm.trans hf
    refine lv_iload_n hx hb dX1_countAlive_4 rfl (lv_at hl 2 rfl) ?_
    refine lv_aload_n hx hb dX1_countAlive_5 rfl (lv_at hl 0 rfl) ?_
    refine va_get (D := (dC, dI)) (ci := 1) (v := .int ct) (C := RX1) (T := TX1) (N := 12) hx hb hts (fun w hw => List.mem_cons_of_mem _ (inX1 w hw)) hown hK hP 0 rfl rfl 8 (by decide) (hts _ (List.mem_cons_of_mem _ mw_452)) (fun _ h9 => h9) rfl dX1_countAlive_6 ?_
    refine lv_icmp_ge (tgt := 40) hx hb dX1_countAlive_9 (by decide) (fun h1 => ?_) (fun h1 => ?_)
    · have hf := ift h1 hf
      cases hf
      exact k0 _ _ _ hP hD hS (lv_sub hl [0, 1, 2] rfl)
    · have hf := ifn h1 hf
      refine lv_aload_n hx hb dX1_countAlive_12 rfl (lv_at hl 0 rfl) ?_
      refine va_get (D := (dC, dI)) (ci := 1) (v := .ref b6) (C := RX1) (T := TX1) (N := 12) hx hb hts (fun w hw => List.mem_cons_of_mem _ (inX1 w hw)) hown hK hP 0 rfl rfl 7 (by decide) (hts _ (List.mem_cons_of_mem _ mw_451)) (fun _ h9 => h9) rfl dX1_countAlive_13 ?_
      refine lv_aload_n hx hb dX1_countAlive_16 rfl (lv_at hl 0 rfl) ?_
      refine va_get (D := (dC, dI)) (ci := 1) (v := .ref b7) (C := RX1) (T := TX1) (N := 12) hx hb hts (fun w hw => List.mem_cons_of_mem _ (inX1 w hw)) hown hK hP 0 rfl rfl 9 (by decide) (hts _ (List.mem_cons_of_mem _ mw_453)) (fun _ h9 => h9) rfl dX1_countAlive_17 ?_
      refine lv_iload_n hx hb dX1_countAlive_20 rfl (lv_at hl 2 rfl) ?_
      obtain ⟨v2, hv, hf⟩ := bd hf
      refine q_ild hx hb hK hP 7 0 rfl rfl hv dX1_countAlive_21 ?_
      obtain ⟨v3, hv, hf⟩ := bd hf
      refine q_zld hx hb hK hP 6 1 rfl rfl hv dX1_countAlive_22 ?_
      refine lv_if_eq (tgt := 32) hx hb dX1_countAlive_23 (by decide) (fun h4 => ?_) (fun h4 => ?_)
      · have hf := ift h4 hf
        refine lv_iload_n hx hb dX1_countAlive_32 rfl (lv_at hl 1 rfl) ?_
        refine lv_istore_n hx hb dX1_countAlive_33 rfl hl (by decide) rfl (fun ls hl => ?_)
        have hl : lv_has ls 3 [(1, .int x1_), (0, .ref hm), (2, .int x2_)] := hl
        refine lv_iinc (v := x2_ + (1 : Int32)) hx hb dX1_countAlive_34 hl (k := 2) rfl (by rfl) (by decide) rfl (fun ls hl => ?_)
        have hl : lv_has ls 3 [(2, .int (x2_ + (1 : Int32))), (1, .int x1_), (0, .ref hm)] := hl
        refine lv_goto (tgt := 4) hx hb dX1_countAlive_37 (by decide) ?_
        exact ih _ _ _ _ hf _ _ _ hP hD hS (lv_sub hl [2, 1, 0] rfl) k0
      · have hf := ifn h4 hf
        refine lv_iload_n hx hb dX1_countAlive_26 rfl (lv_at hl 1 rfl) ?_
        refine lv_iconst (v := (1 : Int32)) hx hb dX1_countAlive_27 (by decide) ?_
        refine lv_iadd hx hb dX1_countAlive_28 ?_
        refine lv_goto (tgt := 33) hx hb dX1_countAlive_29 (by decide) ?_
        refine lv_istore_n hx hb dX1_countAlive_33 rfl hl (by decide) rfl (fun ls hl => ?_)
        have hl : lv_has ls 3 [(1, .int (x1_ + (1 : Int32))), (0, .ref hm), (2, .int x2_)] := hl
        refine lv_iinc (v := x2_ + (1 : Int32)) hx hb dX1_countAlive_34 hl (k := 2) rfl (by rfl) (by decide) rfl (fun ls hl => ?_)
        have hl : lv_has ls 3 [(2, .int (x2_ + (1 : Int32))), (1, .int (x1_ + (1 : Int32))), (0, .ref hm)] := hl
        refine lv_goto (tgt := 4) hx hb dX1_countAlive_37 (by decide) ?_
        exact ih _ _ _ _ hf _ _ _ hP hD hS (lv_sub hl [2, 1, 0] rfl) k0
set_option maxHeartbeats 4000000 in
set_option maxRecDepth 100000 in
theorem ctX1_countAlive (l : Launch) (dC : Nat → ClassId) (dI : Nat → Nat → Nat) (cI cZ cL : ClassId) (hm b1 b2 b3 b4 b5 b6 b7 b8 b9 : Nat) (sz : Nat) (th : Int32) (mk : Int32) (us : Nat → Int32) (fi : Nat → Int32) (se : Nat → Int32) (ki : Nat → Int32) (va : Nat → Int32) (li : Nat → Int32) (ct : Int32) (od : Nat → Int32) (ne : Nat → Int32) (ro : Nat → Int32) (rs : Int32) (hf : fX1_countAlive li ct od = some rs) : Met l yX1_countAlive wsX1_countAlive rmX1_countAlive (va_Pc [.ref hm] (q_pre (dC, dI) vwCl (tyA cI cZ cL) sz (wM cI cZ hm b1 b2 b3 b4 b5 b6 b7 b8 b9 th mk us fi se ki va li ct od ne ro))) (va_Qi (fun r (_ : Unit) => r = rs) (fun _ => q_post (dC, dI) vwCl (tyA cI cZ cL) (va_A (wM cI cZ hm b1 b2 b3 b4 b5 b6 b7 b8 b9 th mk us fi se ki va li ct od ne ro) sz) (wM cI cZ hm b1 b2 b3 b4 b5 b6 b7 b8 b9 th mk us fi se ki va li ct od ne ro)) (va_A (wM cI cZ hm b1 b2 b3 b4 b5 b6 b7 b8 b9 th mk us fi se ki va li ct od ne ro) sz)) 0 0 (va_A (wM cI cZ hm b1 b2 b3 b4 b5 b6 b7 b8 b9 th mk us fi se ki va li ct od ne ro) sz) := by
  refine Met.ofW (cc := cX1_countAlive) (maxL := 3) (ret := (some .int)) (by decide) rfl ?_
  intro p e s m args below meth c s₁ B hml hv
  obtain ⟨rfl, hsz, hP, hK, hD0⟩ := hv
  have hx := B.exec
  have hb := B.bytes
  have hr := B.returns
  have hts := atoms_spec (ws := wsX1_countAlive) B.pre
  have hown : s.vm.findClass RX1 = some m.cls := findClass_of_methodNamed B.named
  subst hsz
  have hD := hD0.self (sz := s.heap.size)
  generalize hAe : va_A (wM cI cZ hm b1 b2 b3 b4 b5 b6 b7 b8 b9 th mk us fi se ki va li ct od ne ro) s.heap.size = A at hD ⊢
  have hA : ∀ q : Nat, s.heap.size ≤ q → A q := fun q h => by rw [← hAe]; exact Or.inr h
  have hS : va_S A s.heap s.heap [] := va_S.rf
  have hl := lv_entry ([.ref hm]) (n := 3) (Nat.le_of_ble_eq_true rfl)
  rw [lg_entry_eq]
  generalize (lg_sl ([.ref hm]) ++ List.replicate (3 - (lg_sl ([.ref hm])).length) Slot.unset).toArray = ls at hl ⊢
  have hl : lv_has ls 3 [(0, .ref hm)] := hl
  unfold fX1_countAlive at hf
  refine lv_iconst (v := (0 : Int32)) hx hb dX1_countAlive_0 (by decide) ?_
  refine lv_istore_n hx hb dX1_countAlive_1 rfl hl (by decide) rfl (fun ls hl => ?_)
  have hl : lv_has ls 3 [(1, .int (0 : Int32)), (0, .ref hm)] := hl
  refine lv_iconst (v := (0 : Int32)) hx hb dX1_countAlive_2 (by decide) ?_
  refine lv_istore_n hx hb dX1_countAlive_3 rfl hl (by decide) rfl (fun ls hl => ?_)
  have hl : lv_has ls 3 [(2, .int (0 : Int32)), (1, .int (0 : Int32)), (0, .ref hm)] := hl
  obtain ⟨⟨x_5, x_6⟩, hv, hf⟩ := bd hf
  dsimp only at hf
  refine wX1_countAlive_L4 dC dI cI cZ cL hm b1 b2 b3 b4 b5 b6 b7 b8 b9 hx hb hml hown hts hK hA th mk us fi se ki va li ct od ne ro FU (0 : Int32) (0 : Int32) x_5 x_6 hv _ _ _ hP hD hS (lv_sub hl [2, 1, 0] rfl) (fun H locs ls hP hD hS hl => ?_)
  refine lv_iload_n hx hb dX1_countAlive_40 rfl (lv_at hl 1 rfl) ?_
  have hg0 := Option.some.inj hf
  subst hg0
  exact W.iret hx hb hr (fun t ht hW => ⟨⟨_, (), rfl, rfl, by rw [ht]; exact hP, va_K.moved hW.alike hK, hD⟩, hS.F ht⟩) hS.2.2 dX1_countAlive_41
set_option maxHeartbeats 4000000 in
set_option maxRecDepth 100000 in
theorem wX1_oneSize_L4 {p : Program} {l : Launch} {e : Env} {s : State} {m : MethodId} {args : Array Value} {below : List Frame} {meth : Method} {c : Code} {Q : State → Prop} {A : Nat → Prop} (dC : Nat → ClassId) (dI : Nat → Nat → Nat) (cI cZ cL : ClassId) (hm b1 b2 b3 b4 b5 b6 b7 b8 b9 : Nat) (hx : p.tables.exec = Jvm.exec) (hb : c.code = cX1_oneSize) (hml : c.maxLocals = 3) (hown : s.vm.findClass RX1 = some m.cls) (hts : ∀ w ∈ wsX1_oneSize, w.before args s = true) (hK : va_K (dC, dI) vwCl (tyA cI cZ cL) s) (hA : ∀ q : Nat, s.heap.size ≤ q → A q) (th : Int32) (mk : Int32) (us : Nat → Int32) (fi : Nat → Int32) (se : Nat → Int32) (ki : Nat → Int32) (va : Nat → Int32) (li : Nat → Int32) (ct : Int32) (od : Nat → Int32) (ne : Nat → Int32) (ro : Nat → Int32) (n : Nat) :
    ∀ (x1_ : Int32) (x2_ : Int32) (x1_' : Int32) (x2_' : Int32), fX1_oneSize_L4 fi ct od n x1_ x2_ = some (x1_', x2_') → ∀ (H : Heap) (locs : List Loc) (ls : Array Slot), va_P (dC, dI) vwCl (wM cI cZ hm b1 b2 b3 b4 b5 b6 b7 b8 b9 th mk us fi se ki va li ct od ne ro) H → va_D A (wM cI cZ hm b1 b2 b3 b4 b5 b6 b7 b8 b9 th mk us fi se ki va li ct od ne ro) → va_S A s.heap H locs → lv_has ls 3 [(0, .ref hm), (1, .int x1_), (2, .int x2_)] → (∀ (H : Heap) (locs : List Loc) (ls : Array Slot), va_P (dC, dI) vwCl (wM cI cZ hm b1 b2 b3 b4 b5 b6 b7 b8 b9 th mk us fi se ki va li ct od ne ro) H → va_D A (wM cI cZ hm b1 b2 b3 b4 b5 b6 b7 b8 b9 th mk us fi se ki va li ct od ne ro) → va_S A s.heap H locs → lv_has ls 3 [(0, .ref hm), (1, .int x1_'), (2, .int x2_')] → W p l e (headSpec wsX1_oneSize rmX1_oneSize).room s m args below meth c H locs 0 0 Q (F0 m 53 ls [])) → W p l e (headSpec wsX1_oneSize rmX1_oneSize).room s m args below meth c H locs 0 0 Q (F0 m 4 ls []) := by
  induction n with
  | zero => intro x1_ x2_ x1_' x2_' hf; cases hf
  | succ n ih =>
    intro x1_ x2_ x1_' x2_' hf H locs ls hP hD hS hl k0
    have hf := (fX1_oneSize_L4_s fi ct od n x1_ x2_).symm.trans hf
    refine lv_iload_n hx hb dX1_oneSize_4 rfl (lv_at hl 2 rfl) ?_
    refine lv_aload_n hx hb dX1_oneSize_5 rfl (lv_at hl 0 rfl) ?_
    refine va_get (D := (dC, dI)) (ci := 1) (v := .int ct) (C := RX1) (T := TX1) (N := 12) hx hb hts (fun w hw => List.mem_cons_of_mem _ (inX1 w hw)) hown hK hP 0 rfl rfl 8 (by decide) (hts _ (List.mem_cons_of_mem _ mw_452)) (fun _ h9 => h9) rfl dX1_oneSize_6 ?_
    refine lv_icmp_ge (tgt := 53) hx hb dX1_oneSize_9 (by decide) (fun h1 => ?_) (fun h1 => ?_)
    · have hf := ift h1 hf
      cases hf
      exact k0 _ _ _ hP hD hS (lv_sub hl [0, 1, 2] rfl)
    · have hf := ifn h1 hf
      refine lv_iload_n hx hb dX1_oneSize_12 rfl (lv_at hl 1 rfl) ?_
      refine lv_if_eq (tgt := 45) hx hb dX1_oneSize_13 (by decide) (fun h2 => ?_) (fun h2 => ?_)
      · have hf := ift h2 hf
        refine lv_iconst (v := (0 : Int32)) hx hb dX1_oneSize_45 (by decide) ?_
        refine lv_istore_n hx hb dX1_oneSize_46 rfl hl (by decide) rfl (fun ls hl => ?_)
        have hl : lv_has ls 3 [(1, .int (0 : Int32)), (0, .ref hm), (2, .int x2_)] := hl
        refine lv_iinc (v := x2_ + (1 : Int32)) hx hb dX1_oneSize_47 hl (k := 2) rfl (by rfl) (by decide) rfl (fun ls hl => ?_)
        have hl : lv_has ls 3 [(2, .int (x2_ + (1 : Int32))), (1, .int (0 : Int32)), (0, .ref hm)] := hl
        refine lv_goto (tgt := 4) hx hb dX1_oneSize_50 (by decide) ?_
        exact ih _ _ _ _ hf _ _ _ hP hD hS (lv_sub hl [2, 1, 0] rfl) k0
      · have hf := ifn h2 hf
        refine lv_aload_n hx hb dX1_oneSize_16 rfl (lv_at hl 0 rfl) ?_
        refine va_get (D := (dC, dI)) (ci := 1) (v := .ref b2) (C := RX1) (T := TX1) (N := 12) hx hb hts (fun w hw => List.mem_cons_of_mem _ (inX1 w hw)) hown hK hP 0 rfl rfl 3 (by decide) (hts _ (List.mem_cons_of_mem _ mw_447)) (fun _ h9 => h9) rfl dX1_oneSize_17 ?_
        refine lv_aload_n hx hb dX1_oneSize_20 rfl (lv_at hl 0 rfl) ?_
        refine va_get (D := (dC, dI)) (ci := 1) (v := .ref b7) (C := RX1) (T := TX1) (N := 12) hx hb hts (fun w hw => List.mem_cons_of_mem _ (inX1 w hw)) hown hK hP 0 rfl rfl 9 (by decide) (hts _ (List.mem_cons_of_mem _ mw_453)) (fun _ h9 => h9) rfl dX1_oneSize_21 ?_
        refine lv_iload_n hx hb dX1_oneSize_24 rfl (lv_at hl 2 rfl) ?_
        obtain ⟨v3, hv, hf⟩ := bd hf
        refine q_ild hx hb hK hP 7 0 rfl rfl hv dX1_oneSize_25 ?_
        obtain ⟨v4, hv, hf⟩ := bd hf
        refine q_ild hx hb hK hP 2 0 rfl rfl hv dX1_oneSize_26 ?_
        refine lv_aload_n hx hb dX1_oneSize_27 rfl (lv_at hl 0 rfl) ?_
        refine va_get (D := (dC, dI)) (ci := 1) (v := .ref b2) (C := RX1) (T := TX1) (N := 12) hx hb hts (fun w hw => List.mem_cons_of_mem _ (inX1 w hw)) hown hK hP 0 rfl rfl 3 (by decide) (hts _ (List.mem_cons_of_mem _ mw_447)) (fun _ h9 => h9) rfl dX1_oneSize_28 ?_
        refine lv_aload_n hx hb dX1_oneSize_31 rfl (lv_at hl 0 rfl) ?_
        refine va_get (D := (dC, dI)) (ci := 1) (v := .ref b7) (C := RX1) (T := TX1) (N := 12) hx hb hts (fun w hw => List.mem_cons_of_mem _ (inX1 w hw)) hown hK hP 0 rfl rfl 9 (by decide) (hts _ (List.mem_cons_of_mem _ mw_453)) (fun _ h9 => h9) rfl dX1_oneSize_32 ?_
        refine lv_iconst (v := (0 : Int32)) hx hb dX1_oneSize_35 (by decide) ?_
        obtain ⟨v5, hv, hf⟩ := bd hf
        refine q_ild hx hb hK hP 7 0 rfl rfl hv dX1_oneSize_36 ?_
        obtain ⟨v6, hv, hf⟩ := bd hf
        refine q_ild hx hb hK hP 2 0 rfl rfl hv dX1_oneSize_37 ?_
        refine lv_icmp_ne (tgt := 45) hx hb dX1_oneSize_38 (by decide) (fun h7 => ?_) (fun h7 => ?_)
        · have hf := ifn h7 hf
          refine lv_iconst (v := (0 : Int32)) hx hb dX1_oneSize_45 (by decide) ?_
          refine lv_istore_n hx hb dX1_oneSize_46 rfl hl (by decide) rfl (fun ls hl => ?_)
          have hl : lv_has ls 3 [(1, .int (0 : Int32)), (0, .ref hm), (2, .int x2_)] := hl
          refine lv_iinc (v := x2_ + (1 : Int32)) hx hb dX1_oneSize_47 hl (k := 2) rfl (by rfl) (by decide) rfl (fun ls hl => ?_)
          have hl : lv_has ls 3 [(2, .int (x2_ + (1 : Int32))), (1, .int (0 : Int32)), (0, .ref hm)] := hl
          refine lv_goto (tgt := 4) hx hb dX1_oneSize_50 (by decide) ?_
          exact ih _ _ _ _ hf _ _ _ hP hD hS (lv_sub hl [2, 1, 0] rfl) k0
        · have hf := ift h7 hf
          refine lv_iconst (v := (1 : Int32)) hx hb dX1_oneSize_41 (by decide) ?_
          refine lv_goto (tgt := 46) hx hb dX1_oneSize_42 (by decide) ?_
          refine lv_istore_n hx hb dX1_oneSize_46 rfl hl (by decide) rfl (fun ls hl => ?_)
          have hl : lv_has ls 3 [(1, .int (1 : Int32)), (0, .ref hm), (2, .int x2_)] := hl
          refine lv_iinc (v := x2_ + (1 : Int32)) hx hb dX1_oneSize_47 hl (k := 2) rfl (by rfl) (by decide) rfl (fun ls hl => ?_)
          have hl : lv_has ls 3 [(2, .int (x2_ + (1 : Int32))), (1, .int (1 : Int32)), (0, .ref hm)] := hl
          refine lv_goto (tgt := 4) hx hb dX1_oneSize_50 (by decide) ?_
          exact ih _ _ _ _ hf _ _ _ hP hD hS (lv_sub hl [2, 1, 0] rfl) k0
set_option maxHeartbeats 4000000 in
set_option maxRecDepth 100000 in
theorem ctX1_oneSize (l : Launch) (dC : Nat → ClassId) (dI : Nat → Nat → Nat) (cI cZ cL : ClassId) (hm b1 b2 b3 b4 b5 b6 b7 b8 b9 : Nat) (sz : Nat) (th : Int32) (mk : Int32) (us : Nat → Int32) (fi : Nat → Int32) (se : Nat → Int32) (ki : Nat → Int32) (va : Nat → Int32) (li : Nat → Int32) (ct : Int32) (od : Nat → Int32) (ne : Nat → Int32) (ro : Nat → Int32) (rs : Int32) (hf : fX1_oneSize fi ct od = some rs) : Met l yX1_oneSize wsX1_oneSize rmX1_oneSize (va_Pc [.ref hm] (q_pre (dC, dI) vwCl (tyA cI cZ cL) sz (wM cI cZ hm b1 b2 b3 b4 b5 b6 b7 b8 b9 th mk us fi se ki va li ct od ne ro))) (va_Qi (fun r (_ : Unit) => r = rs) (fun _ => q_post (dC, dI) vwCl (tyA cI cZ cL) (va_A (wM cI cZ hm b1 b2 b3 b4 b5 b6 b7 b8 b9 th mk us fi se ki va li ct od ne ro) sz) (wM cI cZ hm b1 b2 b3 b4 b5 b6 b7 b8 b9 th mk us fi se ki va li ct od ne ro)) (va_A (wM cI cZ hm b1 b2 b3 b4 b5 b6 b7 b8 b9 th mk us fi se ki va li ct od ne ro) sz)) 0 0 (va_A (wM cI cZ hm b1 b2 b3 b4 b5 b6 b7 b8 b9 th mk us fi se ki va li ct od ne ro) sz) := by
  refine Met.ofW (cc := cX1_oneSize) (maxL := 3) (ret := (some .boolean)) (by decide) rfl ?_
  intro p e s m args below meth c s₁ B hml hv
  obtain ⟨rfl, hsz, hP, hK, hD0⟩ := hv
  have hx := B.exec
  have hb := B.bytes
  have hr := B.returns
  have hts := atoms_spec (ws := wsX1_oneSize) B.pre
  have hown : s.vm.findClass RX1 = some m.cls := findClass_of_methodNamed B.named
  subst hsz
  have hD := hD0.self (sz := s.heap.size)
  generalize hAe : va_A (wM cI cZ hm b1 b2 b3 b4 b5 b6 b7 b8 b9 th mk us fi se ki va li ct od ne ro) s.heap.size = A at hD ⊢
  have hA : ∀ q : Nat, s.heap.size ≤ q → A q := fun q h => by rw [← hAe]; exact Or.inr h
  have hS : va_S A s.heap s.heap [] := va_S.rf
  have hl := lv_entry ([.ref hm]) (n := 3) (Nat.le_of_ble_eq_true rfl)
  rw [lg_entry_eq]
  generalize (lg_sl ([.ref hm]) ++ List.replicate (3 - (lg_sl ([.ref hm])).length) Slot.unset).toArray = ls at hl ⊢
  have hl : lv_has ls 3 [(0, .ref hm)] := hl
  unfold fX1_oneSize at hf
  refine lv_iconst (v := (1 : Int32)) hx hb dX1_oneSize_0 (by decide) ?_
  refine lv_istore_n hx hb dX1_oneSize_1 rfl hl (by decide) rfl (fun ls hl => ?_)
  have hl : lv_has ls 3 [(1, .int (1 : Int32)), (0, .ref hm)] := hl
  refine lv_iconst (v := (1 : Int32)) hx hb dX1_oneSize_2 (by decide) ?_
  refine lv_istore_n hx hb dX1_oneSize_3 rfl hl (by decide) rfl (fun ls hl => ?_)
  have hl : lv_has ls 3 [(2, .int (1 : Int32)), (1, .int (1 : Int32)), (0, .ref hm)] := hl
  obtain ⟨⟨x_8, x_9⟩, hv, hf⟩ := bd hf
  dsimp only at hf
  refine wX1_oneSize_L4 dC dI cI cZ cL hm b1 b2 b3 b4 b5 b6 b7 b8 b9 hx hb hml hown hts hK hA th mk us fi se ki va li ct od ne ro FU (1 : Int32) (1 : Int32) x_8 x_9 hv _ _ _ hP hD hS (lv_sub hl [2, 1, 0] rfl) (fun H locs ls hP hD hS hl => ?_)
  refine lv_iload_n hx hb dX1_oneSize_53 rfl (lv_at hl 1 rfl) ?_
  obtain ⟨z10, hv, hf⟩ := bd hf
  obtain ⟨hz0, hz⟩ := rtZ_some hv
  have hg0 := Option.some.inj hf
  subst hg0
  subst hz0
  exact W.zret hx hb hr hz (fun t ht hW => ⟨⟨_, (), rfl, rfl, by rw [ht]; exact hP, va_K.moved hW.alike hK, hD⟩, hS.F ht⟩) hS.2.2 dX1_oneSize_54
set_option maxHeartbeats 4000000 in
set_option maxRecDepth 100000 in
theorem wX1_keepOrder_L4 {p : Program} {l : Launch} {e : Env} {s : State} {m : MethodId} {args : Array Value} {below : List Frame} {meth : Method} {c : Code} {Q : State → Prop} {A : Nat → Prop} (dC : Nat → ClassId) (dI : Nat → Nat → Nat) (cI cZ cL : ClassId) (hm b1 b2 b3 b4 b5 b6 b7 b8 b9 : Nat) (hx : p.tables.exec = Jvm.exec) (hb : c.code = cX1_keepOrder) (hml : c.maxLocals = 3) (hown : s.vm.findClass RX1 = some m.cls) (hts : ∀ w ∈ wsX1_keepOrder, w.before args s = true) (hK : va_K (dC, dI) vwCl (tyA cI cZ cL) s) (hA : ∀ q : Nat, s.heap.size ≤ q → A q) (th : Int32) (mk : Int32) (us : Nat → Int32) (fi : Nat → Int32) (se : Nat → Int32) (ki : Nat → Int32) (va : Nat → Int32) (li : Nat → Int32) (ct : Int32) (od : Nat → Int32) (ro : Nat → Int32) (n : Nat) :
    ∀ (x1_ : Int32) (x2_ : Int32) (ne : Nat → Int32) (x1_' : Int32) (x2_' : Int32) (ne' : Nat → Int32), fX1_keepOrder_L4 li ct od n x1_ x2_ ne = some (x1_', x2_', ne') → ∀ (H : Heap) (locs : List Loc) (ls : Array Slot), va_P (dC, dI) vwCl (wM cI cZ hm b1 b2 b3 b4 b5 b6 b7 b8 b9 th mk us fi se ki va li ct od ne ro) H → va_D A (wM cI cZ hm b1 b2 b3 b4 b5 b6 b7 b8 b9 th mk us fi se ki va li ct od ne ro) → va_S A s.heap H locs → lv_has ls 3 [(0, .ref hm), (1, .int x1_), (2, .int x2_)] → (∀ (H : Heap) (locs : List Loc) (ls : Array Slot), va_P (dC, dI) vwCl (wM cI cZ hm b1 b2 b3 b4 b5 b6 b7 b8 b9 th mk us fi se ki va li ct od ne' ro) H → va_D A (wM cI cZ hm b1 b2 b3 b4 b5 b6 b7 b8 b9 th mk us fi se ki va li ct od ne' ro) → va_S A s.heap H locs → lv_has ls 3 [(0, .ref hm), (1, .int x1_'), (2, .int x2_')] → W p l e (headSpec wsX1_keepOrder rmX1_keepOrder).room s m args below meth c H locs 0 0 Q (F0 m 47 ls [])) → W p l e (headSpec wsX1_keepOrder rmX1_keepOrder).room s m args below meth c H locs 0 0 Q (F0 m 4 ls []) := by
  induction n with
  | zero => intro x1_ x2_ ne x1_' x2_' ne' hf; cases hf
  | succ n ih =>
    intro x1_ x2_ ne x1_' x2_' ne' hf H locs ls hP hD hS hl k0
    have hf := (fX1_keepOrder_L4_s li ct od n x1_ x2_ ne).symm.trans hf
    refine lv_iload_n hx hb dX1_keepOrder_4 rfl (lv_at hl 2 rfl) ?_
    refine lv_aload_n hx hb dX1_keepOrder_5 rfl (lv_at hl 0 rfl) ?_
    refine va_get (D := (dC, dI)) (ci := 1) (v := .int ct) (C := RX1) (T := TX1) (N := 12) hx hb hts (fun w hw => List.mem_cons_of_mem _ (inX1 w hw)) hown hK hP 0 rfl rfl 8 (by decide) (hts _ (List.mem_cons_of_mem _ mw_452)) (fun _ h9 => h9) rfl dX1_keepOrder_6 ?_
    refine lv_icmp_ge (tgt := 47) hx hb dX1_keepOrder_9 (by decide) (fun h1 => ?_) (fun h1 => ?_)
    · have hf := ift h1 hf
      cases hf
      exact k0 _ _ _ hP hD hS (lv_sub hl [0, 1, 2] rfl)
    · have hf := ifn h1 hf
      refine lv_aload_n hx hb dX1_keepOrder_12 rfl (lv_at hl 0 rfl) ?_
      refine va_get (D := (dC, dI)) (ci := 1) (v := .ref b6) (C := RX1) (T := TX1) (N := 12) hx hb hts (fun w hw => List.mem_cons_of_mem _ (inX1 w hw)) hown hK hP 0 rfl rfl 7 (by decide) (hts _ (List.mem_cons_of_mem _ mw_451)) (fun _ h9 => h9) rfl dX1_keepOrder_13 ?_
      refine lv_aload_n hx hb dX1_keepOrder_16 rfl (lv_at hl 0 rfl) ?_
      refine va_get (D := (dC, dI)) (ci := 1) (v := .ref b7) (C := RX1) (T := TX1) (N := 12) hx hb hts (fun w hw => List.mem_cons_of_mem _ (inX1 w hw)) hown hK hP 0 rfl rfl 9 (by decide) (hts _ (List.mem_cons_of_mem _ mw_453)) (fun _ h9 => h9) rfl dX1_keepOrder_17 ?_
      refine lv_iload_n hx hb dX1_keepOrder_20 rfl (lv_at hl 2 rfl) ?_
      obtain ⟨v2, hv, hf⟩ := bd hf
      refine q_ild hx hb hK hP 7 0 rfl rfl hv dX1_keepOrder_21 ?_
      obtain ⟨v3, hv, hf⟩ := bd hf
      refine q_zld hx hb hK hP 6 1 rfl rfl hv dX1_keepOrder_22 ?_
      refine lv_if_eq (tgt := 41) hx hb dX1_keepOrder_23 (by decide) (fun h4 => ?_) (fun h4 => ?_)
      · have hf := ift h4 hf
        refine lv_iinc (v := x2_ + (1 : Int32)) hx hb dX1_keepOrder_41 hl (k := 2) rfl (by rfl) (by decide) rfl (fun ls hl => ?_)
        have hl : lv_has ls 3 [(2, .int (x2_ + (1 : Int32))), (0, .ref hm), (1, .int x1_)] := hl
        refine lv_goto (tgt := 4) hx hb dX1_keepOrder_44 (by decide) ?_
        exact ih _ _ _ _ _ _ hf _ _ _ hP hD hS (lv_sub hl [1, 2, 0] rfl) k0
      · have hf := ifn h4 hf
        refine lv_aload_n hx hb dX1_keepOrder_26 rfl (lv_at hl 0 rfl) ?_
        refine va_get (D := (dC, dI)) (ci := 1) (v := .ref b8) (C := RX1) (T := TX1) (N := 12) hx hb hts (fun w hw => List.mem_cons_of_mem _ (inX1 w hw)) hown hK hP 0 rfl rfl 10 (by decide) (hts _ (List.mem_cons_of_mem _ mw_454)) (fun _ h9 => h9) rfl dX1_keepOrder_27 ?_
        refine lv_iload_n hx hb dX1_keepOrder_30 rfl (lv_at hl 1 rfl) ?_
        refine lv_aload_n hx hb dX1_keepOrder_31 rfl (lv_at hl 0 rfl) ?_
        refine va_get (D := (dC, dI)) (ci := 1) (v := .ref b7) (C := RX1) (T := TX1) (N := 12) hx hb hts (fun w hw => List.mem_cons_of_mem _ (inX1 w hw)) hown hK hP 0 rfl rfl 9 (by decide) (hts _ (List.mem_cons_of_mem _ mw_453)) (fun _ h9 => h9) rfl dX1_keepOrder_32 ?_
        refine lv_iload_n hx hb dX1_keepOrder_35 rfl (lv_at hl 2 rfl) ?_
        obtain ⟨v5, hv, hf⟩ := bd hf
        refine q_ild hx hb hK hP 7 0 rfl rfl hv dX1_keepOrder_36 ?_
        obtain ⟨ne_6, hv, hf⟩ := bd hf
        refine q_ist hx hb hK hP hD hS 8 0 rfl rfl hv dX1_keepOrder_37 (fun H locs hP hD hS => ?_)
        have hP : va_P (dC, dI) vwCl (wM cI cZ hm b1 b2 b3 b4 b5 b6 b7 b8 b9 th mk us fi se ki va li ct od ne_6 ro) _ := hP
        have hD : va_D A (wM cI cZ hm b1 b2 b3 b4 b5 b6 b7 b8 b9 th mk us fi se ki va li ct od ne_6 ro) := hD
        refine lv_iinc (v := x1_ + (1 : Int32)) hx hb dX1_keepOrder_38 hl (k := 1) rfl (by rfl) (by decide) rfl (fun ls hl => ?_)
        have hl : lv_has ls 3 [(1, .int (x1_ + (1 : Int32))), (0, .ref hm), (2, .int x2_)] := hl
        refine lv_iinc (v := x2_ + (1 : Int32)) hx hb dX1_keepOrder_41 hl (k := 2) rfl (by rfl) (by decide) rfl (fun ls hl => ?_)
        have hl : lv_has ls 3 [(2, .int (x2_ + (1 : Int32))), (1, .int (x1_ + (1 : Int32))), (0, .ref hm)] := hl
        refine lv_goto (tgt := 4) hx hb dX1_keepOrder_44 (by decide) ?_
        exact ih _ _ _ _ _ _ hf _ _ _ hP hD hS (lv_sub hl [2, 1, 0] rfl) k0
set_option maxHeartbeats 4000000 in
set_option maxRecDepth 100000 in
theorem ctX1_keepOrder (l : Launch) (dC : Nat → ClassId) (dI : Nat → Nat → Nat) (cI cZ cL : ClassId) (hm b1 b2 b3 b4 b5 b6 b7 b8 b9 : Nat) (sz : Nat) (th : Int32) (mk : Int32) (us : Nat → Int32) (fi : Nat → Int32) (se : Nat → Int32) (ki : Nat → Int32) (va : Nat → Int32) (li : Nat → Int32) (ct : Int32) (od : Nat → Int32) (ne : Nat → Int32) (ro : Nat → Int32) (ne' : Nat → Int32) (hf : fX1_keepOrder li ct od ne = some ne') : Met l yX1_keepOrder wsX1_keepOrder rmX1_keepOrder (va_Pc [.ref hm] (q_pre (dC, dI) vwCl (tyA cI cZ cL) sz (wM cI cZ hm b1 b2 b3 b4 b5 b6 b7 b8 b9 th mk us fi se ki va li ct od ne ro))) (va_Qv (fun (_ : Unit) => True) (fun _ => q_post (dC, dI) vwCl (tyA cI cZ cL) (va_A (wM cI cZ hm b1 b2 b3 b4 b5 b6 b7 b8 b9 th mk us fi se ki va li ct od ne ro) sz) (wM cI cZ hm b1 b2 b3 b4 b5 b6 b7 b8 b9 th mk us fi se ki va li ct od ne' ro)) (va_A (wM cI cZ hm b1 b2 b3 b4 b5 b6 b7 b8 b9 th mk us fi se ki va li ct od ne ro) sz)) 0 0 (va_A (wM cI cZ hm b1 b2 b3 b4 b5 b6 b7 b8 b9 th mk us fi se ki va li ct od ne ro) sz) := by
  refine Met.ofW (cc := cX1_keepOrder) (maxL := 3) (ret := (none)) (by decide) rfl ?_
  intro p e s m args below meth c s₁ B hml hv
  obtain ⟨rfl, hsz, hP, hK, hD0⟩ := hv
  have hx := B.exec
  have hb := B.bytes
  have hr := B.returns
  have hts := atoms_spec (ws := wsX1_keepOrder) B.pre
  have hown : s.vm.findClass RX1 = some m.cls := findClass_of_methodNamed B.named
  subst hsz
  have hD := hD0.self (sz := s.heap.size)
  generalize hAe : va_A (wM cI cZ hm b1 b2 b3 b4 b5 b6 b7 b8 b9 th mk us fi se ki va li ct od ne ro) s.heap.size = A at hD ⊢
  have hA : ∀ q : Nat, s.heap.size ≤ q → A q := fun q h => by rw [← hAe]; exact Or.inr h
  have hS : va_S A s.heap s.heap [] := va_S.rf
  have hl := lv_entry ([.ref hm]) (n := 3) (Nat.le_of_ble_eq_true rfl)
  rw [lg_entry_eq]
  generalize (lg_sl ([.ref hm]) ++ List.replicate (3 - (lg_sl ([.ref hm])).length) Slot.unset).toArray = ls at hl ⊢
  have hl : lv_has ls 3 [(0, .ref hm)] := hl
  unfold fX1_keepOrder at hf
  refine lv_iconst (v := (0 : Int32)) hx hb dX1_keepOrder_0 (by decide) ?_
  refine lv_istore_n hx hb dX1_keepOrder_1 rfl hl (by decide) rfl (fun ls hl => ?_)
  have hl : lv_has ls 3 [(1, .int (0 : Int32)), (0, .ref hm)] := hl
  refine lv_iconst (v := (0 : Int32)) hx hb dX1_keepOrder_2 (by decide) ?_
  refine lv_istore_n hx hb dX1_keepOrder_3 rfl hl (by decide) rfl (fun ls hl => ?_)
  have hl : lv_has ls 3 [(2, .int (0 : Int32)), (1, .int (0 : Int32)), (0, .ref hm)] := hl
  obtain ⟨⟨x_7, x_8, ne_9⟩, hv, hf⟩ := bd hf
  dsimp only at hf
  refine wX1_keepOrder_L4 dC dI cI cZ cL hm b1 b2 b3 b4 b5 b6 b7 b8 b9 hx hb hml hown hts hK hA th mk us fi se ki va li ct od ro FU (0 : Int32) (0 : Int32) ne x_7 x_8 ne_9 hv _ _ _ hP hD hS (lv_sub hl [2, 1, 0] rfl) (fun H locs ls hP hD hS hl => ?_)
  have hg0 := Option.some.inj hf
  subst hg0
  exact W.vret hx hb hr (fun t ht hW => ⟨⟨(), rfl, trivial, by rw [ht]; exact hP, va_K.moved hW.alike hK, hD⟩, hS.F ht⟩) hS.2.2 dX1_keepOrder_47
set_option maxHeartbeats 4000000 in
set_option maxRecDepth 100000 in
theorem wX1_fillGaps_L48 {p : Program} {l : Launch} {e : Env} {s : State} {m : MethodId} {args : Array Value} {below : List Frame} {meth : Method} {c : Code} {Q : State → Prop} {A : Nat → Prop} (dC : Nat → ClassId) (dI : Nat → Nat → Nat) (cI cZ cL : ClassId) (hm b1 b2 b3 b4 b5 b6 b7 b8 b9 : Nat) (hx : p.tables.exec = Jvm.exec) (hb : c.code = cX1_fillGaps) (hml : c.maxLocals = 4) (hown : s.vm.findClass RX1 = some m.cls) (hts : ∀ w ∈ wsX1_fillGaps, w.before args s = true) (hK : va_K (dC, dI) vwCl (tyA cI cZ cL) s) (hA : ∀ q : Nat, s.heap.size ≤ q → A q) (x1_ : Int32) (x3_ : Int32) (th : Int32) (mk : Int32) (us : Nat → Int32) (fi : Nat → Int32) (se : Nat → Int32) (ki : Nat → Int32) (va : Nat → Int32) (li : Nat → Int32) (ct : Int32) (od : Nat → Int32) (ne : Nat → Int32) (ro : Nat → Int32) (n : Nat) :
    ∀ (x2_ : Int32) (x2_' : Int32), fX1_fillGaps_L48 li od n x2_ = some x2_' → ∀ (H : Heap) (locs : List Loc) (ls : Array Slot), va_P (dC, dI) vwCl (wM cI cZ hm b1 b2 b3 b4 b5 b6 b7 b8 b9 th mk us fi se ki va li ct od ne ro) H → va_D A (wM cI cZ hm b1 b2 b3 b4 b5 b6 b7 b8 b9 th mk us fi se ki va li ct od ne ro) → va_S A s.heap H locs → lv_has ls 4 [(0, .ref hm), (1, .int x1_), (2, .int x2_), (3, .int x3_)] → (∀ (H : Heap) (locs : List Loc) (ls : Array Slot), va_P (dC, dI) vwCl (wM cI cZ hm b1 b2 b3 b4 b5 b6 b7 b8 b9 th mk us fi se ki va li ct od ne ro) H → va_D A (wM cI cZ hm b1 b2 b3 b4 b5 b6 b7 b8 b9 th mk us fi se ki va li ct od ne ro) → va_S A s.heap H locs → lv_has ls 4 [(0, .ref hm), (1, .int x1_), (2, .int x2_'), (3, .int x3_)] → W p l e (headSpec wsX1_fillGaps rmX1_fillGaps).room s m args below meth c H locs 0 0 Q (F0 m 68 ls [])) → W p l e (headSpec wsX1_fillGaps rmX1_fillGaps).room s m args below meth c H locs 0 0 Q (F0 m 48 ls []) := by
  induction n with
  | zero => intro x2_ x2_' hf; cases hf
  | succ n ih =>
    intro x2_ x2_' hf H locs ls hP hD hS hl k0
    have hf := (fX1_fillGaps_L48_s li od n x2_).symm.trans hf
    refine lv_aload_n hx hb dX1_fillGaps_48 rfl (lv_at hl 0 rfl) ?_
    refine va_get (D := (dC, dI)) (ci := 1) (v := .ref b6) (C := RX1) (T := TX1) (N := 12) hx hb hts (fun w hw => List.mem_cons_of_mem _ (inX1 w hw)) hown hK hP 0 rfl rfl 7 (by decide) (hts _ (List.mem_cons_of_mem _ mw_451)) (fun _ h9 => h9) rfl dX1_fillGaps_49 ?_
    refine lv_aload_n hx hb dX1_fillGaps_52 rfl (lv_at hl 0 rfl) ?_
    refine va_get (D := (dC, dI)) (ci := 1) (v := .ref b7) (C := RX1) (T := TX1) (N := 12) hx hb hts (fun w hw => List.mem_cons_of_mem _ (inX1 w hw)) hown hK hP 0 rfl rfl 9 (by decide) (hts _ (List.mem_cons_of_mem _ mw_453)) (fun _ h9 => h9) rfl dX1_fillGaps_53 ?_
    refine lv_iload_n hx hb dX1_fillGaps_56 rfl (lv_at hl 2 rfl) ?_
    obtain ⟨v6, hv, hf⟩ := bd hf
    refine q_ild hx hb hK hP 7 0 rfl rfl hv dX1_fillGaps_57 ?_
    obtain ⟨v7, hv, hf⟩ := bd hf
    refine q_zld hx hb hK hP 6 1 rfl rfl hv dX1_fillGaps_58 ?_
    refine lv_if_ne (tgt := 68) hx hb dX1_fillGaps_59 (by decide) (fun h8 => ?_) (fun h8 => ?_)
    · have hf := ifn h8 hf
      cases hf
      exact k0 _ _ _ hP hD hS (lv_sub hl [0, 1, 2, 3] rfl)
    · have hf := ift h8 hf
      refine lv_iinc (v := x2_ + (-1 : Int32)) hx hb dX1_fillGaps_62 hl (k := 2) rfl (by rfl) (by decide) rfl (fun ls hl => ?_)
      have hl : lv_has ls 4 [(2, .int (x2_ + (-1 : Int32))), (0, .ref hm), (1, .int x1_), (3, .int x3_)] := hl
      refine lv_goto (tgt := 48) hx hb dX1_fillGaps_65 (by decide) ?_
      exact ih _ _ hf _ _ _ hP hD hS (lv_sub hl [1, 2, 0, 3] rfl) k0
set_option maxHeartbeats 4000000 in
set_option maxRecDepth 100000 in
theorem wX1_fillGaps_L14 {p : Program} {l : Launch} {e : Env} {s : State} {m : MethodId} {args : Array Value} {below : List Frame} {meth : Method} {c : Code} {Q : State → Prop} {A : Nat → Prop} (dC : Nat → ClassId) (dI : Nat → Nat → Nat) (cI cZ cL : ClassId) (hm b1 b2 b3 b4 b5 b6 b7 b8 b9 : Nat) (hx : p.tables.exec = Jvm.exec) (hb : c.code = cX1_fillGaps) (hml : c.maxLocals = 4) (hown : s.vm.findClass RX1 = some m.cls) (hts : ∀ w ∈ wsX1_fillGaps, w.before args s = true) (hK : va_K (dC, dI) vwCl (tyA cI cZ cL) s) (hA : ∀ q : Nat, s.heap.size ≤ q → A q) (x1_ : Int32) (th : Int32) (mk : Int32) (us : Nat → Int32) (fi : Nat → Int32) (se : Nat → Int32) (ki : Nat → Int32) (va : Nat → Int32) (li : Nat → Int32) (ct : Int32) (od : Nat → Int32) (ro : Nat → Int32) (n : Nat) :
    ∀ (x2_ : Int32) (x3_ : Int32) (ne : Nat → Int32) (x2_' : Int32) (x3_' : Int32) (ne' : Nat → Int32), fX1_fillGaps_L14 x1_ li od n x2_ x3_ ne = some (x2_', x3_', ne') → ∀ (H : Heap) (locs : List Loc) (ls : Array Slot), va_P (dC, dI) vwCl (wM cI cZ hm b1 b2 b3 b4 b5 b6 b7 b8 b9 th mk us fi se ki va li ct od ne ro) H → va_D A (wM cI cZ hm b1 b2 b3 b4 b5 b6 b7 b8 b9 th mk us fi se ki va li ct od ne ro) → va_S A s.heap H locs → lv_has ls 4 [(0, .ref hm), (1, .int x1_), (2, .int x2_), (3, .int x3_)] → (∀ (H : Heap) (locs : List Loc) (ls : Array Slot), va_P (dC, dI) vwCl (wM cI cZ hm b1 b2 b3 b4 b5 b6 b7 b8 b9 th mk us fi se ki va li ct od ne' ro) H → va_D A (wM cI cZ hm b1 b2 b3 b4 b5 b6 b7 b8 b9 th mk us fi se ki va li ct od ne' ro) → va_S A s.heap H locs → lv_has ls 4 [(0, .ref hm), (1, .int x1_), (2, .int x2_'), (3, .int x3_')] → W p l e (headSpec wsX1_fillGaps rmX1_fillGaps).room s m args below meth c H locs 0 0 Q (F0 m 89 ls [])) → W p l e (headSpec wsX1_fillGaps rmX1_fillGaps).room s m args below meth c H locs 0 0 Q (F0 m 14 ls []) := by
  induction n with
  | zero => intro x2_ x3_ ne x2_' x3_' ne' hf; cases hf
  | succ n ih =>
    intro x2_ x3_ ne x2_' x3_' ne' hf H locs ls hP hD hS hl k0
    have hf := (fX1_fillGaps_L14_s x1_ li od n x2_ x3_ ne).symm.trans hf
    refine lv_iload_n hx hb dX1_fillGaps_14 rfl (lv_at hl 3 rfl) ?_
    refine lv_iload_n hx hb dX1_fillGaps_15 rfl (lv_at hl 1 rfl) ?_
    refine lv_icmp_ge (tgt := 89) hx hb dX1_fillGaps_16 (by decide) (fun h2 => ?_) (fun h2 => ?_)
    · have hf := ift h2 hf
      cases hf
      exact k0 _ _ _ hP hD hS (lv_sub hl [0, 1, 2, 3] rfl)
    · have hf := ifn h2 hf
      refine lv_aload_n hx hb dX1_fillGaps_19 rfl (lv_at hl 0 rfl) ?_
      refine va_get (D := (dC, dI)) (ci := 1) (v := .ref b6) (C := RX1) (T := TX1) (N := 12) hx hb hts (fun w hw => List.mem_cons_of_mem _ (inX1 w hw)) hown hK hP 0 rfl rfl 7 (by decide) (hts _ (List.mem_cons_of_mem _ mw_451)) (fun _ h9 => h9) rfl dX1_fillGaps_20 ?_
      refine lv_aload_n hx hb dX1_fillGaps_23 rfl (lv_at hl 0 rfl) ?_
      refine va_get (D := (dC, dI)) (ci := 1) (v := .ref b7) (C := RX1) (T := TX1) (N := 12) hx hb hts (fun w hw => List.mem_cons_of_mem _ (inX1 w hw)) hown hK hP 0 rfl rfl 9 (by decide) (hts _ (List.mem_cons_of_mem _ mw_453)) (fun _ h9 => h9) rfl dX1_fillGaps_24 ?_
      refine lv_iload_n hx hb dX1_fillGaps_27 rfl (lv_at hl 3 rfl) ?_
      obtain ⟨v3, hv, hf⟩ := bd hf
      refine q_ild hx hb hK hP 7 0 rfl rfl hv dX1_fillGaps_28 ?_
      obtain ⟨v4, hv, hf⟩ := bd hf
      refine q_zld hx hb hK hP 6 1 rfl rfl hv dX1_fillGaps_29 ?_
      refine lv_if_eq (tgt := 48) hx hb dX1_fillGaps_30 (by decide) (fun h5 => ?_) (fun h5 => ?_)
      · have hf := ift h5 hf
        obtain ⟨x_9, hv, hf⟩ := bd hf
        refine wX1_fillGaps_L48 dC dI cI cZ cL hm b1 b2 b3 b4 b5 b6 b7 b8 b9 hx hb hml hown hts hK hA x1_ x3_ th mk us fi se ki va li ct od ne ro FU x2_ x_9 hv _ _ _ hP hD hS (lv_sub hl [0, 1, 2, 3] rfl) (fun H locs ls hP hD hS hl => ?_)
        refine lv_aload_n hx hb dX1_fillGaps_68 rfl (lv_at hl 0 rfl) ?_
        refine va_get (D := (dC, dI)) (ci := 1) (v := .ref b8) (C := RX1) (T := TX1) (N := 12) hx hb hts (fun w hw => List.mem_cons_of_mem _ (inX1 w hw)) hown hK hP 0 rfl rfl 10 (by decide) (hts _ (List.mem_cons_of_mem _ mw_454)) (fun _ h9 => h9) rfl dX1_fillGaps_69 ?_
        refine lv_iload_n hx hb dX1_fillGaps_72 rfl (lv_at hl 3 rfl) ?_
        refine lv_aload_n hx hb dX1_fillGaps_73 rfl (lv_at hl 0 rfl) ?_
        refine va_get (D := (dC, dI)) (ci := 1) (v := .ref b7) (C := RX1) (T := TX1) (N := 12) hx hb hts (fun w hw => List.mem_cons_of_mem _ (inX1 w hw)) hown hK hP 0 rfl rfl 9 (by decide) (hts _ (List.mem_cons_of_mem _ mw_453)) (fun _ h9 => h9) rfl dX1_fillGaps_74 ?_
        refine lv_iload_n hx hb dX1_fillGaps_77 rfl (lv_at hl 2 rfl) ?_
        obtain ⟨v10, hv, hf⟩ := bd hf
        refine q_ild hx hb hK hP 7 0 rfl rfl hv dX1_fillGaps_78 ?_
        obtain ⟨ne_11, hv, hf⟩ := bd hf
        refine q_ist hx hb hK hP hD hS 8 0 rfl rfl hv dX1_fillGaps_79 (fun H locs hP hD hS => ?_)
        have hP : va_P (dC, dI) vwCl (wM cI cZ hm b1 b2 b3 b4 b5 b6 b7 b8 b9 th mk us fi se ki va li ct od ne_11 ro) _ := hP
        have hD : va_D A (wM cI cZ hm b1 b2 b3 b4 b5 b6 b7 b8 b9 th mk us fi se ki va li ct od ne_11 ro) := hD
        refine lv_iinc (v := x_9 + (-1 : Int32)) hx hb dX1_fillGaps_80 hl (k := 2) rfl (by rfl) (by decide) rfl (fun ls hl => ?_)
        have hl : lv_has ls 4 [(2, .int (x_9 + (-1 : Int32))), (0, .ref hm), (1, .int x1_), (3, .int x3_)] := hl
        refine lv_iinc (v := x3_ + (1 : Int32)) hx hb dX1_fillGaps_83 hl (k := 3) rfl (by rfl) (by decide) rfl (fun ls hl => ?_)
        have hl : lv_has ls 4 [(3, .int (x3_ + (1 : Int32))), (2, .int (x_9 + (-1 : Int32))), (0, .ref hm), (1, .int x1_)] := hl
        refine lv_goto (tgt := 14) hx hb dX1_fillGaps_86 (by decide) ?_
        exact ih _ _ _ _ _ _ hf _ _ _ hP hD hS (lv_sub hl [2, 3, 1, 0] rfl) k0
      · have hf := ifn h5 hf
        refine lv_aload_n hx hb dX1_fillGaps_33 rfl (lv_at hl 0 rfl) ?_
        refine va_get (D := (dC, dI)) (ci := 1) (v := .ref b8) (C := RX1) (T := TX1) (N := 12) hx hb hts (fun w hw => List.mem_cons_of_mem _ (inX1 w hw)) hown hK hP 0 rfl rfl 10 (by decide) (hts _ (List.mem_cons_of_mem _ mw_454)) (fun _ h9 => h9) rfl dX1_fillGaps_34 ?_
        refine lv_iload_n hx hb dX1_fillGaps_37 rfl (lv_at hl 3 rfl) ?_
        refine lv_aload_n hx hb dX1_fillGaps_38 rfl (lv_at hl 0 rfl) ?_
        refine va_get (D := (dC, dI)) (ci := 1) (v := .ref b7) (C := RX1) (T := TX1) (N := 12) hx hb hts (fun w hw => List.mem_cons_of_mem _ (inX1 w hw)) hown hK hP 0 rfl rfl 9 (by decide) (hts _ (List.mem_cons_of_mem _ mw_453)) (fun _ h9 => h9) rfl dX1_fillGaps_39 ?_
        refine lv_iload_n hx hb dX1_fillGaps_42 rfl (lv_at hl 3 rfl) ?_
        obtain ⟨v12, hv, hf⟩ := bd hf
        refine q_ild hx hb hK hP 7 0 rfl rfl hv dX1_fillGaps_43 ?_
        obtain ⟨ne_13, hv, hf⟩ := bd hf
        refine q_ist hx hb hK hP hD hS 8 0 rfl rfl hv dX1_fillGaps_44 (fun H locs hP hD hS => ?_)
        have hP : va_P (dC, dI) vwCl (wM cI cZ hm b1 b2 b3 b4 b5 b6 b7 b8 b9 th mk us fi se ki va li ct od ne_13 ro) _ := hP
        have hD : va_D A (wM cI cZ hm b1 b2 b3 b4 b5 b6 b7 b8 b9 th mk us fi se ki va li ct od ne_13 ro) := hD
        refine lv_goto (tgt := 83) hx hb dX1_fillGaps_45 (by decide) ?_
        refine lv_iinc (v := x3_ + (1 : Int32)) hx hb dX1_fillGaps_83 hl (k := 3) rfl (by rfl) (by decide) rfl (fun ls hl => ?_)
        have hl : lv_has ls 4 [(3, .int (x3_ + (1 : Int32))), (0, .ref hm), (1, .int x1_), (2, .int x2_)] := hl
        refine lv_goto (tgt := 14) hx hb dX1_fillGaps_86 (by decide) ?_
        exact ih _ _ _ _ _ _ hf _ _ _ hP hD hS (lv_sub hl [1, 2, 3, 0] rfl) k0
set_option maxHeartbeats 4000000 in
set_option maxRecDepth 100000 in
theorem ctX1_fillGaps (l : Launch) (dC : Nat → ClassId) (dI : Nat → Nat → Nat) (cI cZ cL : ClassId) (hm b1 b2 b3 b4 b5 b6 b7 b8 b9 : Nat) (sz : Nat) (th : Int32) (mk : Int32) (us : Nat → Int32) (fi : Nat → Int32) (se : Nat → Int32) (ki : Nat → Int32) (va : Nat → Int32) (li : Nat → Int32) (ct : Int32) (od : Nat → Int32) (ne : Nat → Int32) (ro : Nat → Int32) (ne' : Nat → Int32) (hf : fX1_fillGaps li ct od ne = some ne') : Met l yX1_fillGaps wsX1_fillGaps rmX1_fillGaps (va_Pc [.ref hm] (q_pre (dC, dI) vwCl (tyA cI cZ cL) sz (wM cI cZ hm b1 b2 b3 b4 b5 b6 b7 b8 b9 th mk us fi se ki va li ct od ne ro))) (va_Qv (fun (_ : Unit) => True) (fun _ => q_post (dC, dI) vwCl (tyA cI cZ cL) (va_A (wM cI cZ hm b1 b2 b3 b4 b5 b6 b7 b8 b9 th mk us fi se ki va li ct od ne ro) sz) (wM cI cZ hm b1 b2 b3 b4 b5 b6 b7 b8 b9 th mk us fi se ki va li ct od ne' ro)) (va_A (wM cI cZ hm b1 b2 b3 b4 b5 b6 b7 b8 b9 th mk us fi se ki va li ct od ne ro) sz)) 0 0 (va_A (wM cI cZ hm b1 b2 b3 b4 b5 b6 b7 b8 b9 th mk us fi se ki va li ct od ne ro) sz) := by
  refine Met.ofW (cc := cX1_fillGaps) (maxL := 4) (ret := (none)) (by decide) rfl ?_
  intro p e s m args below meth c s₁ B hml hv
  obtain ⟨rfl, hsz, hP, hK, hD0⟩ := hv
  have hx := B.exec
  have hb := B.bytes
  have hr := B.returns
  have hts := atoms_spec (ws := wsX1_fillGaps) B.pre
  have hown : s.vm.findClass RX1 = some m.cls := findClass_of_methodNamed B.named
  subst hsz
  have hD := hD0.self (sz := s.heap.size)
  generalize hAe : va_A (wM cI cZ hm b1 b2 b3 b4 b5 b6 b7 b8 b9 th mk us fi se ki va li ct od ne ro) s.heap.size = A at hD ⊢
  have hA : ∀ q : Nat, s.heap.size ≤ q → A q := fun q h => by rw [← hAe]; exact Or.inr h
  have hS : va_S A s.heap s.heap [] := va_S.rf
  have hl := lv_entry ([.ref hm]) (n := 4) (Nat.le_of_ble_eq_true rfl)
  rw [lg_entry_eq]
  generalize (lg_sl ([.ref hm]) ++ List.replicate (4 - (lg_sl ([.ref hm])).length) Slot.unset).toArray = ls at hl ⊢
  have hl : lv_has ls 4 [(0, .ref hm)] := hl
  unfold fX1_fillGaps at hf
  refine lv_aload_n hx hb dX1_fillGaps_0 rfl (lv_at hl 0 rfl) ?_
  obtain ⟨v1, hv, hf⟩ := bd hf
  refine q_ci (wr := []) (va_runV (As := []) (rest := []) ⟨hx, hb, hml, hown, hts⟩ (ctX1_countAlive l dC dI cI cZ cL hm b1 b2 b3 b4 b5 b6 b7 b8 b9 _ th mk us fi se ki va li ct od ne ro v1 hv) (cwV 0 hts (gV mw_510 mw_512 mw_28 mw_40 mw_513) rfl rfl rfl (by decide +kernel) ⟨Nat.le_of_ble_eq_true rfl, Nat.le_of_ble_eq_true rfl⟩) (q_preV [] hK hP hD [0, 1, 2, 3, 4, 5, 6, 7, 8, 9] (by decide) rfl (ci := 1) rfl rfl) rfl rfl hl.1 rfl (lv_room (Nat.le_of_ble_eq_true rfl)) dX1_fillGaps_1 ⟨Nat.le_of_ble_eq_true rfl, Nat.le_of_ble_eq_true rfl⟩) hP hD hS hA [0, 1, 2, 3, 4, 5, 6, 7, 8, 9] [] rfl rfl (by decide) (by decide) (fun H locs hP hD hS => ?_)
  have hP : va_P (dC, dI) vwCl (wM cI cZ hm b1 b2 b3 b4 b5 b6 b7 b8 b9 th mk us fi se ki va li ct od ne ro) _ := hP
  have hD : va_D A (wM cI cZ hm b1 b2 b3 b4 b5 b6 b7 b8 b9 th mk us fi se ki va li ct od ne ro) := hD
  refine lv_istore_n hx hb dX1_fillGaps_4 rfl hl (by decide) rfl (fun ls hl => ?_)
  have hl : lv_has ls 4 [(1, .int v1), (0, .ref hm)] := hl
  refine lv_aload_n hx hb dX1_fillGaps_5 rfl (lv_at hl 1 rfl) ?_
  refine va_get (D := (dC, dI)) (ci := 1) (v := .int ct) (C := RX1) (T := TX1) (N := 12) hx hb hts (fun w hw => List.mem_cons_of_mem _ (inX1 w hw)) hown hK hP 0 rfl rfl 8 (by decide) (hts _ (List.mem_cons_of_mem _ mw_452)) (fun _ h9 => h9) rfl dX1_fillGaps_6 ?_
  refine lv_iconst (v := (1 : Int32)) hx hb dX1_fillGaps_9 (by decide) ?_
  refine lv_isub hx hb dX1_fillGaps_10 ?_
  refine lv_istore_n hx hb dX1_fillGaps_11 rfl hl (by decide) rfl (fun ls hl => ?_)
  have hl : lv_has ls 4 [(2, .int (ct - (1 : Int32))), (1, .int v1), (0, .ref hm)] := hl
  refine lv_iconst (v := (0 : Int32)) hx hb dX1_fillGaps_12 (by decide) ?_
  refine lv_istore_n hx hb dX1_fillGaps_13 rfl hl (by decide) rfl (fun ls hl => ?_)
  have hl : lv_has ls 4 [(3, .int (0 : Int32)), (2, .int (ct - (1 : Int32))), (1, .int v1), (0, .ref hm)] := hl
  obtain ⟨⟨x_14, x_15, ne_16⟩, hv, hf⟩ := bd hf
  dsimp only at hf
  refine wX1_fillGaps_L14 dC dI cI cZ cL hm b1 b2 b3 b4 b5 b6 b7 b8 b9 hx hb hml hown hts hK hA v1 th mk us fi se ki va li ct od ro FU (ct - (1 : Int32)) (0 : Int32) ne x_14 x_15 ne_16 hv _ _ _ hP hD hS (lv_sub hl [3, 2, 1, 0] rfl) (fun H locs ls hP hD hS hl => ?_)
  have hg0 := Option.some.inj hf
  subst hg0
  exact W.vret hx hb hr (fun t ht hW => ⟨⟨(), rfl, trivial, by rw [ht]; exact hP, va_K.moved hW.alike hK, hD⟩, hS.F ht⟩) hS.2.2 dX1_fillGaps_89
