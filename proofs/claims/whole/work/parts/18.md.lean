set_option maxHeartbeats 4000000 in
set_option maxRecDepth 100000 in
theorem wX1_wordOf_L65 {p : Program} {l : Launch} {e : Env} {s : State} {m : MethodId} {args : Array Value} {below : List Frame} {meth : Method} {c : Code} {Q : State → Prop} {A : Nat → Prop} (dC : Nat → ClassId) (dI : Nat → Nat → Nat) (cI cZ cL : ClassId) (hm b1 b2 b3 b4 b5 b6 b7 b8 b9 : Nat) (hx : p.tables.exec = Jvm.exec) (hb : c.code = cX1_wordOf) (hml : c.maxLocals = 6) (hown : s.vm.findClass RX1 = some m.cls) (hts : ∀ w ∈ wsX1_wordOf, w.before args s = true) (hK : va_K (dC, dI) vwCl (tyA cI cZ cL) s) (hA : ∀ q : Nat, s.heap.size ≤ q → A q) (x1_ : Int32) (x2_ : Int32) (th : Int32) (mk : Int32) (us : Nat → Int32) (fi : Nat → Int32) (se : Nat → Int32) (ki : Nat → Int32) (va : Nat → Int32) (li : Nat → Int32) (ct : Int32) (od : Nat → Int32) (ne : Nat → Int32) (ro : Nat → Int32) (n : Nat) :
    ∀ (x3_ : Int32) (x4_ : Int32) (x3_' : Int32) (x4_' : Int32), fX1_wordOf_L65 x1_ fi ki n x3_ x4_ = some (x3_', x4_') → ∀ (H : Heap) (locs : List Loc) (ls : Array Slot), va_P (dC, dI) vwCl (wM cI cZ hm b1 b2 b3 b4 b5 b6 b7 b8 b9 th mk us fi se ki va li ct od ne ro) H → va_D A (wM cI cZ hm b1 b2 b3 b4 b5 b6 b7 b8 b9 th mk us fi se ki va li ct od ne ro) → va_S A s.heap H locs → lv_has ls 6 [(0, .ref hm), (1, .int x1_), (2, .int x2_), (3, .int x3_), (4, .int x4_)] → (∀ (H : Heap) (locs : List Loc) (ls : Array Slot), va_P (dC, dI) vwCl (wM cI cZ hm b1 b2 b3 b4 b5 b6 b7 b8 b9 th mk us fi se ki va li ct od ne ro) H → va_D A (wM cI cZ hm b1 b2 b3 b4 b5 b6 b7 b8 b9 th mk us fi se ki va li ct od ne ro) → va_S A s.heap H locs → lv_has ls 6 [(0, .ref hm), (1, .int x1_), (2, .int x2_), (3, .int x3_'), (4, .int x4_')] → W p l e (headSpec wsX1_wordOf rmX1_wordOf).room s m args below meth c H locs 0 0 Q (F0 m 143 ls [])) → W p l e (headSpec wsX1_wordOf rmX1_wordOf).room s m args below meth c H locs 0 0 Q (F0 m 65 ls []) := by
  induction n with
  | zero => intro x3_ x4_ x3_' x4_' hf; cases hf
  | succ n ih =>
    intro x3_ x4_ x3_' x4_' hf H locs ls hP hD hS hl k0
    have hf := (fX1_wordOf_L65_s x1_ fi ki n x3_ x4_).symm.trans hf
    refine lv_iload hx hb dX1_wordOf_65 (lv_at hl 4 rfl) ?_
    refine lv_aload_n hx hb dX1_wordOf_67 rfl (lv_at hl 0 rfl) ?_
    refine va_get (D := (dC, dI)) (ci := 1) (v := .ref b2) (C := RX1) (T := TX1) (N := 12) hx hb hts (fun w hw => List.mem_cons_of_mem _ (inX1 w hw)) hown hK hP 0 rfl rfl 3 (by decide) (hts _ (List.mem_cons_of_mem _ mw_447)) (fun _ h9 => h9) rfl dX1_wordOf_68 ?_
    refine lv_iload_n hx hb dX1_wordOf_71 rfl (lv_at hl 1 rfl) ?_
    obtain ⟨v4, hv, hf⟩ := bd hf
    refine q_ild hx hb hK hP 2 0 rfl rfl hv dX1_wordOf_72 ?_
    refine lv_icmp_ge (tgt := 143) hx hb dX1_wordOf_73 (by decide) (fun h5 => ?_) (fun h5 => ?_)
    · have hf := ift h5 hf
      cases hf
      exact k0 _ _ _ hP hD hS (lv_sub hl [0, 1, 2, 3, 4] rfl)
    · have hf := ifn h5 hf
      refine lv_iconst (v := (1 : Int32)) hx hb dX1_wordOf_76 (by decide) ?_
      refine lv_iload hx hb dX1_wordOf_77 (lv_at hl 4 rfl) ?_
      refine lv_ishl hx hb dX1_wordOf_79 ?_
      refine lv_istore hx hb dX1_wordOf_80 hl (by decide) rfl (fun ls hl => ?_)
      have hl : lv_has ls 6 [(5, .int ((1 : Int32) <<< (x4_ &&& 31))), (0, .ref hm), (1, .int x1_), (2, .int x2_), (3, .int x3_), (4, .int x4_)] := hl
      refine lv_aload_n hx hb dX1_wordOf_82 rfl (lv_at hl 1 rfl) ?_
      refine va_get (D := (dC, dI)) (ci := 1) (v := .ref b4) (C := RX1) (T := TX1) (N := 12) hx hb hts (fun w hw => List.mem_cons_of_mem _ (inX1 w hw)) hown hK hP 0 rfl rfl 5 (by decide) (hts _ (List.mem_cons_of_mem _ mw_449)) (fun _ h9 => h9) rfl dX1_wordOf_83 ?_
      refine lv_bipush (v := (6 : Int32)) hx hb dX1_wordOf_86 (by decide) ?_
      refine lv_iload_n hx hb dX1_wordOf_88 rfl (lv_at hl 2 rfl) ?_
      refine lv_imul hx hb dX1_wordOf_89 ?_
      refine lv_iload hx hb dX1_wordOf_90 (lv_at hl 5 rfl) ?_
      refine lv_iadd hx hb dX1_wordOf_92 ?_
      obtain ⟨v6, hv, hf⟩ := bd hf
      refine q_ild hx hb hK hP 4 0 rfl rfl hv dX1_wordOf_93 ?_
      refine lv_iconst (v := (1 : Int32)) hx hb dX1_wordOf_94 (by decide) ?_
      refine lv_icmp_ne (tgt := 108) hx hb dX1_wordOf_95 (by decide) (fun h7 => ?_) (fun h7 => ?_)
      · have hf := ifn h7 hf
        refine lv_aload_n hx hb dX1_wordOf_108 rfl (lv_at hl 1 rfl) ?_
        refine va_get (D := (dC, dI)) (ci := 1) (v := .ref b4) (C := RX1) (T := TX1) (N := 12) hx hb hts (fun w hw => List.mem_cons_of_mem _ (inX1 w hw)) hown hK hP 0 rfl rfl 5 (by decide) (hts _ (List.mem_cons_of_mem _ mw_449)) (fun _ h9 => h9) rfl dX1_wordOf_109 ?_
        refine lv_bipush (v := (6 : Int32)) hx hb dX1_wordOf_112 (by decide) ?_
        refine lv_iload_n hx hb dX1_wordOf_114 rfl (lv_at hl 2 rfl) ?_
        refine lv_imul hx hb dX1_wordOf_115 ?_
        refine lv_iload hx hb dX1_wordOf_116 (lv_at hl 5 rfl) ?_
        refine lv_iadd hx hb dX1_wordOf_118 ?_
        obtain ⟨v8, hv, hf⟩ := bd hf
        refine q_ild hx hb hK hP 4 0 rfl rfl hv dX1_wordOf_119 ?_
        refine lv_iconst (v := (2 : Int32)) hx hb dX1_wordOf_120 (by decide) ?_
        refine lv_icmp_ne (tgt := 135) hx hb dX1_wordOf_121 (by decide) (fun h9 => ?_) (fun h9 => ?_)
        · have hf := ifn h9 hf
          refine lv_iload_n hx hb dX1_wordOf_135 rfl (lv_at hl 4 rfl) ?_
          refine lv_istore_n hx hb dX1_wordOf_136 rfl hl (by decide) rfl (fun ls hl => ?_)
          have hl : lv_has ls 6 [(3, .int x3_), (5, .int ((1 : Int32) <<< (x4_ &&& 31))), (0, .ref hm), (1, .int x1_), (2, .int x2_), (4, .int x4_)] := hl
          refine lv_iinc (v := x4_ + (1 : Int32)) hx hb dX1_wordOf_137 hl (k := 5) rfl (by rfl) (by decide) rfl (fun ls hl => ?_)
          have hl : lv_has ls 6 [(4, .int (x4_ + (1 : Int32))), (3, .int x3_), (5, .int ((1 : Int32) <<< (x4_ &&& 31))), (0, .ref hm), (1, .int x1_), (2, .int x2_)] := hl
          refine lv_goto (tgt := 65) hx hb dX1_wordOf_140 (by decide) ?_
          exact ih _ _ _ _ hf _ _ _ hP hD hS (lv_sub hl [3, 4, 5, 1, 0] rfl) k0
        · have hf := ift h9 hf
          refine lv_iload_n hx hb dX1_wordOf_124 rfl (lv_at hl 4 rfl) ?_
          refine lv_sipush (v := (1024 : Int32)) hx hb dX1_wordOf_125 (by decide) ?_
          refine lv_iload hx hb dX1_wordOf_128 (lv_at hl 0 rfl) ?_
          refine lv_imul hx hb dX1_wordOf_130 ?_
          refine lv_iadd hx hb dX1_wordOf_131 ?_
          refine lv_goto (tgt := 136) hx hb dX1_wordOf_132 (by decide) ?_
          refine lv_istore_n hx hb dX1_wordOf_136 rfl hl (by decide) rfl (fun ls hl => ?_)
          have hl : lv_has ls 6 [(3, .int (x3_ + ((1024 : Int32) * ((1 : Int32) <<< (x4_ &&& 31))))), (5, .int ((1 : Int32) <<< (x4_ &&& 31))), (0, .ref hm), (1, .int x1_), (2, .int x2_), (4, .int x4_)] := hl
          refine lv_iinc (v := x4_ + (1 : Int32)) hx hb dX1_wordOf_137 hl (k := 5) rfl (by rfl) (by decide) rfl (fun ls hl => ?_)
          have hl : lv_has ls 6 [(4, .int (x4_ + (1 : Int32))), (3, .int (x3_ + ((1024 : Int32) * ((1 : Int32) <<< (x4_ &&& 31))))), (5, .int ((1 : Int32) <<< (x4_ &&& 31))), (0, .ref hm), (1, .int x1_), (2, .int x2_)] := hl
          refine lv_goto (tgt := 65) hx hb dX1_wordOf_140 (by decide) ?_
          exact ih _ _ _ _ hf _ _ _ hP hD hS (lv_sub hl [3, 4, 5, 1, 0] rfl) k0
      · have hf := ift h7 hf
        refine lv_iload_n hx hb dX1_wordOf_98 rfl (lv_at hl 4 rfl) ?_
        refine lv_bipush (v := (16 : Int32)) hx hb dX1_wordOf_99 (by decide) ?_
        refine lv_iload hx hb dX1_wordOf_101 (lv_at hl 0 rfl) ?_
        refine lv_imul hx hb dX1_wordOf_103 ?_
        refine lv_iadd hx hb dX1_wordOf_104 ?_
        refine lv_goto (tgt := 136) hx hb dX1_wordOf_105 (by decide) ?_
        refine lv_istore_n hx hb dX1_wordOf_136 rfl hl (by decide) rfl (fun ls hl => ?_)
        have hl : lv_has ls 6 [(3, .int (x3_ + ((16 : Int32) * ((1 : Int32) <<< (x4_ &&& 31))))), (5, .int ((1 : Int32) <<< (x4_ &&& 31))), (0, .ref hm), (1, .int x1_), (2, .int x2_), (4, .int x4_)] := hl
        refine lv_iinc (v := x4_ + (1 : Int32)) hx hb dX1_wordOf_137 hl (k := 5) rfl (by rfl) (by decide) rfl (fun ls hl => ?_)
        have hl : lv_has ls 6 [(4, .int (x4_ + (1 : Int32))), (3, .int (x3_ + ((16 : Int32) * ((1 : Int32) <<< (x4_ &&& 31))))), (5, .int ((1 : Int32) <<< (x4_ &&& 31))), (0, .ref hm), (1, .int x1_), (2, .int x2_)] := hl
        refine lv_goto (tgt := 65) hx hb dX1_wordOf_140 (by decide) ?_
        exact ih _ _ _ _ hf _ _ _ hP hD hS (lv_sub hl [3, 4, 5, 1, 0] rfl) k0
set_option maxHeartbeats 4000000 in
set_option maxRecDepth 100000 in
theorem ctX1_wordOf (l : Launch) (dC : Nat → ClassId) (dI : Nat → Nat → Nat) (cI cZ cL : ClassId) (hm b1 b2 b3 b4 b5 b6 b7 b8 b9 : Nat) (sz : Nat) (th : Int32) (mk : Int32) (us : Nat → Int32) (fi : Nat → Int32) (se : Nat → Int32) (ki : Nat → Int32) (va : Nat → Int32) (li : Nat → Int32) (ct : Int32) (od : Nat → Int32) (ne : Nat → Int32) (ro : Nat → Int32) (x1 : Int32) (x2 : Int32) (rs : Int32) (hf : fX1_wordOf fi se ki va ct od x1 x2 = some rs) : Met l yX1_wordOf wsX1_wordOf rmX1_wordOf (va_Pc [.ref hm, .int x1, .int x2] (q_pre (dC, dI) vwCl (tyA cI cZ cL) sz (wM cI cZ hm b1 b2 b3 b4 b5 b6 b7 b8 b9 th mk us fi se ki va li ct od ne ro))) (va_Qi (fun r (_ : Unit) => r = rs) (fun _ => q_post (dC, dI) vwCl (tyA cI cZ cL) (va_A (wM cI cZ hm b1 b2 b3 b4 b5 b6 b7 b8 b9 th mk us fi se ki va li ct od ne ro) sz) (wM cI cZ hm b1 b2 b3 b4 b5 b6 b7 b8 b9 th mk us fi se ki va li ct od ne ro)) (va_A (wM cI cZ hm b1 b2 b3 b4 b5 b6 b7 b8 b9 th mk us fi se ki va li ct od ne ro) sz)) 0 0 (va_A (wM cI cZ hm b1 b2 b3 b4 b5 b6 b7 b8 b9 th mk us fi se ki va li ct od ne ro) sz) := by
  refine Met.ofW (cc := cX1_wordOf) (maxL := 6) (ret := (some .int)) (by decide) rfl ?_
  intro p e s m args below meth c s₁ B hml hv
  obtain ⟨rfl, hsz, hP, hK, hD0⟩ := hv
  have hx := B.exec
  have hb := B.bytes
  have hr := B.returns
  have hts := atoms_spec (ws := wsX1_wordOf) B.pre
  have hown : s.vm.findClass RX1 = some m.cls := findClass_of_methodNamed B.named
  subst hsz
  have hD := hD0.self (sz := s.heap.size)
  generalize hAe : va_A (wM cI cZ hm b1 b2 b3 b4 b5 b6 b7 b8 b9 th mk us fi se ki va li ct od ne ro) s.heap.size = A at hD ⊢
  have hA : ∀ q : Nat, s.heap.size ≤ q → A q := fun q h => by rw [← hAe]; exact Or.inr h
  have hS : va_S A s.heap s.heap [] := va_S.rf
  have hl := lv_entry ([.ref hm, .int x1, .int x2]) (n := 6) (Nat.le_of_ble_eq_true rfl)
  rw [lg_entry_eq]
  generalize (lg_sl ([.ref hm, .int x1, .int x2]) ++ List.replicate (6 - (lg_sl ([.ref hm, .int x1, .int x2])).length) Slot.unset).toArray = ls at hl ⊢
  have hl : lv_has ls 6 [(0, .ref hm), (1, .int x1), (2, .int x2)] := hl
  unfold fX1_wordOf at hf
  refine lv_iload_n hx hb dX1_wordOf_0 rfl (lv_at hl 2 rfl) ?_
  refine lv_iconst (v := (1 : Int32)) hx hb dX1_wordOf_1 (by decide) ?_
  refine lv_icmp_ne (tgt := 12) hx hb dX1_wordOf_2 (by decide) (fun h1 => ?_) (fun h1 => ?_)
  · have hf := ifn h1 hf
    refine lv_iload_n hx hb dX1_wordOf_12 rfl (lv_at hl 2 rfl) ?_
    refine lv_iconst (v := (1 : Int32)) hx hb dX1_wordOf_13 (by decide) ?_
    refine lv_icmp_le (tgt := 55) hx hb dX1_wordOf_14 (by decide) (fun h2 => ?_) (fun h2 => ?_)
    · have hf := ift h2 hf
      refine lv_aload_n hx hb dX1_wordOf_55 rfl (lv_at hl 0 rfl) ?_
      refine va_get (D := (dC, dI)) (ci := 1) (v := .ref b2) (C := RX1) (T := TX1) (N := 12) hx hb hts (fun w hw => List.mem_cons_of_mem _ (inX1 w hw)) hown hK hP 0 rfl rfl 3 (by decide) (hts _ (List.mem_cons_of_mem _ mw_447)) (fun _ h9 => h9) rfl dX1_wordOf_56 ?_
      refine lv_iload_n hx hb dX1_wordOf_59 rfl (lv_at hl 1 rfl) ?_
      obtain ⟨v3, hv, hf⟩ := bd hf
      refine q_ild hx hb hK hP 2 0 rfl rfl hv dX1_wordOf_60 ?_
      refine lv_istore_n hx hb dX1_wordOf_61 rfl hl (by decide) rfl (fun ls hl => ?_)
      have hl : lv_has ls 6 [(3, .int v3), (0, .ref hm), (1, .int x1), (2, .int x2)] := hl
      refine lv_iconst (v := (0 : Int32)) hx hb dX1_wordOf_62 (by decide) ?_
      refine lv_istore hx hb dX1_wordOf_63 hl (by decide) rfl (fun ls hl => ?_)
      have hl : lv_has ls 6 [(4, .int (0 : Int32)), (3, .int v3), (0, .ref hm), (1, .int x1), (2, .int x2)] := hl
      obtain ⟨⟨x_10, x_11⟩, hv, hf⟩ := bd hf
      dsimp only at hf
      refine wX1_wordOf_L65 dC dI cI cZ cL hm b1 b2 b3 b4 b5 b6 b7 b8 b9 hx hb hml hown hts hK hA x1 x2 th mk us fi se ki va li ct od ne ro FU v3 (0 : Int32) x_10 x_11 hv _ _ _ hP hD hS (lv_sub hl [2, 3, 4, 1, 0] rfl) (fun H locs ls hP hD hS hl => ?_)
      refine lv_iload_n hx hb dX1_wordOf_143 rfl (lv_at hl 3 rfl) ?_
      have hg0 := Option.some.inj hf
      subst hg0
      exact W.iret hx hb hr (fun t ht hW => ⟨⟨_, (), rfl, rfl, by rw [ht]; exact hP, va_K.moved hW.alike hK, hD⟩, hS.F ht⟩) hS.2.2 dX1_wordOf_144
    · have hf := ifn h2 hf
      refine lv_bipush (v := (6 : Int32)) hx hb dX1_wordOf_17 (by decide) ?_
      refine lv_iload_n hx hb dX1_wordOf_19 rfl (lv_at hl 1 rfl) ?_
      refine lv_imul hx hb dX1_wordOf_20 ?_
      refine lv_iload_n hx hb dX1_wordOf_21 rfl (lv_at hl 2 rfl) ?_
      refine lv_iadd hx hb dX1_wordOf_22 ?_
      refine lv_iconst (v := (2 : Int32)) hx hb dX1_wordOf_23 (by decide) ?_
      refine lv_isub hx hb dX1_wordOf_24 ?_
      refine lv_istore_n hx hb dX1_wordOf_25 rfl hl (by decide) rfl (fun ls hl => ?_)
      have hl : lv_has ls 6 [(3, .int ((((6 : Int32) * x1) + x2) - (2 : Int32))), (0, .ref hm), (1, .int x1), (2, .int x2)] := hl
      refine lv_aload_n hx hb dX1_wordOf_26 rfl (lv_at hl 1 rfl) ?_
      refine va_get (D := (dC, dI)) (ci := 1) (v := .ref b4) (C := RX1) (T := TX1) (N := 12) hx hb hts (fun w hw => List.mem_cons_of_mem _ (inX1 w hw)) hown hK hP 0 rfl rfl 5 (by decide) (hts _ (List.mem_cons_of_mem _ mw_449)) (fun _ h9 => h9) rfl dX1_wordOf_27 ?_
      refine lv_iload_n hx hb dX1_wordOf_30 rfl (lv_at hl 0 rfl) ?_
      obtain ⟨v12, hv, hf⟩ := bd hf
      refine q_ild hx hb hK hP 4 0 rfl rfl hv dX1_wordOf_31 ?_
      refine lv_if_ne (tgt := 44) hx hb dX1_wordOf_32 (by decide) (fun h13 => ?_) (fun h13 => ?_)
      · have hf := ifn h13 hf
        refine lv_aload_n hx hb dX1_wordOf_44 rfl (lv_at hl 1 rfl) ?_
        refine lv_aload_n hx hb dX1_wordOf_45 rfl (lv_at hl 1 rfl) ?_
        refine va_get (D := (dC, dI)) (ci := 1) (v := .ref b5) (C := RX1) (T := TX1) (N := 12) hx hb hts (fun w hw => List.mem_cons_of_mem _ (inX1 w hw)) hown hK hP 0 rfl rfl 6 (by decide) (hts _ (List.mem_cons_of_mem _ mw_450)) (fun _ h9 => h9) rfl dX1_wordOf_46 ?_
        refine lv_iload_n hx hb dX1_wordOf_49 rfl (lv_at hl 0 rfl) ?_
        obtain ⟨v14, hv, hf⟩ := bd hf
        refine q_ild hx hb hK hP 5 0 rfl rfl hv dX1_wordOf_50 ?_
        obtain ⟨v15, hv, hf⟩ := bd hf
        refine q_ci (wr := []) (va_runV (As := [.int v14]) (rest := []) ⟨hx, hb, hml, hown, hts⟩ (ctX1_addressOf l dC dI cI cZ cL hm b1 b2 b3 b4 b5 b6 b7 b8 b9 _ th mk us fi se ki va li ct od ne ro v14 v15 hv) (cwV 1 hts (gV mw_584 mw_586 mw_35 mw_40 mw_587) rfl rfl rfl (by decide +kernel) ⟨Nat.le_of_ble_eq_true rfl, Nat.le_of_ble_eq_true rfl⟩) (q_preV [.int v14] hK hP hD [0, 1, 2, 3, 4, 5, 6, 7, 8, 9] (by decide) rfl (ci := 1) rfl rfl) rfl rfl hl.1 rfl (lv_room (Nat.le_of_ble_eq_true rfl)) dX1_wordOf_51 ⟨Nat.le_of_ble_eq_true rfl, Nat.le_of_ble_eq_true rfl⟩) hP hD hS hA [0, 1, 2, 3, 4, 5, 6, 7, 8, 9] [] rfl rfl (by decide) (by decide) (fun H locs hP hD hS => ?_)
        have hP : va_P (dC, dI) vwCl (wM cI cZ hm b1 b2 b3 b4 b5 b6 b7 b8 b9 th mk us fi se ki va li ct od ne ro) _ := hP
        have hD : va_D A (wM cI cZ hm b1 b2 b3 b4 b5 b6 b7 b8 b9 th mk us fi se ki va li ct od ne ro) := hD
        have hg0 := Option.some.inj hf
        subst hg0
        exact W.iret hx hb hr (fun t ht hW => ⟨⟨_, (), rfl, rfl, by rw [ht]; exact hP, va_K.moved hW.alike hK, hD⟩, hS.F ht⟩) hS.2.2 dX1_wordOf_54
      · have hf := ift h13 hf
        refine lv_aload_n hx hb dX1_wordOf_35 rfl (lv_at hl 1 rfl) ?_
        refine va_get (D := (dC, dI)) (ci := 1) (v := .ref b5) (C := RX1) (T := TX1) (N := 12) hx hb hts (fun w hw => List.mem_cons_of_mem _ (inX1 w hw)) hown hK hP 0 rfl rfl 6 (by decide) (hts _ (List.mem_cons_of_mem _ mw_450)) (fun _ h9 => h9) rfl dX1_wordOf_36 ?_
        refine lv_iload_n hx hb dX1_wordOf_39 rfl (lv_at hl 0 rfl) ?_
        obtain ⟨v16, hv, hf⟩ := bd hf
        refine q_ild hx hb hK hP 5 0 rfl rfl hv dX1_wordOf_40 ?_
        refine lv_goto (tgt := 54) hx hb dX1_wordOf_41 (by decide) ?_
        have hg0 := Option.some.inj hf
        subst hg0
        exact W.iret hx hb hr (fun t ht hW => ⟨⟨_, (), rfl, rfl, by rw [ht]; exact hP, va_K.moved hW.alike hK, hD⟩, hS.F ht⟩) hS.2.2 dX1_wordOf_54
  · have hf := ift h1 hf
    refine lv_aload_n hx hb dX1_wordOf_5 rfl (lv_at hl 0 rfl) ?_
    refine va_get (D := (dC, dI)) (ci := 1) (v := .ref b3) (C := RX1) (T := TX1) (N := 12) hx hb hts (fun w hw => List.mem_cons_of_mem _ (inX1 w hw)) hown hK hP 0 rfl rfl 4 (by decide) (hts _ (List.mem_cons_of_mem _ mw_448)) (fun _ h9 => h9) rfl dX1_wordOf_6 ?_
    refine lv_iload_n hx hb dX1_wordOf_9 rfl (lv_at hl 1 rfl) ?_
    obtain ⟨v17, hv, hf⟩ := bd hf
    refine q_ild hx hb hK hP 3 0 rfl rfl hv dX1_wordOf_10 ?_
    have hg0 := Option.some.inj hf
    subst hg0
    exact W.iret hx hb hr (fun t ht hW => ⟨⟨_, (), rfl, rfl, by rw [ht]; exact hP, va_K.moved hW.alike hK, hD⟩, hS.F ht⟩) hS.2.2 dX1_wordOf_11
set_option maxHeartbeats 4000000 in
set_option maxRecDepth 100000 in
theorem wX1_word_L33 {p : Program} {l : Launch} {e : Env} {s : State} {m : MethodId} {args : Array Value} {below : List Frame} {meth : Method} {c : Code} {Q : State → Prop} {A : Nat → Prop} (dC : Nat → ClassId) (dI : Nat → Nat → Nat) (cI cZ cL : ClassId) (hm b1 b2 b3 b4 b5 b6 b7 b8 b9 : Nat) (hx : p.tables.exec = Jvm.exec) (hb : c.code = cX1_word) (hml : c.maxLocals = 5) (hown : s.vm.findClass RX1 = some m.cls) (hts : ∀ w ∈ wsX1_word, w.before args s = true) (hK : va_K (dC, dI) vwCl (tyA cI cZ cL) s) (hA : ∀ q : Nat, s.heap.size ≤ q → A q) (x1_ : Int32) (th : Int32) (mk : Int32) (us : Nat → Int32) (fi : Nat → Int32) (se : Nat → Int32) (ki : Nat → Int32) (va : Nat → Int32) (li : Nat → Int32) (ct : Int32) (od : Nat → Int32) (ne : Nat → Int32) (ro : Nat → Int32) (n : Nat) :
    ∀ (x2_ : Int32) (x3_ : Int32) (tg : Nat) (x2_' : Int32) (x3_' : Int32) (rv : Int32), fX1_word_L33 x1_ fi se ki va ct od n x2_ x3_ = some (tg, x2_', x3_', rv) → ∀ (H : Heap) (locs : List Loc) (ls : Array Slot), va_P (dC, dI) vwCl (wM cI cZ hm b1 b2 b3 b4 b5 b6 b7 b8 b9 th mk us fi se ki va li ct od ne ro) H → va_D A (wM cI cZ hm b1 b2 b3 b4 b5 b6 b7 b8 b9 th mk us fi se ki va li ct od ne ro) → va_S A s.heap H locs → lv_has ls 5 [(0, .ref hm), (1, .int x1_), (2, .int x2_), (3, .int x3_)] → (tg = 0 → ∀ (H : Heap) (locs : List Loc) (ls : Array Slot), va_P (dC, dI) vwCl (wM cI cZ hm b1 b2 b3 b4 b5 b6 b7 b8 b9 th mk us fi se ki va li ct od ne ro) H → va_D A (wM cI cZ hm b1 b2 b3 b4 b5 b6 b7 b8 b9 th mk us fi se ki va li ct od ne ro) → va_S A s.heap H locs → lv_has ls 5 [(0, .ref hm), (1, .int x1_), (2, .int x2_'), (3, .int x3_')] → W p l e (headSpec wsX1_word rmX1_word).room s m args below meth c H locs 0 0 Q (F0 m 89 ls [])) → (tg = 1 → ∀ (H : Heap) (locs : List Loc) (ls : Array Slot), va_P (dC, dI) vwCl (wM cI cZ hm b1 b2 b3 b4 b5 b6 b7 b8 b9 th mk us fi se ki va li ct od ne ro) H → va_D A (wM cI cZ hm b1 b2 b3 b4 b5 b6 b7 b8 b9 th mk us fi se ki va li ct od ne ro) → va_S A s.heap H locs → lv_has ls 5 [(0, .ref hm), (1, .int x1_), (2, .int x2_'), (3, .int x3_')] → W p l e (headSpec wsX1_word rmX1_word).room s m args below meth c H locs 0 0 Q (F0 m 77 ls [.int rv])) → W p l e (headSpec wsX1_word rmX1_word).room s m args below meth c H locs 0 0 Q (F0 m 33 ls []) := by
  induction n with
  | zero => intro x2_ x3_ tg x2_' x3_' rv hf; cases hf
  | succ n ih =>
    intro x2_ x3_ tg x2_' x3_' rv hf H locs ls hP hD hS hl k0 k1
    have hf := (fX1_word_L33_s x1_ fi se ki va ct od n x2_ x3_).symm.trans hf
    refine lv_iload_n hx hb dX1_word_33 rfl (lv_at hl 3 rfl) ?_
    refine lv_aload_n hx hb dX1_word_34 rfl (lv_at hl 0 rfl) ?_
    refine va_get (D := (dC, dI)) (ci := 1) (v := .int ct) (C := RX1) (T := TX1) (N := 12) hx hb hts (fun w hw => List.mem_cons_of_mem _ (inX1 w hw)) hown hK hP 0 rfl rfl 8 (by decide) (hts _ (List.mem_cons_of_mem _ mw_452)) (fun _ h9 => h9) rfl dX1_word_35 ?_
    refine lv_icmp_ge (tgt := 89) hx hb dX1_word_38 (by decide) (fun h3 => ?_) (fun h3 => ?_)
    · have hf := ift h3 hf
      cases hf
      exact k0 rfl _ _ _ hP hD hS (lv_sub hl [0, 1, 2, 3] rfl)
    · have hf := ifn h3 hf
      refine lv_aload_n hx hb dX1_word_41 rfl (lv_at hl 0 rfl) ?_
      refine va_get (D := (dC, dI)) (ci := 1) (v := .ref b2) (C := RX1) (T := TX1) (N := 12) hx hb hts (fun w hw => List.mem_cons_of_mem _ (inX1 w hw)) hown hK hP 0 rfl rfl 3 (by decide) (hts _ (List.mem_cons_of_mem _ mw_447)) (fun _ h9 => h9) rfl dX1_word_42 ?_
      refine lv_aload_n hx hb dX1_word_45 rfl (lv_at hl 0 rfl) ?_
      refine va_get (D := (dC, dI)) (ci := 1) (v := .ref b7) (C := RX1) (T := TX1) (N := 12) hx hb hts (fun w hw => List.mem_cons_of_mem _ (inX1 w hw)) hown hK hP 0 rfl rfl 9 (by decide) (hts _ (List.mem_cons_of_mem _ mw_453)) (fun _ h9 => h9) rfl dX1_word_46 ?_
      refine lv_iload_n hx hb dX1_word_49 rfl (lv_at hl 3 rfl) ?_
      obtain ⟨v4, hv, hf⟩ := bd hf
      refine q_ild hx hb hK hP 7 0 rfl rfl hv dX1_word_50 ?_
      obtain ⟨v5, hv, hf⟩ := bd hf
      refine q_ild hx hb hK hP 2 0 rfl rfl hv dX1_word_51 ?_
      refine lv_iconst (v := (2 : Int32)) hx hb dX1_word_52 (by decide) ?_
      refine lv_iadd hx hb dX1_word_53 ?_
      refine lv_istore hx hb dX1_word_54 hl (by decide) rfl (fun ls hl => ?_)
      have hl : lv_has ls 5 [(4, .int (v5 + (2 : Int32))), (0, .ref hm), (1, .int x1_), (2, .int x2_), (3, .int x3_)] := hl
      refine lv_iload_n hx hb dX1_word_56 rfl (lv_at hl 2 rfl) ?_
      refine lv_iload_n hx hb dX1_word_57 rfl (lv_at hl 3 rfl) ?_
      refine lv_iload hx hb dX1_word_58 (lv_at hl 0 rfl) ?_
      refine lv_iadd hx hb dX1_word_60 ?_
      refine lv_icmp_ge (tgt := 78) hx hb dX1_word_61 (by decide) (fun h6 => ?_) (fun h6 => ?_)
      · have hf := ift h6 hf
        refine lv_iload_n hx hb dX1_word_78 rfl (lv_at hl 3 rfl) ?_
        refine lv_iload hx hb dX1_word_79 (lv_at hl 0 rfl) ?_
        refine lv_iadd hx hb dX1_word_81 ?_
        refine lv_istore_n hx hb dX1_word_82 rfl hl (by decide) rfl (fun ls hl => ?_)
        have hl : lv_has ls 5 [(2, .int (x2_ + (v5 + (2 : Int32)))), (4, .int (v5 + (2 : Int32))), (0, .ref hm), (1, .int x1_), (3, .int x3_)] := hl
        refine lv_iinc (v := x3_ + (1 : Int32)) hx hb dX1_word_83 hl (k := 4) rfl (by rfl) (by decide) rfl (fun ls hl => ?_)
        have hl : lv_has ls 5 [(3, .int (x3_ + (1 : Int32))), (2, .int (x2_ + (v5 + (2 : Int32)))), (4, .int (v5 + (2 : Int32))), (0, .ref hm), (1, .int x1_)] := hl
        refine lv_goto (tgt := 33) hx hb dX1_word_86 (by decide) ?_
        exact ih _ _ _ _ _ _ hf _ _ _ hP hD hS (lv_sub hl [3, 4, 1, 0] rfl) k0 k1
      · have hf := ifn h6 hf
        refine lv_aload_n hx hb dX1_word_64 rfl (lv_at hl 1 rfl) ?_
        refine lv_aload_n hx hb dX1_word_65 rfl (lv_at hl 1 rfl) ?_
        refine va_get (D := (dC, dI)) (ci := 1) (v := .ref b7) (C := RX1) (T := TX1) (N := 12) hx hb hts (fun w hw => List.mem_cons_of_mem _ (inX1 w hw)) hown hK hP 0 rfl rfl 9 (by decide) (hts _ (List.mem_cons_of_mem _ mw_453)) (fun _ h9 => h9) rfl dX1_word_66 ?_
        refine lv_iload_n hx hb dX1_word_69 rfl (lv_at hl 4 rfl) ?_
        obtain ⟨v7, hv, hf⟩ := bd hf
        refine q_ild hx hb hK hP 7 0 rfl rfl hv dX1_word_70 ?_
        refine lv_iload_n hx hb dX1_word_71 rfl (lv_at hl 2 rfl) ?_
        refine lv_iload_n hx hb dX1_word_72 rfl (lv_at hl 3 rfl) ?_
        refine lv_isub hx hb dX1_word_73 ?_
        obtain ⟨v8, hv, hf⟩ := bd hf
        refine q_ci (wr := []) (va_runV (As := [.int v7, .int (x1_ - x2_)]) (rest := []) ⟨hx, hb, hml, hown, hts⟩ (ctX1_wordOf l dC dI cI cZ cL hm b1 b2 b3 b4 b5 b6 b7 b8 b9 _ th mk us fi se ki va li ct od ne ro v7 (x1_ - x2_) v8 hv) (cwV 2 hts (gV mw_592 mw_594 mw_36 mw_40 mw_595) rfl rfl rfl (by decide +kernel) ⟨Nat.le_of_ble_eq_true rfl, Nat.le_of_ble_eq_true rfl⟩) (q_preV [.int v7, .int (x1_ - x2_)] hK hP hD [0, 1, 2, 3, 4, 5, 6, 7, 8, 9] (by decide) rfl (ci := 1) rfl rfl) rfl rfl hl.1 rfl (lv_room (Nat.le_of_ble_eq_true rfl)) dX1_word_74 ⟨Nat.le_of_ble_eq_true rfl, Nat.le_of_ble_eq_true rfl⟩) hP hD hS hA [0, 1, 2, 3, 4, 5, 6, 7, 8, 9] [] rfl rfl (by decide) (by decide) (fun H locs hP hD hS => ?_)
        have hP : va_P (dC, dI) vwCl (wM cI cZ hm b1 b2 b3 b4 b5 b6 b7 b8 b9 th mk us fi se ki va li ct od ne ro) _ := hP
        have hD : va_D A (wM cI cZ hm b1 b2 b3 b4 b5 b6 b7 b8 b9 th mk us fi se ki va li ct od ne ro) := hD
        cases hf
        exact k1 rfl _ _ _ hP hD hS (lv_sub hl [1, 2, 3, 4] rfl)
set_option maxHeartbeats 4000000 in
set_option maxRecDepth 100000 in
theorem ctX1_word (l : Launch) (dC : Nat → ClassId) (dI : Nat → Nat → Nat) (cI cZ cL : ClassId) (hm b1 b2 b3 b4 b5 b6 b7 b8 b9 : Nat) (sz : Nat) (th : Int32) (mk : Int32) (us : Nat → Int32) (fi : Nat → Int32) (se : Nat → Int32) (ki : Nat → Int32) (va : Nat → Int32) (li : Nat → Int32) (ct : Int32) (od : Nat → Int32) (ne : Nat → Int32) (ro : Nat → Int32) (x1 : Int32) (rs : Int32) (th' : Int32) (hf : fX1_word th fi se ki va ct od x1 = some (rs, th')) : Met l yX1_word wsX1_word rmX1_word (va_Pc [.ref hm, .int x1] (q_pre (dC, dI) vwCl (tyA cI cZ cL) sz (wM cI cZ hm b1 b2 b3 b4 b5 b6 b7 b8 b9 th mk us fi se ki va li ct od ne ro))) (va_Qi (fun r (_ : Unit) => r = rs) (fun _ => q_post (dC, dI) vwCl (tyA cI cZ cL) (va_A (wM cI cZ hm b1 b2 b3 b4 b5 b6 b7 b8 b9 th mk us fi se ki va li ct od ne ro) sz) (wM cI cZ hm b1 b2 b3 b4 b5 b6 b7 b8 b9 th' mk us fi se ki va li ct od ne ro)) (va_A (wM cI cZ hm b1 b2 b3 b4 b5 b6 b7 b8 b9 th mk us fi se ki va li ct od ne ro) sz)) 0 0 (va_A (wM cI cZ hm b1 b2 b3 b4 b5 b6 b7 b8 b9 th mk us fi se ki va li ct od ne ro) sz) := by
  refine Met.ofW (cc := cX1_word) (maxL := 5) (ret := (some .int)) (by decide) rfl ?_
  intro p e s m args below meth c s₁ B hml hv
  obtain ⟨rfl, hsz, hP, hK, hD0⟩ := hv
  have hx := B.exec
  have hb := B.bytes
  have hr := B.returns
  have hts := atoms_spec (ws := wsX1_word) B.pre
  have hown : s.vm.findClass RX1 = some m.cls := findClass_of_methodNamed B.named
  subst hsz
  have hD := hD0.self (sz := s.heap.size)
  generalize hAe : va_A (wM cI cZ hm b1 b2 b3 b4 b5 b6 b7 b8 b9 th mk us fi se ki va li ct od ne ro) s.heap.size = A at hD ⊢
  have hA : ∀ q : Nat, s.heap.size ≤ q → A q := fun q h => by rw [← hAe]; exact Or.inr h
  have hS : va_S A s.heap s.heap [] := va_S.rf
  have hl := lv_entry ([.ref hm, .int x1]) (n := 5) (Nat.le_of_ble_eq_true rfl)
  rw [lg_entry_eq]
  generalize (lg_sl ([.ref hm, .int x1]) ++ List.replicate (5 - (lg_sl ([.ref hm, .int x1])).length) Slot.unset).toArray = ls at hl ⊢
  have hl : lv_has ls 5 [(0, .ref hm), (1, .int x1)] := hl
  unfold fX1_word at hf
  refine lv_aload_n hx hb dX1_word_0 rfl (lv_at hl 0 rfl) ?_
  refine lv_iload_n hx hb dX1_word_1 rfl (lv_at hl 1 rfl) ?_
  refine lv_if_lt (tgt := 16) hx hb dX1_word_2 (by decide) (fun h1 => ?_) (fun h1 => ?_)
  · have hf := ift h1 hf
    refine lv_iconst (v := (1 : Int32)) hx hb dX1_word_16 (by decide) ?_
    refine va_put (D := (dC, dI)) (ci := 1) (v := .int (1 : Int32)) (ty := .int) (C := RX1) (T := TX1) (N := 12) hx hb hts (fun w hw => List.mem_cons_of_mem _ (inX1 w hw)) tyX1 tyX1_ok nmX1 hown hK hP hD hS 0 rfl rfl 0 (by decide) (hts _ (List.mem_cons_of_mem _ mw_444)) (fun _ h9 => h9) rfl (by decide +kernel) rfl rfl (Nat.le_of_ble_eq_true rfl) dX1_word_17 (fun H locs hP hD hS => ?_)
    have hP : va_P (dC, dI) vwCl (wM cI cZ hm b1 b2 b3 b4 b5 b6 b7 b8 b9 (1 : Int32) mk us fi se ki va li ct od ne ro) _ := hP
    have hD : va_D A (wM cI cZ hm b1 b2 b3 b4 b5 b6 b7 b8 b9 (1 : Int32) mk us fi se ki va li ct od ne ro) := hD
    refine lv_aload_n hx hb dX1_word_20 rfl (lv_at hl 0 rfl) ?_
    refine va_get (D := (dC, dI)) (ci := 1) (v := .int (1 : Int32)) (C := RX1) (T := TX1) (N := 12) hx hb hts (fun w hw => List.mem_cons_of_mem _ (inX1 w hw)) hown hK hP 0 rfl rfl 0 (by decide) (hts _ (List.mem_cons_of_mem _ mw_444)) (fun _ h9 => h9) rfl dX1_word_21 ?_
    refine lv_if_le (tgt := 29) hx hb dX1_word_24 (by decide) (fun h9 => absurd h9 (by decide)) (fun _ => ?_)
    refine lv_iconst (v := (0 : Int32)) hx hb dX1_word_27 (by decide) ?_
    have hg0 := Option.some.inj hf
    obtain ⟨hq1, hg1⟩ := Prod.mk.inj hg0
    subst hq1
    subst hg1
    exact W.iret hx hb hr (fun t ht hW => ⟨⟨_, (), rfl, rfl, by rw [ht]; exact hP, va_K.moved hW.alike hK, hD⟩, hS.F ht⟩) hS.2.2 dX1_word_28
  · have hf := ifn h1 hf
    refine lv_iload_n hx hb dX1_word_5 rfl (lv_at hl 1 rfl) ?_
    refine lv_sipush (v := (256 : Int32)) hx hb dX1_word_6 (by decide) ?_
    refine lv_icmp_ge (tgt := 16) hx hb dX1_word_9 (by decide) (fun h2 => ?_) (fun h2 => ?_)
    · have hf := ift h2 hf
      refine lv_iconst (v := (1 : Int32)) hx hb dX1_word_16 (by decide) ?_
      refine va_put (D := (dC, dI)) (ci := 1) (v := .int (1 : Int32)) (ty := .int) (C := RX1) (T := TX1) (N := 12) hx hb hts (fun w hw => List.mem_cons_of_mem _ (inX1 w hw)) tyX1 tyX1_ok nmX1 hown hK hP hD hS 0 rfl rfl 0 (by decide) (hts _ (List.mem_cons_of_mem _ mw_444)) (fun _ h9 => h9) rfl (by decide +kernel) rfl rfl (Nat.le_of_ble_eq_true rfl) dX1_word_17 (fun H locs hP hD hS => ?_)
      have hP : va_P (dC, dI) vwCl (wM cI cZ hm b1 b2 b3 b4 b5 b6 b7 b8 b9 (1 : Int32) mk us fi se ki va li ct od ne ro) _ := hP
      have hD : va_D A (wM cI cZ hm b1 b2 b3 b4 b5 b6 b7 b8 b9 (1 : Int32) mk us fi se ki va li ct od ne ro) := hD
      refine lv_aload_n hx hb dX1_word_20 rfl (lv_at hl 0 rfl) ?_
      refine va_get (D := (dC, dI)) (ci := 1) (v := .int (1 : Int32)) (C := RX1) (T := TX1) (N := 12) hx hb hts (fun w hw => List.mem_cons_of_mem _ (inX1 w hw)) hown hK hP 0 rfl rfl 0 (by decide) (hts _ (List.mem_cons_of_mem _ mw_444)) (fun _ h9 => h9) rfl dX1_word_21 ?_
      refine lv_if_le (tgt := 29) hx hb dX1_word_24 (by decide) (fun h9 => absurd h9 (by decide)) (fun _ => ?_)
      refine lv_iconst (v := (0 : Int32)) hx hb dX1_word_27 (by decide) ?_
      have hg0 := Option.some.inj hf
      obtain ⟨hq1, hg1⟩ := Prod.mk.inj hg0
      subst hq1
      subst hg1
      exact W.iret hx hb hr (fun t ht hW => ⟨⟨_, (), rfl, rfl, by rw [ht]; exact hP, va_K.moved hW.alike hK, hD⟩, hS.F ht⟩) hS.2.2 dX1_word_28
    · have hf := ifn h2 hf
      refine lv_iconst (v := (0 : Int32)) hx hb dX1_word_12 (by decide) ?_
      refine lv_goto (tgt := 17) hx hb dX1_word_13 (by decide) ?_
      refine va_put (D := (dC, dI)) (ci := 1) (v := .int (0 : Int32)) (ty := .int) (C := RX1) (T := TX1) (N := 12) hx hb hts (fun w hw => List.mem_cons_of_mem _ (inX1 w hw)) tyX1 tyX1_ok nmX1 hown hK hP hD hS 0 rfl rfl 0 (by decide) (hts _ (List.mem_cons_of_mem _ mw_444)) (fun _ h9 => h9) rfl (by decide +kernel) rfl rfl (Nat.le_of_ble_eq_true rfl) dX1_word_17 (fun H locs hP hD hS => ?_)
      have hP : va_P (dC, dI) vwCl (wM cI cZ hm b1 b2 b3 b4 b5 b6 b7 b8 b9 (0 : Int32) mk us fi se ki va li ct od ne ro) _ := hP
      have hD : va_D A (wM cI cZ hm b1 b2 b3 b4 b5 b6 b7 b8 b9 (0 : Int32) mk us fi se ki va li ct od ne ro) := hD
      refine lv_aload_n hx hb dX1_word_20 rfl (lv_at hl 0 rfl) ?_
      refine va_get (D := (dC, dI)) (ci := 1) (v := .int (0 : Int32)) (C := RX1) (T := TX1) (N := 12) hx hb hts (fun w hw => List.mem_cons_of_mem _ (inX1 w hw)) hown hK hP 0 rfl rfl 0 (by decide) (hts _ (List.mem_cons_of_mem _ mw_444)) (fun _ h9 => h9) rfl dX1_word_21 ?_
      refine lv_if_le (tgt := 29) hx hb dX1_word_24 (by decide) (fun _ => ?_) (fun h9 => absurd h9 (by decide))
      refine lv_iconst (v := (0 : Int32)) hx hb dX1_word_29 (by decide) ?_
      refine lv_istore_n hx hb dX1_word_30 rfl hl (by decide) rfl (fun ls hl => ?_)
      have hl : lv_has ls 5 [(2, .int (0 : Int32)), (0, .ref hm), (1, .int x1)] := hl
      refine lv_iconst (v := (0 : Int32)) hx hb dX1_word_31 (by decide) ?_
      refine lv_istore_n hx hb dX1_word_32 rfl hl (by decide) rfl (fun ls hl => ?_)
      have hl : lv_has ls 5 [(3, .int (0 : Int32)), (2, .int (0 : Int32)), (0, .ref hm), (1, .int x1)] := hl
      obtain ⟨⟨t11, x_9, x_10, y12⟩, hv, hf⟩ := bd hf
      dsimp only at hf
      refine wX1_word_L33 dC dI cI cZ cL hm b1 b2 b3 b4 b5 b6 b7 b8 b9 hx hb hml hown hts hK hA x1 (0 : Int32) mk us fi se ki va li ct od ne ro FU (0 : Int32) (0 : Int32) t11 x_9 x_10 y12 hv _ _ _ hP hD hS (lv_sub hl [2, 3, 1, 0] rfl) (fun ht H locs ls hP hD hS hl => ?_) (fun ht H locs ls hP hD hS hl => ?_)
      · have hf := ift ht hf
        refine lv_iconst (v := (0 : Int32)) hx hb dX1_word_89 (by decide) ?_
        have hg0 := Option.some.inj hf
        obtain ⟨hq1, hg1⟩ := Prod.mk.inj hg0
        subst hq1
        subst hg1
        exact W.iret hx hb hr (fun t ht hW => ⟨⟨_, (), rfl, rfl, by rw [ht]; exact hP, va_K.moved hW.alike hK, hD⟩, hS.F ht⟩) hS.2.2 dX1_word_90
      · have hf := ifn (by rw [ht]; decide) hf
        have hg0 := Option.some.inj hf
        obtain ⟨hq1, hg1⟩ := Prod.mk.inj hg0
        subst hq1
        subst hg1
        exact W.iret hx hb hr (fun t ht hW => ⟨⟨_, (), rfl, rfl, by rw [ht]; exact hP, va_K.moved hW.alike hK, hD⟩, hS.F ht⟩) hS.2.2 dX1_word_77
set_option maxHeartbeats 4000000 in
set_option maxRecDepth 100000 in
theorem ctX1_top (l : Launch) (dC : Nat → ClassId) (dI : Nat → Nat → Nat) (cI cZ cL : ClassId) (hm b1 b2 b3 b4 b5 b6 b7 b8 b9 : Nat) (sz : Nat) (th : Int32) (mk : Int32) (us : Nat → Int32) (fi : Nat → Int32) (se : Nat → Int32) (ki : Nat → Int32) (va : Nat → Int32) (li : Nat → Int32) (ct : Int32) (od : Nat → Int32) (ne : Nat → Int32) (ro : Nat → Int32) (rs : Int32) (th' : Int32) (hf : fX1_top th fi ct od = some (rs, th')) : Met l yX1_top wsX1_top rmX1_top (va_Pc [.ref hm] (q_pre (dC, dI) vwCl (tyA cI cZ cL) sz (wM cI cZ hm b1 b2 b3 b4 b5 b6 b7 b8 b9 th mk us fi se ki va li ct od ne ro))) (va_Qi (fun r (_ : Unit) => r = rs) (fun _ => q_post (dC, dI) vwCl (tyA cI cZ cL) (va_A (wM cI cZ hm b1 b2 b3 b4 b5 b6 b7 b8 b9 th mk us fi se ki va li ct od ne ro) sz) (wM cI cZ hm b1 b2 b3 b4 b5 b6 b7 b8 b9 th' mk us fi se ki va li ct od ne ro)) (va_A (wM cI cZ hm b1 b2 b3 b4 b5 b6 b7 b8 b9 th mk us fi se ki va li ct od ne ro) sz)) 0 0 (va_A (wM cI cZ hm b1 b2 b3 b4 b5 b6 b7 b8 b9 th mk us fi se ki va li ct od ne ro) sz) := by
  refine Met.ofW (cc := cX1_top) (maxL := 1) (ret := (some .int)) (by decide) rfl ?_
  intro p e s m args below meth c s₁ B hml hv
  obtain ⟨rfl, hsz, hP, hK, hD0⟩ := hv
  have hx := B.exec
  have hb := B.bytes
  have hr := B.returns
  have hts := atoms_spec (ws := wsX1_top) B.pre
  have hown : s.vm.findClass RX1 = some m.cls := findClass_of_methodNamed B.named
  subst hsz
  have hD := hD0.self (sz := s.heap.size)
  generalize hAe : va_A (wM cI cZ hm b1 b2 b3 b4 b5 b6 b7 b8 b9 th mk us fi se ki va li ct od ne ro) s.heap.size = A at hD ⊢
  have hA : ∀ q : Nat, s.heap.size ≤ q → A q := fun q h => by rw [← hAe]; exact Or.inr h
  have hS : va_S A s.heap s.heap [] := va_S.rf
  have hl := lv_entry ([.ref hm]) (n := 1) (Nat.le_of_ble_eq_true rfl)
  rw [lg_entry_eq]
  generalize (lg_sl ([.ref hm]) ++ List.replicate (1 - (lg_sl ([.ref hm])).length) Slot.unset).toArray = ls at hl ⊢
  have hl : lv_has ls 1 [(0, .ref hm)] := hl
  unfold fX1_top at hf
  refine lv_aload_n hx hb dX1_top_0 rfl (lv_at hl 0 rfl) ?_
  refine lv_iconst (v := (0 : Int32)) hx hb dX1_top_1 (by decide) ?_
  refine va_put (D := (dC, dI)) (ci := 1) (v := .int (0 : Int32)) (ty := .int) (C := RX1) (T := TX1) (N := 12) hx hb hts (fun w hw => List.mem_cons_of_mem _ (inX1 w hw)) tyX1 tyX1_ok nmX1 hown hK hP hD hS 0 rfl rfl 0 (by decide) (hts _ (List.mem_cons_of_mem _ mw_444)) (fun _ h9 => h9) rfl (by decide +kernel) rfl rfl (Nat.le_of_ble_eq_true rfl) dX1_top_2 (fun H locs hP hD hS => ?_)
  have hP : va_P (dC, dI) vwCl (wM cI cZ hm b1 b2 b3 b4 b5 b6 b7 b8 b9 (0 : Int32) mk us fi se ki va li ct od ne ro) _ := hP
  have hD : va_D A (wM cI cZ hm b1 b2 b3 b4 b5 b6 b7 b8 b9 (0 : Int32) mk us fi se ki va li ct od ne ro) := hD
  refine lv_aload_n hx hb dX1_top_5 rfl (lv_at hl 0 rfl) ?_
  obtain ⟨v1, hv, hf⟩ := bd hf
  refine q_ci (wr := []) (va_runV (As := []) (rest := []) ⟨hx, hb, hml, hown, hts⟩ (ctX1_topNow l dC dI cI cZ cL hm b1 b2 b3 b4 b5 b6 b7 b8 b9 _ (0 : Int32) mk us fi se ki va li ct od ne ro v1 hv) (cwV 0 hts (gV mw_494 mw_496 mw_24 mw_40 mw_497) rfl rfl rfl (by decide +kernel) ⟨Nat.le_of_ble_eq_true rfl, Nat.le_of_ble_eq_true rfl⟩) (q_preV [] hK hP hD [0, 1, 2, 3, 4, 5, 6, 7, 8, 9] (by decide) rfl (ci := 1) rfl rfl) rfl rfl hl.1 rfl (lv_room (Nat.le_of_ble_eq_true rfl)) dX1_top_6 ⟨Nat.le_of_ble_eq_true rfl, Nat.le_of_ble_eq_true rfl⟩) hP hD hS hA [0, 1, 2, 3, 4, 5, 6, 7, 8, 9] [] rfl rfl (by decide) (by decide) (fun H locs hP hD hS => ?_)
  have hP : va_P (dC, dI) vwCl (wM cI cZ hm b1 b2 b3 b4 b5 b6 b7 b8 b9 (0 : Int32) mk us fi se ki va li ct od ne ro) _ := hP
  have hD : va_D A (wM cI cZ hm b1 b2 b3 b4 b5 b6 b7 b8 b9 (0 : Int32) mk us fi se ki va li ct od ne ro) := hD
  have hg0 := Option.some.inj hf
  obtain ⟨hq1, hg1⟩ := Prod.mk.inj hg0
  subst hq1
  subst hg1
  exact W.iret hx hb hr (fun t ht hW => ⟨⟨_, (), rfl, rfl, by rw [ht]; exact hP, va_K.moved hW.alike hK, hD⟩, hS.F ht⟩) hS.2.2 dX1_top_9
set_option maxHeartbeats 4000000 in
set_option maxRecDepth 100000 in
theorem ctX1_objects (l : Launch) (dC : Nat → ClassId) (dI : Nat → Nat → Nat) (cI cZ cL : ClassId) (hm b1 b2 b3 b4 b5 b6 b7 b8 b9 : Nat) (sz : Nat) (th : Int32) (mk : Int32) (us : Nat → Int32) (fi : Nat → Int32) (se : Nat → Int32) (ki : Nat → Int32) (va : Nat → Int32) (li : Nat → Int32) (ct : Int32) (od : Nat → Int32) (ne : Nat → Int32) (ro : Nat → Int32) (rs : Int32) (th' : Int32) (hf : fX1_objects th ct = some (rs, th')) : Met l yX1_objects wsX1_objects rmX1_objects (va_Pc [.ref hm] (q_pre (dC, dI) vwCl (tyA cI cZ cL) sz (wM cI cZ hm b1 b2 b3 b4 b5 b6 b7 b8 b9 th mk us fi se ki va li ct od ne ro))) (va_Qi (fun r (_ : Unit) => r = rs) (fun _ => q_post (dC, dI) vwCl (tyA cI cZ cL) (va_A (wM cI cZ hm b1 b2 b3 b4 b5 b6 b7 b8 b9 th mk us fi se ki va li ct od ne ro) sz) (wM cI cZ hm b1 b2 b3 b4 b5 b6 b7 b8 b9 th' mk us fi se ki va li ct od ne ro)) (va_A (wM cI cZ hm b1 b2 b3 b4 b5 b6 b7 b8 b9 th mk us fi se ki va li ct od ne ro) sz)) 0 0 (va_A (wM cI cZ hm b1 b2 b3 b4 b5 b6 b7 b8 b9 th mk us fi se ki va li ct od ne ro) sz) := by
  refine Met.ofW (cc := cX1_objects) (maxL := 1) (ret := (some .int)) (by decide) rfl ?_
  intro p e s m args below meth c s₁ B hml hv
  obtain ⟨rfl, hsz, hP, hK, hD0⟩ := hv
  have hx := B.exec
  have hb := B.bytes
  have hr := B.returns
  have hts := atoms_spec (ws := wsX1_objects) B.pre
  have hown : s.vm.findClass RX1 = some m.cls := findClass_of_methodNamed B.named
  subst hsz
  have hD := hD0.self (sz := s.heap.size)
  generalize hAe : va_A (wM cI cZ hm b1 b2 b3 b4 b5 b6 b7 b8 b9 th mk us fi se ki va li ct od ne ro) s.heap.size = A at hD ⊢
  have hA : ∀ q : Nat, s.heap.size ≤ q → A q := fun q h => by rw [← hAe]; exact Or.inr h
  have hS : va_S A s.heap s.heap [] := va_S.rf
  have hl := lv_entry ([.ref hm]) (n := 1) (Nat.le_of_ble_eq_true rfl)
  rw [lg_entry_eq]
  generalize (lg_sl ([.ref hm]) ++ List.replicate (1 - (lg_sl ([.ref hm])).length) Slot.unset).toArray = ls at hl ⊢
  have hl : lv_has ls 1 [(0, .ref hm)] := hl
  unfold fX1_objects at hf
  refine lv_aload_n hx hb dX1_objects_0 rfl (lv_at hl 0 rfl) ?_
  refine lv_iconst (v := (0 : Int32)) hx hb dX1_objects_1 (by decide) ?_
  refine va_put (D := (dC, dI)) (ci := 1) (v := .int (0 : Int32)) (ty := .int) (C := RX1) (T := TX1) (N := 12) hx hb hts (fun w hw => List.mem_cons_of_mem _ (inX1 w hw)) tyX1 tyX1_ok nmX1 hown hK hP hD hS 0 rfl rfl 0 (by decide) (hts _ (List.mem_cons_of_mem _ mw_444)) (fun _ h9 => h9) rfl (by decide +kernel) rfl rfl (Nat.le_of_ble_eq_true rfl) dX1_objects_2 (fun H locs hP hD hS => ?_)
  have hP : va_P (dC, dI) vwCl (wM cI cZ hm b1 b2 b3 b4 b5 b6 b7 b8 b9 (0 : Int32) mk us fi se ki va li ct od ne ro) _ := hP
  have hD : va_D A (wM cI cZ hm b1 b2 b3 b4 b5 b6 b7 b8 b9 (0 : Int32) mk us fi se ki va li ct od ne ro) := hD
  refine lv_aload_n hx hb dX1_objects_5 rfl (lv_at hl 0 rfl) ?_
  refine va_get (D := (dC, dI)) (ci := 1) (v := .int ct) (C := RX1) (T := TX1) (N := 12) hx hb hts (fun w hw => List.mem_cons_of_mem _ (inX1 w hw)) hown hK hP 0 rfl rfl 8 (by decide) (hts _ (List.mem_cons_of_mem _ mw_452)) (fun _ h9 => h9) rfl dX1_objects_6 ?_
  have hg0 := Option.some.inj hf
  obtain ⟨hq1, hg1⟩ := Prod.mk.inj hg0
  subst hq1
  subst hg1
  exact W.iret hx hb hr (fun t ht hW => ⟨⟨_, (), rfl, rfl, by rw [ht]; exact hP, va_K.moved hW.alike hK, hD⟩, hS.F ht⟩) hS.2.2 dX1_objects_9
set_option maxHeartbeats 4000000 in
set_option maxRecDepth 100000 in
theorem ctX1_alive (l : Launch) (dC : Nat → ClassId) (dI : Nat → Nat → Nat) (cI cZ cL : ClassId) (hm b1 b2 b3 b4 b5 b6 b7 b8 b9 : Nat) (sz : Nat) (th : Int32) (mk : Int32) (us : Nat → Int32) (fi : Nat → Int32) (se : Nat → Int32) (ki : Nat → Int32) (va : Nat → Int32) (li : Nat → Int32) (ct : Int32) (od : Nat → Int32) (ne : Nat → Int32) (ro : Nat → Int32) (rs : Int32) (th' : Int32) (li' : Nat → Int32) (hf : fX1_alive th fi ki va li ct od ro = some (rs, th', li')) : Met l yX1_alive wsX1_alive rmX1_alive (va_Pc [.ref hm] (q_pre (dC, dI) vwCl (tyA cI cZ cL) sz (wM cI cZ hm b1 b2 b3 b4 b5 b6 b7 b8 b9 th mk us fi se ki va li ct od ne ro))) (va_Qi (fun r (_ : Unit) => r = rs) (fun _ => q_post (dC, dI) vwCl (tyA cI cZ cL) (va_A (wM cI cZ hm b1 b2 b3 b4 b5 b6 b7 b8 b9 th mk us fi se ki va li ct od ne ro) sz) (wM cI cZ hm b1 b2 b3 b4 b5 b6 b7 b8 b9 th' mk us fi se ki va li' ct od ne ro)) (va_A (wM cI cZ hm b1 b2 b3 b4 b5 b6 b7 b8 b9 th mk us fi se ki va li ct od ne ro) sz)) 0 0 (va_A (wM cI cZ hm b1 b2 b3 b4 b5 b6 b7 b8 b9 th mk us fi se ki va li ct od ne ro) sz) := by
  refine Met.ofW (cc := cX1_alive) (maxL := 1) (ret := (some .int)) (by decide) rfl ?_
  intro p e s m args below meth c s₁ B hml hv
  obtain ⟨rfl, hsz, hP, hK, hD0⟩ := hv
  have hx := B.exec
  have hb := B.bytes
  have hr := B.returns
  have hts := atoms_spec (ws := wsX1_alive) B.pre
  have hown : s.vm.findClass RX1 = some m.cls := findClass_of_methodNamed B.named
  subst hsz
  have hD := hD0.self (sz := s.heap.size)
  generalize hAe : va_A (wM cI cZ hm b1 b2 b3 b4 b5 b6 b7 b8 b9 th mk us fi se ki va li ct od ne ro) s.heap.size = A at hD ⊢
  have hA : ∀ q : Nat, s.heap.size ≤ q → A q := fun q h => by rw [← hAe]; exact Or.inr h
  have hS : va_S A s.heap s.heap [] := va_S.rf
  have hl := lv_entry ([.ref hm]) (n := 1) (Nat.le_of_ble_eq_true rfl)
  rw [lg_entry_eq]
  generalize (lg_sl ([.ref hm]) ++ List.replicate (1 - (lg_sl ([.ref hm])).length) Slot.unset).toArray = ls at hl ⊢
  have hl : lv_has ls 1 [(0, .ref hm)] := hl
  unfold fX1_alive at hf
  refine lv_aload_n hx hb dX1_alive_0 rfl (lv_at hl 0 rfl) ?_
  refine lv_iconst (v := (0 : Int32)) hx hb dX1_alive_1 (by decide) ?_
  refine va_put (D := (dC, dI)) (ci := 1) (v := .int (0 : Int32)) (ty := .int) (C := RX1) (T := TX1) (N := 12) hx hb hts (fun w hw => List.mem_cons_of_mem _ (inX1 w hw)) tyX1 tyX1_ok nmX1 hown hK hP hD hS 0 rfl rfl 0 (by decide) (hts _ (List.mem_cons_of_mem _ mw_444)) (fun _ h9 => h9) rfl (by decide +kernel) rfl rfl (Nat.le_of_ble_eq_true rfl) dX1_alive_2 (fun H locs hP hD hS => ?_)
  have hP : va_P (dC, dI) vwCl (wM cI cZ hm b1 b2 b3 b4 b5 b6 b7 b8 b9 (0 : Int32) mk us fi se ki va li ct od ne ro) _ := hP
  have hD : va_D A (wM cI cZ hm b1 b2 b3 b4 b5 b6 b7 b8 b9 (0 : Int32) mk us fi se ki va li ct od ne ro) := hD
  refine lv_aload_n hx hb dX1_alive_5 rfl (lv_at hl 0 rfl) ?_
  obtain ⟨li_1, hv, hf⟩ := bd hf
  refine q_cv (wr := []) (va_runV (As := []) (rest := []) ⟨hx, hb, hml, hown, hts⟩ (ctX1_findAlive l dC dI cI cZ cL hm b1 b2 b3 b4 b5 b6 b7 b8 b9 _ (0 : Int32) mk us fi se ki va li ct od ne ro li_1 hv) (cwV 0 hts (gV mw_502 mw_504 mw_26 mw_40 mw_505) rfl rfl rfl (by decide +kernel) ⟨Nat.le_of_ble_eq_true rfl, Nat.le_of_ble_eq_true rfl⟩) (q_preV [] hK hP hD [0, 1, 2, 3, 4, 5, 6, 7, 8, 9] (by decide) rfl (ci := 1) rfl rfl) rfl rfl hl.1 rfl (lv_room (Nat.le_of_ble_eq_true rfl)) dX1_alive_6 ⟨Nat.le_of_ble_eq_true rfl, Nat.le_of_ble_eq_true rfl⟩) hP hD hS hA [0, 1, 2, 3, 4, 5, 6, 7, 8, 9] [] rfl rfl (by decide) (by decide) (fun H locs hP hD hS => ?_)
  have hP : va_P (dC, dI) vwCl (wM cI cZ hm b1 b2 b3 b4 b5 b6 b7 b8 b9 (0 : Int32) mk us fi se ki va li_1 ct od ne ro) _ := hP
  have hD : va_D A (wM cI cZ hm b1 b2 b3 b4 b5 b6 b7 b8 b9 (0 : Int32) mk us fi se ki va li_1 ct od ne ro) := hD
  refine lv_aload_n hx hb dX1_alive_9 rfl (lv_at hl 0 rfl) ?_
  obtain ⟨v2, hv, hf⟩ := bd hf
  refine q_ci (wr := []) (va_runV (As := []) (rest := []) ⟨hx, hb, hml, hown, hts⟩ (ctX1_countAlive l dC dI cI cZ cL hm b1 b2 b3 b4 b5 b6 b7 b8 b9 _ (0 : Int32) mk us fi se ki va li_1 ct od ne ro v2 hv) (cwV 0 hts (gV mw_510 mw_512 mw_28 mw_40 mw_513) rfl rfl rfl (by decide +kernel) ⟨Nat.le_of_ble_eq_true rfl, Nat.le_of_ble_eq_true rfl⟩) (q_preV [] hK hP hD [0, 1, 2, 3, 4, 5, 6, 7, 8, 9] (by decide) rfl (ci := 1) rfl rfl) rfl rfl hl.1 rfl (lv_room (Nat.le_of_ble_eq_true rfl)) dX1_alive_10 ⟨Nat.le_of_ble_eq_true rfl, Nat.le_of_ble_eq_true rfl⟩) hP hD hS hA [0, 1, 2, 3, 4, 5, 6, 7, 8, 9] [] rfl rfl (by decide) (by decide) (fun H locs hP hD hS => ?_)
  have hP : va_P (dC, dI) vwCl (wM cI cZ hm b1 b2 b3 b4 b5 b6 b7 b8 b9 (0 : Int32) mk us fi se ki va li_1 ct od ne ro) _ := hP
  have hD : va_D A (wM cI cZ hm b1 b2 b3 b4 b5 b6 b7 b8 b9 (0 : Int32) mk us fi se ki va li_1 ct od ne ro) := hD
  have hg0 := Option.some.inj hf
  obtain ⟨hq1, hg1⟩ := Prod.mk.inj hg0
  subst hq1
  obtain ⟨hq2, hg2⟩ := Prod.mk.inj hg1
  subst hq2
  subst hg2
  exact W.iret hx hb hr (fun t ht hW => ⟨⟨_, (), rfl, rfl, by rw [ht]; exact hP, va_K.moved hW.alike hK, hD⟩, hS.F ht⟩) hS.2.2 dX1_alive_13
