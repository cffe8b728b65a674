set_option maxHeartbeats 4000000 in
set_option maxRecDepth 100000 in
/-- from the entry, for every script of at most 2560 ints, the law comes to its end with true -/
theorem whole_start {p : Program} {e : Env} {s : State} {m : MethodId} {below : List Frame} {meth : Method} {c : Code} (l : Launch) (hlt : l.stackTraces = false) {b L : Nat} {xs : Nat → Int32} (hL : L ≤ 2560) (C0 : lw_At p s m meth c b L xs) : W p l e room_1 s m #[Value.ref b] below meth c s.heap [] 0 0 (lw_Z below #[Value.ref b] s) (entryFrame m ([Value.ref b] : List Value).toArray 7) := by
  obtain ⟨hx, hb, hr, hml, hown, hts0, hX, hbl, hlk, hgv⟩ := C0
  replace hb : c.code = cL_law := hb
  replace hown : s.vm.findClass RL = some m.cls := hown
  have hts : ∀ w ∈ wsL_law, w.before #[Value.ref b] s = true := fun w hw => (List.mem_cons.mp hw).elim (fun q => q ▸ hts0 _ (BG_in _ mw_38)) (fun q => hts0 w (BG_in w q))
  obtain ⟨dC, dI, cI, cZ, cL, hK⟩ := st_K hts0
  obtain ⟨r', hf0, hr0⟩ := st_0
  obtain ⟨ro', hf1, hr1⟩ := st_1
  have hT := st_T hts0 hgv
  have hN := st_N hts0
  have hC := st_C hgv
  have hZ0 := st_Z hts0 hgv
  have hbA : ¬ (fun q => s.heap.size ≤ q) b := fun h => absurd hbl (Nat.not_lt.mpr h)
  have hA : ∀ q : Nat, s.heap.size ≤ q → (fun q => s.heap.size ≤ q) q := fun q h => h
  have hS : va_S (fun q => s.heap.size ≤ q) s.heap s.heap [] := va_S.rf
  have hF : ∀ q, (fun q => s.heap.size ≤ q) q → s.heap.size ≤ q := fun q h => h
  generalize (fun q : Nat => s.heap.size ≤ q) = A at hZ0 hbA hA hS hF
  have hP : va_P (dC, dI) vwCl [] s.heap := fun k q hq => by cases hq
  have hD : va_D A [] := ⟨fun i j x y hq => (by cases hq), fun k q hq => (by cases hq)⟩
  have hl := lv_entry ([.ref b]) (n := 7) (Nat.le_of_ble_eq_true rfl)
  rw [lg_entry_eq]
  generalize (lg_sl ([.ref b]) ++ List.replicate (7 - (lg_sl ([.ref b])).length) Slot.unset).toArray = ls at hl ⊢
  have hl : lv_has ls 7 [(0, .ref b)] := hl
  refine va_new (ci := 0) (fs := [.null, .null, .null, .null, .null, .int (0 : Int32), .int (0 : Int32), .int (0 : Int32), .int (0 : Int32)]) (C := RX0) (T := TX0) (N := 9) hx hb hts (fun w hw => List.mem_cons_of_mem _ (inX0 w hw)) tyX0 tyX0_ok hown (hts0 _ (lwi 50 (by decide +kernel))) (hts0 _ (lwi 51 (by decide +kernel))) (hts0 _ (BG_in _ mw_38)) hK hP hD hS hA rfl (by decide +kernel) (Nat.le_of_ble_eq_true rfl) (Nat.le_of_ble_eq_true rfl) dL_law_0 (fun h H hP hD hS => ?_)
  have hP : va_P (dC, dI) vwCl [(h, .inr (0, [.null, .null, .null, .null, .null, .int (0 : Int32), .int (0 : Int32), .int (0 : Int32), .int (0 : Int32)]))] H := hP
  have hD : va_D A [(h, .inr (0, [.null, .null, .null, .null, .null, .int (0 : Int32), .int (0 : Int32), .int (0 : Int32), .int (0 : Int32)]))] := hD
  refine lv_dup hx hb dL_law_3 rfl ?_
  refine q_cvu (wr := []) (va_runI (As := []) (rest := [.ref h]) ⟨hx, hb, hml, hown, hts⟩ (ctX0_init l dC dI cI cZ cL h H.size r' hf0) (cwI 0 hts (gBG mw_54) rfl rfl rfl (hts0 _ (BG_in _ mw_38)) (hts0 _ (lwi 52 (by decide +kernel))) (hts0 _ (lwi 53 (by decide +kernel))) rfl (by decide +kernel) ⟨Nat.le_of_ble_eq_true rfl, Nat.le_of_ble_eq_true rfl⟩) (q_preS [.ref h] hK hP hD [0] rfl rfl) rfl rfl hl.1 rfl (lv_room (Nat.le_of_ble_eq_true rfl)) dL_law_4 ⟨Nat.le_of_ble_eq_true rfl, Nat.le_of_ble_eq_true rfl⟩) hP hD hS hA [0] [] rfl rfl rfl (by decide) (fun u H locs hP hD hS => ?_)
  obtain ⟨a1, a2, a3, a4, a5⟩ := u
  have hP : va_P (dC, dI) vwCl (wX cI h a1 a2 a3 a4 a5 (fun _ => (0 : Int32)) r' (fun _ => (0 : Int32)) (fun _ => (0 : Int32)) (fun _ => (0 : Int32)) (0 : Int32) (0 : Int32) (0 : Int32) (0 : Int32)) H := hP
  have hD : va_D A (wX cI h a1 a2 a3 a4 a5 (fun _ => (0 : Int32)) r' (fun _ => (0 : Int32)) (fun _ => (0 : Int32)) (fun _ => (0 : Int32)) (0 : Int32) (0 : Int32) (0 : Int32) (0 : Int32)) := hD
  refine lv_astore_n hx hb dL_law_7 rfl hl (by decide) rfl (fun ls hl => ?_)
  refine va_new (ci := 1) (fs := [.int (0 : Int32), .int (0 : Int32), .null, .null, .null, .null, .null, .null, .int (0 : Int32), .null, .null, .null]) (C := RX1) (T := TX1) (N := 12) hx hb hts (fun w hw => List.mem_cons_of_mem _ (inX1 w hw)) tyX1 tyX1_ok hown (hts0 _ (lwi 438 (by decide +kernel))) (hts0 _ (lwi 439 (by decide +kernel))) (hts0 _ (BG_in _ mw_40)) hK hP hD hS hA rfl (by decide +kernel) (Nat.le_of_ble_eq_true rfl) (Nat.le_of_ble_eq_true rfl) dL_law_8 (fun hm H hP hD hS => ?_)
  refine lv_dup hx hb dL_law_11 rfl ?_
  refine q_cvu (wr := wX cI h a1 a2 a3 a4 a5 (fun _ => (0 : Int32)) r' (fun _ => (0 : Int32)) (fun _ => (0 : Int32)) (fun _ => (0 : Int32)) (0 : Int32) (0 : Int32) (0 : Int32) (0 : Int32)) (va_runI (As := []) (rest := [.ref hm]) ⟨hx, hb, hml, hown, hts⟩ (ctX1_init l dC dI cI cZ cL hm H.size ro' hf1) (cwI 0 hts (gBG mw_442) rfl rfl rfl (hts0 _ (BG_in _ mw_40)) (hts0 _ (lwi 440 (by decide +kernel))) (hts0 _ (lwi 441 (by decide +kernel))) rfl (by decide +kernel) ⟨Nat.le_of_ble_eq_true rfl, Nat.le_of_ble_eq_true rfl⟩) (q_preS [.ref hm] hK hP hD [6] rfl rfl) rfl rfl hl.1 rfl (lv_room (Nat.le_of_ble_eq_true rfl)) dL_law_12 ⟨Nat.le_of_ble_eq_true rfl, Nat.le_of_ble_eq_true rfl⟩) hP hD hS hA [6] [0, 1, 2, 3, 4, 5] rfl rfl rfl (by decide) (fun u H locs hP hD hS => ?_)
  obtain ⟨b1, b2, b3, b4, b5, b6, b7, b8, b9⟩ := u
  dsimp only at hP hD
  refine lv_astore_n hx hb dL_law_15 rfl hl (by decide) rfl (fun ls hl => ?_)
  refine lv_iconst (v := (1 : Int32)) hx hb dL_law_16 (by decide) ?_
  refine va_newa (atype := .long) (a0 := (1, .inr (.inl (fun _ => (0 : Int64))))) hx hb (hts0 _ (lwi 608 (by decide +kernel))) rfl hK hP hD hS hA (fun cA => rfl) (by decide) (by decide) (by decide) (Nat.le_of_ble_eq_true rfl) (Nat.le_of_ble_eq_true rfl) dL_law_17 (fun oa cA H hK2 hP hD hS => ?_)
  have hcA : cL = cA := Option.some.inj (((hK.2 2 _ rfl).2 : s.vm.findClass ("[" ++ FieldType.long.toString) = some cL).symm.trans (hK2.2 3 _ rfl).2)
  subst hcA
  refine lv_astore_n hx hb dL_law_19 rfl hl (by decide) rfl (fun ls hl => ?_)
  refine lv_iconst (v := (0 : Int32)) hx hb dL_law_20 (by decide) ?_
  refine lv_istore hx hb dL_law_21 hl (by decide) rfl (fun ls hl => ?_)
  have hl : lv_has ls 7 [(4, .int (0 : Int32)), (3, .ref oa), (2, .ref hm), (1, .ref h), (0, .ref b)] := hl
  have hP : va_P (dC, dI) vwCl (wL cI cZ cL h a1 a2 a3 a4 a5 hm b1 b2 b3 b4 b5 b6 b7 b8 b9 oa (fun _ => (0 : Int32)) r' (fun _ => (0 : Int32)) (fun _ => (0 : Int32)) (fun _ => (0 : Int32)) (0 : Int32) (0 : Int32) (0 : Int32) (0 : Int32) (0 : Int32) (0 : Int32) (fun _ => (0 : Int32)) (fun _ => (0 : Int32)) (fun _ => (0 : Int32)) (fun _ => (0 : Int32)) (fun _ => (0 : Int32)) (fun _ => (0 : Int32)) (0 : Int32) (fun _ => (0 : Int32)) (fun _ => (0 : Int32)) ro' (fun _ => (0 : Int64))) H := hP
  have hD : va_D A (wL cI cZ cL h a1 a2 a3 a4 a5 hm b1 b2 b3 b4 b5 b6 b7 b8 b9 oa (fun _ => (0 : Int32)) r' (fun _ => (0 : Int32)) (fun _ => (0 : Int32)) (fun _ => (0 : Int32)) (0 : Int32) (0 : Int32) (0 : Int32) (0 : Int32) (0 : Int32) (0 : Int32) (fun _ => (0 : Int32)) (fun _ => (0 : Int32)) (fun _ => (0 : Int32)) (fun _ => (0 : Int32)) (fun _ => (0 : Int32)) (fun _ => (0 : Int32)) (0 : Int32) (fun _ => (0 : Int32)) (fun _ => (0 : Int32)) ro' (fun _ => (0 : Int64))) := hD
  obtain ⟨y0, y1, y2, y3, y4, y5, y6, y7, y8, y9, y10, y11, y12, y13, y14, y15, y16, y17, y18, y19, y20, y21, y22, hf⟩ := law_ok xs L hL 513 0 (fun _ => (0 : Int32)) r' (fun _ => (0 : Int32)) (fun _ => (0 : Int32)) (fun _ => (0 : Int32)) (0 : Int32) (0 : Int32) (0 : Int32) (0 : Int32) (0 : Int32) (0 : Int32) (fun _ => (0 : Int32)) (fun _ => (0 : Int32)) (fun _ => (0 : Int32)) (fun _ => (0 : Int32)) (fun _ => (0 : Int32)) (fun _ => (0 : Int32)) (0 : Int32) (fun _ => (0 : Int32)) (fun _ => (0 : Int32)) ro' (fun _ => (0 : Int64)) (by omega) (by omega) (by omega) (Sim_0 hr0 hr1)
  refine wL_law hlt dC dI cI cZ cL h a1 a2 a3 a4 a5 hm b1 b2 b3 b4 b5 b6 b7 b8 b9 oa hx hb hml hown hts hK hA hX hbl hbA hZ0 hT hN hC 513 _ _ _ _ _ _ _ _ _ _ _ _ _ _ _ _ _ _ _ _ _ _ _ _ _ _ _ _ _ _ _ _ _ _ _ _ _ _ _ _ _ _ _ _ _ _ hf H locs ls _ _ (by omega) (by omega) hP hD hS (lv_sub hl [4, 3, 2, 1, 0] rfl) (fun H locs ls cells slots hc hs hP hD hS hl => ?_)
  refine lv_iconst (v := (1 : Int32)) hx hb dL_law_916 (by decide) ?_
  refine va_forget (fun q hq => hF _ (hS.2.2 q hq)) ?_
  refine W.widen (k := 1050) (n := 11356) (by omega) (by omega) ?_
  exact lw_ret hx hb hr hlk dL_law_917
