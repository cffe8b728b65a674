theorem q_sameI {D : va_G} {cl : List vw_C} {cI cZ cL cA : ClassId} {s : State} (hK : va_K D cl (tyA cI cZ cL) s) (h2 : va_K D cl (tyA cI cZ cL ++ [(cA, .int)]) s) : cA = cI := by
  have a : s.vm.findClass ("[" ++ FieldType.int.toString) = some cI := (hK.2 0 _ rfl).2
  have b : s.vm.findClass ("[" ++ FieldType.int.toString) = some cA := (h2.2 3 _ rfl).2
  exact Option.some.inj (b.symm.trans a)
theorem q_sameZ {D : va_G} {cl : List vw_C} {cI cZ cL cA : ClassId} {s : State} (hK : va_K D cl (tyA cI cZ cL) s) (h2 : va_K D cl (tyA cI cZ cL ++ [(cA, .boolean)]) s) : cA = cZ := by
  have a : s.vm.findClass ("[" ++ FieldType.boolean.toString) = some cZ := (hK.2 1 _ rfl).2
  have b : s.vm.findClass ("[" ++ FieldType.boolean.toString) = some cA := (h2.2 3 _ rfl).2
  exact Option.some.inj (b.symm.trans a)
theorem mw_55 : (Jvm.Cond.methodLink "ThreeCompactors" (3 : Nat) ({ cls := "java/lang/Object", name := "<init>", desc := "()V" } : Jvm.MethodName)) ∈ BG := List.mem_filter.mpr ⟨List.mem_of_getElem? (i := 55) (by decide +kernel), by decide +kernel⟩
theorem mw_56 : (Jvm.Cond.instanceMethod ({ cls := "java/lang/Object", name := "<init>", desc := "()V" } : Jvm.MethodName)) ∈ BG := List.mem_filter.mpr ⟨List.mem_of_getElem? (i := 56) (by decide +kernel), by decide +kernel⟩
theorem mw_57 : (Jvm.Cond.code ({ cls := "java/lang/Object", name := "<init>", desc := "()V" } : Jvm.MethodName) object_method_1_code (1 : Nat) (Option.none : Option Jvm.ClassFile.FieldType)) ∈ BG := List.mem_filter.mpr ⟨List.mem_of_getElem? (i := 57) (by decide +kernel), by decide +kernel⟩
theorem mw_89 : (Jvm.Cond.arrayClass Jvm.ClassFile.FieldType.int) ∈ BG := List.mem_filter.mpr ⟨List.mem_of_getElem? (i := 89) (by decide +kernel), by decide +kernel⟩
theorem mw_443 : (Jvm.Cond.methodLink "ThreeCompactorsModel" (1 : Nat) ({ cls := "java/lang/Object", name := "<init>", desc := "()V" } : Jvm.MethodName)) ∈ BG := List.mem_filter.mpr ⟨List.mem_of_getElem? (i := 443) (by decide +kernel), by decide +kernel⟩
theorem mw_481 : (Jvm.Cond.arrayClass Jvm.ClassFile.FieldType.boolean) ∈ BG := List.mem_filter.mpr ⟨List.mem_of_getElem? (i := 481) (by decide +kernel), by decide +kernel⟩
abbrev cX0_init : ByteArray := prog_1_method_1_code
abbrev yX0_init : MethodName := ⟨"ThreeCompactors", "<init>", "()V"⟩
abbrev wsX0_init : List Cond := .code yX0_init cX0_init 1 (none) :: BG
abbrev rmX0_init : Room := { frames := 3, cells := 5, slots := 776, locals := 60 }
theorem dX0_init_0 : decode cX0_init 0 = .ok (.aload_n 0, 1) := by decide +kernel
theorem dX0_init_1 : decode cX0_init 1 = .ok (.invokespecial 3, 3) := by decide +kernel
theorem dX0_init_4 : decode cX0_init 4 = .ok (.aload_n 0, 1) := by decide +kernel
theorem dX0_init_5 : decode cX0_init 5 = .ok (.sipush 256, 3) := by decide +kernel
theorem dX0_init_8 : decode cX0_init 8 = .ok (.newarray .int, 2) := by decide +kernel
theorem dX0_init_10 : decode cX0_init 10 = .ok (.putfield 9, 3) := by decide +kernel
theorem dX0_init_13 : decode cX0_init 13 = .ok (.aload_n 0, 1) := by decide +kernel
theorem dX0_init_14 : decode cX0_init 14 = .ok (.bipush 8, 2) := by decide +kernel
theorem dX0_init_16 : decode cX0_init 16 = .ok (.newarray .int, 2) := by decide +kernel
theorem dX0_init_18 : decode cX0_init 18 = .ok (.putfield 13, 3) := by decide +kernel
theorem dX0_init_21 : decode cX0_init 21 = .ok (.aload_n 0, 1) := by decide +kernel
theorem dX0_init_22 : decode cX0_init 22 = .ok (.sipush 128, 3) := by decide +kernel
theorem dX0_init_25 : decode cX0_init 25 = .ok (.newarray .int, 2) := by decide +kernel
theorem dX0_init_27 : decode cX0_init 27 = .ok (.putfield 16, 3) := by decide +kernel
theorem dX0_init_30 : decode cX0_init 30 = .ok (.aload_n 0, 1) := by decide +kernel
theorem dX0_init_31 : decode cX0_init 31 = .ok (.sipush 128, 3) := by decide +kernel
theorem dX0_init_34 : decode cX0_init 34 = .ok (.newarray .int, 2) := by decide +kernel
theorem dX0_init_36 : decode cX0_init 36 = .ok (.putfield 19, 3) := by decide +kernel
theorem dX0_init_39 : decode cX0_init 39 = .ok (.aload_n 0, 1) := by decide +kernel
theorem dX0_init_40 : decode cX0_init 40 = .ok (.sipush 256, 3) := by decide +kernel
theorem dX0_init_43 : decode cX0_init 43 = .ok (.newarray .int, 2) := by decide +kernel
theorem dX0_init_45 : decode cX0_init 45 = .ok (.putfield 22, 3) := by decide +kernel
theorem dX0_init_48 : decode cX0_init 48 = .ok (.aload_n 0, 1) := by decide +kernel
theorem dX0_init_49 : decode cX0_init 49 = .ok (.getfield 13, 3) := by decide +kernel
theorem dX0_init_52 : decode cX0_init 52 = .ok (.iconst (-1), 1) := by decide +kernel
theorem dX0_init_53 : decode cX0_init 53 = .ok (.invokestatic 25, 3) := by decide +kernel
theorem dX0_init_56 : decode cX0_init 56 = .ok (.return_, 1) := by decide +kernel
def fX0_init : Option (Nat → Int32) :=
  (fXA_fill 8 ((fun _ => (0 : Int32))) (-1 : Int32)).bind fun r_1 =>
  some r_1
set_option maxHeartbeats 4000000 in
set_option maxRecDepth 100000 in
theorem ctX0_init (l : Launch) (dC : Nat → ClassId) (dI : Nat → Nat → Nat) (cI cZ cL : ClassId) (h : Nat) (sz : Nat) (r' : Nat → Int32) (hf : fX0_init = some r') : Met l yX0_init wsX0_init rmX0_init (va_Pc [.ref h] (q_pre (dC, dI) vwCl (tyA cI cZ cL) sz [(h, .inr (0, [.null, .null, .null, .null, .null, .int (0 : Int32), .int (0 : Int32), .int (0 : Int32), .int (0 : Int32)]))])) (va_Qv (fun (_ : Nat × Nat × Nat × Nat × Nat) => True) (fun u => q_post (dC, dI) vwCl (tyA cI cZ cL) (va_A [(h, .inr (0, [.null, .null, .null, .null, .null, .int (0 : Int32), .int (0 : Int32), .int (0 : Int32), .int (0 : Int32)]))] sz) (wX cI h (u.1) (u.2.1) (u.2.2.1) (u.2.2.2.1) (u.2.2.2.2) (fun _ => (0 : Int32)) r' (fun _ => (0 : Int32)) (fun _ => (0 : Int32)) (fun _ => (0 : Int32)) (0 : Int32) (0 : Int32) (0 : Int32) (0 : Int32))) (va_A [(h, .inr (0, [.null, .null, .null, .null, .null, .int (0 : Int32), .int (0 : Int32), .int (0 : Int32), .int (0 : Int32)]))] sz)) 5 776 (va_A [(h, .inr (0, [.null, .null, .null, .null, .null, .int (0 : Int32), .int (0 : Int32), .int (0 : Int32), .int (0 : Int32)]))] sz) := by
  refine Met.ofW (cc := cX0_init) (maxL := 1) (ret := none) (by decide) rfl ?_
  intro p e s m args below meth c s₁ B hml hv
  obtain ⟨rfl, hsz, hP, hK, hD0⟩ := hv
  have hx := B.exec
  have hb := B.bytes
  have hr := B.returns
  have hts := atoms_spec (ws := wsX0_init) B.pre
  have hown : s.vm.findClass RX0 = some m.cls := findClass_of_methodNamed B.named
  have hin : meth.name = "<init>" := (name_of_methodNamed B.named B.method).1
  subst hsz
  have hD := hD0.self (sz := s.heap.size)
  generalize hAe : va_A [(h, .inr (0, [.null, .null, .null, .null, .null, .int (0 : Int32), .int (0 : Int32), .int (0 : Int32), .int (0 : Int32)]))] s.heap.size = A at hD ⊢
  have hA : ∀ q : Nat, s.heap.size ≤ q → A q := fun q h => by rw [← hAe]; exact Or.inr h
  have hS : va_S A s.heap s.heap [] := va_S.rf
  have hl := lv_entry ([.ref h]) (n := 1) (Nat.le_of_ble_eq_true rfl)
  rw [lg_entry_eq]
  generalize (lg_sl ([.ref h]) ++ List.replicate (1 - (lg_sl ([.ref h])).length) Slot.unset).toArray = ls at hl ⊢
  have hl : lv_has ls 1 [(0, .ref h)] := hl
  unfold fX0_init at hf
  refine lv_aload_n hx hb dX0_init_0 rfl (lv_at hl 0 rfl) ?_
  refine W.objInit hx hb hown (hts _ (List.mem_cons_of_mem _ mw_55)) (hts _ (List.mem_cons_of_mem _ mw_56)) (hts _ (List.mem_cons_of_mem _ mw_57)) rfl (by rw [hml]; exact hl.1) rfl dX0_init_1 (Nat.le_of_ble_eq_true rfl) (Nat.le_of_ble_eq_true rfl) ?_
  refine W.eq (g2 := F0 m 4 ls []) rfl ?_
  refine lv_aload_n hx hb dX0_init_4 rfl (lv_at hl 0 rfl) ?_
  refine lv_sipush (v := (256 : Int32)) hx hb dX0_init_5 (by decide) ?_
  refine va_newa (atype := .int) (a0 := (256, .inl (fun _ => (0 : Int32)))) hx hb (hts _ (List.mem_cons_of_mem _ mw_89)) rfl hK hP hD hS hA (fun cA => rfl) (by decide) (by decide) (by decide) (Nat.le_of_ble_eq_true rfl) (Nat.le_of_ble_eq_true rfl) dX0_init_8 (fun a1 cA H hK2 hP hD hS => ?_)
  have hcA : cI = cA := (q_sameI hK hK2).symm
  subst hcA
  have hP : va_P (dC, dI) vwCl [(h, .inr (0, [.null, .null, .null, .null, .null, .int (0 : Int32), .int (0 : Int32), .int (0 : Int32), .int (0 : Int32)])), (a1, .inl (cI, 256, .inl (fun _ => (0 : Int32))))] _ := hP
  have hD : va_D A [(h, .inr (0, [.null, .null, .null, .null, .null, .int (0 : Int32), .int (0 : Int32), .int (0 : Int32), .int (0 : Int32)])), (a1, .inl (cI, 256, .inl (fun _ => (0 : Int32))))] := hD
  refine va_putF (D := (dC, dI)) (ci := 0) (v := .ref a1) (ty := .array .int) (C := RX0) (T := TX0) (N := 9) hx hb hts (fun w hw => List.mem_cons_of_mem _ (inX0 w hw)) tyX0 tyX0_ok nmX0 hown hK hP hD hS 0 rfl rfl 0 (by decide) (hts _ (List.mem_cons_of_mem _ mw_61)) (fun _ h9 => h9) rfl hin rfl (by decide +kernel) rfl rfl (Nat.le_of_ble_eq_true rfl) dX0_init_10 (fun H locs hP hD hS => ?_)
  have hP : va_P (dC, dI) vwCl [(h, .inr (0, [.ref a1, .null, .null, .null, .null, .int (0 : Int32), .int (0 : Int32), .int (0 : Int32), .int (0 : Int32)])), (a1, .inl (cI, 256, .inl (fun _ => (0 : Int32))))] _ := hP
  have hD : va_D A [(h, .inr (0, [.ref a1, .null, .null, .null, .null, .int (0 : Int32), .int (0 : Int32), .int (0 : Int32), .int (0 : Int32)])), (a1, .inl (cI, 256, .inl (fun _ => (0 : Int32))))] := hD
  refine lv_aload_n hx hb dX0_init_13 rfl (lv_at hl 0 rfl) ?_
  refine lv_bipush (v := (8 : Int32)) hx hb dX0_init_14 (by decide) ?_
  refine va_newa (atype := .int) (a0 := (8, .inl (fun _ => (0 : Int32)))) hx hb (hts _ (List.mem_cons_of_mem _ mw_89)) rfl hK hP hD hS hA (fun cA => rfl) (by decide) (by decide) (by decide) (Nat.le_of_ble_eq_true rfl) (Nat.le_of_ble_eq_true rfl) dX0_init_16 (fun a2 cA H hK2 hP hD hS => ?_)
  have hcA : cI = cA := (q_sameI hK hK2).symm
  subst hcA
  have hP : va_P (dC, dI) vwCl [(h, .inr (0, [.ref a1, .null, .null, .null, .null, .int (0 : Int32), .int (0 : Int32), .int (0 : Int32), .int (0 : Int32)])), (a1, .inl (cI, 256, .inl (fun _ => (0 : Int32)))), (a2, .inl (cI, 8, .inl (fun _ => (0 : Int32))))] _ := hP
  have hD : va_D A [(h, .inr (0, [.ref a1, .null, .null, .null, .null, .int (0 : Int32), .int (0 : Int32), .int (0 : Int32), .int (0 : Int32)])), (a1, .inl (cI, 256, .inl (fun _ => (0 : Int32)))), (a2, .inl (cI, 8, .inl (fun _ => (0 : Int32))))] := hD
  refine va_putF (D := (dC, dI)) (ci := 0) (v := .ref a2) (ty := .array .int) (C := RX0) (T := TX0) (N := 9) hx hb hts (fun w hw => List.mem_cons_of_mem _ (inX0 w hw)) tyX0 tyX0_ok nmX0 hown hK hP hD hS 0 rfl rfl 1 (by decide) (hts _ (List.mem_cons_of_mem _ mw_62)) (fun _ h9 => h9) rfl hin rfl (by decide +kernel) rfl rfl (Nat.le_of_ble_eq_true rfl) dX0_init_18 (fun H locs hP hD hS => ?_)
  have hP : va_P (dC, dI) vwCl [(h, .inr (0, [.ref a1, .ref a2, .null, .null, .null, .int (0 : Int32), .int (0 : Int32), .int (0 : Int32), .int (0 : Int32)])), (a1, .inl (cI, 256, .inl (fun _ => (0 : Int32)))), (a2, .inl (cI, 8, .inl (fun _ => (0 : Int32))))] _ := hP
  have hD : va_D A [(h, .inr (0, [.ref a1, .ref a2, .null, .null, .null, .int (0 : Int32), .int (0 : Int32), .int (0 : Int32), .int (0 : Int32)])), (a1, .inl (cI, 256, .inl (fun _ => (0 : Int32)))), (a2, .inl (cI, 8, .inl (fun _ => (0 : Int32))))] := hD
  refine lv_aload_n hx hb dX0_init_21 rfl (lv_at hl 0 rfl) ?_
  refine lv_sipush (v := (128 : Int32)) hx hb dX0_init_22 (by decide) ?_
  refine va_newa (atype := .int) (a0 := (128, .inl (fun _ => (0 : Int32)))) hx hb (hts _ (List.mem_cons_of_mem _ mw_89)) rfl hK hP hD hS hA (fun cA => rfl) (by decide) (by decide) (by decide) (Nat.le_of_ble_eq_true rfl) (Nat.le_of_ble_eq_true rfl) dX0_init_25 (fun a3 cA H hK2 hP hD hS => ?_)
  have hcA : cI = cA := (q_sameI hK hK2).symm
  subst hcA
  have hP : va_P (dC, dI) vwCl [(h, .inr (0, [.ref a1, .ref a2, .null, .null, .null, .int (0 : Int32), .int (0 : Int32), .int (0 : Int32), .int (0 : Int32)])), (a1, .inl (cI, 256, .inl (fun _ => (0 : Int32)))), (a2, .inl (cI, 8, .inl (fun _ => (0 : Int32)))), (a3, .inl (cI, 128, .inl (fun _ => (0 : Int32))))] _ := hP
  have hD : va_D A [(h, .inr (0, [.ref a1, .ref a2, .null, .null, .null, .int (0 : Int32), .int (0 : Int32), .int (0 : Int32), .int (0 : Int32)])), (a1, .inl (cI, 256, .inl (fun _ => (0 : Int32)))), (a2, .inl (cI, 8, .inl (fun _ => (0 : Int32)))), (a3, .inl (cI, 128, .inl (fun _ => (0 : Int32))))] := hD
  refine va_putF (D := (dC, dI)) (ci := 0) (v := .ref a3) (ty := .array .int) (C := RX0) (T := TX0) (N := 9) hx hb hts (fun w hw => List.mem_cons_of_mem _ (inX0 w hw)) tyX0 tyX0_ok nmX0 hown hK hP hD hS 0 rfl rfl 2 (by decide) (hts _ (List.mem_cons_of_mem _ mw_63)) (fun _ h9 => h9) rfl hin rfl (by decide +kernel) rfl rfl (Nat.le_of_ble_eq_true rfl) dX0_init_27 (fun H locs hP hD hS => ?_)
  have hP : va_P (dC, dI) vwCl [(h, .inr (0, [.ref a1, .ref a2, .ref a3, .null, .null, .int (0 : Int32), .int (0 : Int32), .int (0 : Int32), .int (0 : Int32)])), (a1, .inl (cI, 256, .inl (fun _ => (0 : Int32)))), (a2, .inl (cI, 8, .inl (fun _ => (0 : Int32)))), (a3, .inl (cI, 128, .inl (fun _ => (0 : Int32))))] _ := hP
  have hD : va_D A [(h, .inr (0, [.ref a1, .ref a2, .ref a3, .null, .null, .int (0 : Int32), .int (0 : Int32), .int (0 : Int32), .int (0 : Int32)])), (a1, .inl (cI, 256, .inl (fun _ => (0 : Int32)))), (a2, .inl (cI, 8, .inl (fun _ => (0 : Int32)))), (a3, .inl (cI, 128, .inl (fun _ => (0 : Int32))))] := hD
  refine lv_aload_n hx hb dX0_init_30 rfl (lv_at hl 0 rfl) ?_
  refine lv_sipush (v := (128 : Int32)) hx hb dX0_init_31 (by decide) ?_
  refine va_newa (atype := .int) (a0 := (128, .inl (fun _ => (0 : Int32)))) hx hb (hts _ (List.mem_cons_of_mem _ mw_89)) rfl hK hP hD hS hA (fun cA => rfl) (by decide) (by decide) (by decide) (Nat.le_of_ble_eq_true rfl) (Nat.le_of_ble_eq_true rfl) dX0_init_34 (fun a4 cA H hK2 hP hD hS => ?_)
  have hcA : cI = cA := (q_sameI hK hK2).symm
  subst hcA
  have hP : va_P (dC, dI) vwCl [(h, .inr (0, [.ref a1, .ref a2, .ref a3, .null, .null, .int (0 : Int32), .int (0 : Int32), .int (0 : Int32), .int (0 : Int32)])), (a1, .inl (cI, 256, .inl (fun _ => (0 : Int32)))), (a2, .inl (cI, 8, .inl (fun _ => (0 : Int32)))), (a3, .inl (cI, 128, .inl (fun _ => (0 : Int32)))), (a4, .inl (cI, 128, .inl (fun _ => (0 : Int32))))] _ := hP
  have hD : va_D A [(h, .inr (0, [.ref a1, .ref a2, .ref a3, .null, .null, .int (0 : Int32), .int (0 : Int32), .int (0 : Int32), .int (0 : Int32)])), (a1, .inl (cI, 256, .inl (fun _ => (0 : Int32)))), (a2, .inl (cI, 8, .inl (fun _ => (0 : Int32)))), (a3, .inl (cI, 128, .inl (fun _ => (0 : Int32)))), (a4, .inl (cI, 128, .inl (fun _ => (0 : Int32))))] := hD
  refine va_putF (D := (dC, dI)) (ci := 0) (v := .ref a4) (ty := .array .int) (C := RX0) (T := TX0) (N := 9) hx hb hts (fun w hw => List.mem_cons_of_mem _ (inX0 w hw)) tyX0 tyX0_ok nmX0 hown hK hP hD hS 0 rfl rfl 3 (by decide) (hts _ (List.mem_cons_of_mem _ mw_64)) (fun _ h9 => h9) rfl hin rfl (by decide +kernel) rfl rfl (Nat.le_of_ble_eq_true rfl) dX0_init_36 (fun H locs hP hD hS => ?_)
  have hP : va_P (dC, dI) vwCl [(h, .inr (0, [.ref a1, .ref a2, .ref a3, .ref a4, .null, .int (0 : Int32), .int (0 : Int32), .int (0 : Int32), .int (0 : Int32)])), (a1, .inl (cI, 256, .inl (fun _ => (0 : Int32)))), (a2, .inl (cI, 8, .inl (fun _ => (0 : Int32)))), (a3, .inl (cI, 128, .inl (fun _ => (0 : Int32)))), (a4, .inl (cI, 128, .inl (fun _ => (0 : Int32))))] _ := hP
  have hD : va_D A [(h, .inr (0, [.ref a1, .ref a2, .ref a3, .ref a4, .null, .int (0 : Int32), .int (0 : Int32), .int (0 : Int32), .int (0 : Int32)])), (a1, .inl (cI, 256, .inl (fun _ => (0 : Int32)))), (a2, .inl (cI, 8, .inl (fun _ => (0 : Int32)))), (a3, .inl (cI, 128, .inl (fun _ => (0 : Int32)))), (a4, .inl (cI, 128, .inl (fun _ => (0 : Int32))))] := hD
  refine lv_aload_n hx hb dX0_init_39 rfl (lv_at hl 0 rfl) ?_
  refine lv_sipush (v := (256 : Int32)) hx hb dX0_init_40 (by decide) ?_
  refine va_newa (atype := .int) (a0 := (256, .inl (fun _ => (0 : Int32)))) hx hb (hts _ (List.mem_cons_of_mem _ mw_89)) rfl hK hP hD hS hA (fun cA => rfl) (by decide) (by decide) (by decide) (Nat.le_of_ble_eq_true rfl) (Nat.le_of_ble_eq_true rfl) dX0_init_43 (fun a5 cA H hK2 hP hD hS => ?_)
  have hcA : cI = cA := (q_sameI hK hK2).symm
  subst hcA
  have hP : va_P (dC, dI) vwCl [(h, .inr (0, [.ref a1, .ref a2, .ref a3, .ref a4, .null, .int (0 : Int32), .int (0 : Int32), .int (0 : Int32), .int (0 : Int32)])), (a1, .inl (cI, 256, .inl (fun _ => (0 : Int32)))), (a2, .inl (cI, 8, .inl (fun _ => (0 : Int32)))), (a3, .inl (cI, 128, .inl (fun _ => (0 : Int32)))), (a4, .inl (cI, 128, .inl (fun _ => (0 : Int32)))), (a5, .inl (cI, 256, .inl (fun _ => (0 : Int32))))] _ := hP
  have hD : va_D A [(h, .inr (0, [.ref a1, .ref a2, .ref a3, .ref a4, .null, .int (0 : Int32), .int (0 : Int32), .int (0 : Int32), .int (0 : Int32)])), (a1, .inl (cI, 256, .inl (fun _ => (0 : Int32)))), (a2, .inl (cI, 8, .inl (fun _ => (0 : Int32)))), (a3, .inl (cI, 128, .inl (fun _ => (0 : Int32)))), (a4, .inl (cI, 128, .inl (fun _ => (0 : Int32)))), (a5, .inl (cI, 256, .inl (fun _ => (0 : Int32))))] := hD
  refine va_putF (D := (dC, dI)) (ci := 0) (v := .ref a5) (ty := .array .int) (C := RX0) (T := TX0) (N := 9) hx hb hts (fun w hw => List.mem_cons_of_mem _ (inX0 w hw)) tyX0 tyX0_ok nmX0 hown hK hP hD hS 0 rfl rfl 4 (by decide) (hts _ (List.mem_cons_of_mem _ mw_65)) (fun _ h9 => h9) rfl hin rfl (by decide +kernel) rfl rfl (Nat.le_of_ble_eq_true rfl) dX0_init_45 (fun H locs hP hD hS => ?_)
  have hP : va_P (dC, dI) vwCl [(h, .inr (0, [.ref a1, .ref a2, .ref a3, .ref a4, .ref a5, .int (0 : Int32), .int (0 : Int32), .int (0 : Int32), .int (0 : Int32)])), (a1, .inl (cI, 256, .inl (fun _ => (0 : Int32)))), (a2, .inl (cI, 8, .inl (fun _ => (0 : Int32)))), (a3, .inl (cI, 128, .inl (fun _ => (0 : Int32)))), (a4, .inl (cI, 128, .inl (fun _ => (0 : Int32)))), (a5, .inl (cI, 256, .inl (fun _ => (0 : Int32))))] _ := hP
  have hD : va_D A [(h, .inr (0, [.ref a1, .ref a2, .ref a3, .ref a4, .ref a5, .int (0 : Int32), .int (0 : Int32), .int (0 : Int32), .int (0 : Int32)])), (a1, .inl (cI, 256, .inl (fun _ => (0 : Int32)))), (a2, .inl (cI, 8, .inl (fun _ => (0 : Int32)))), (a3, .inl (cI, 128, .inl (fun _ => (0 : Int32)))), (a4, .inl (cI, 128, .inl (fun _ => (0 : Int32)))), (a5, .inl (cI, 256, .inl (fun _ => (0 : Int32))))] := hD
  have hP : va_P (dC, dI) vwCl (wX cI h a1 a2 a3 a4 a5 ((fun _ => (0 : Int32))) ((fun _ => (0 : Int32))) ((fun _ => (0 : Int32))) ((fun _ => (0 : Int32))) ((fun _ => (0 : Int32))) (0 : Int32) (0 : Int32) (0 : Int32) (0 : Int32)) _ := hP
  have hD : va_D A (wX cI h a1 a2 a3 a4 a5 ((fun _ => (0 : Int32))) ((fun _ => (0 : Int32))) ((fun _ => (0 : Int32))) ((fun _ => (0 : Int32))) ((fun _ => (0 : Int32))) (0 : Int32) (0 : Int32) (0 : Int32) (0 : Int32)) := hD
  refine lv_aload_n hx hb dX0_init_48 rfl (lv_at hl 0 rfl) ?_
  refine va_get (D := (dC, dI)) (ci := 0) (v := .ref a2) (C := RX0) (T := TX0) (N := 9) hx hb hts (fun w hw => List.mem_cons_of_mem _ (inX0 w hw)) hown hK hP 0 rfl rfl 1 (by decide) (hts _ (List.mem_cons_of_mem _ mw_62)) (fun _ h9 => h9) rfl dX0_init_49 ?_
  refine lv_iconst (v := (-1 : Int32)) hx hb dX0_init_52 (by decide) ?_
  obtain ⟨r_1, hv, hf⟩ := bd hf
  refine q_cv (wr := [(h, .inr (0, [.ref a1, .ref a2, .ref a3, .ref a4, .ref a5, .int (0 : Int32), .int (0 : Int32), .int (0 : Int32), .int (0 : Int32)])), (a1, .inl (cI, 256, .inl ((fun _ => (0 : Int32))))), (a3, .inl (cI, 128, .inl ((fun _ => (0 : Int32))))), (a4, .inl (cI, 128, .inl ((fun _ => (0 : Int32))))), (a5, .inl (cI, 256, .inl ((fun _ => (0 : Int32)))))]) (va_runS (As := [.ref a2, .int (-1 : Int32)]) (rest := []) ⟨hx, hb, hml, hown, hts⟩ (ctXA_fill l dC dI cI cZ cL a2 8 _ ((fun _ => (0 : Int32))) (-1 : Int32) r_1 hv) (va_cwS 2 hts (gS mw_58 mw_59 mw_39 mw_60) rfl rfl rfl (by decide +kernel) ⟨Nat.le_of_ble_eq_true rfl, Nat.le_of_ble_eq_true rfl⟩) (q_preS [.ref a2, .int (-1 : Int32)] hK hP hD [2] (by decide) rfl) rfl rfl hl.1 rfl (lv_room (Nat.le_of_ble_eq_true rfl)) dX0_init_53 ⟨Nat.le_of_ble_eq_true rfl, Nat.le_of_ble_eq_true rfl⟩) hP hD hS hA [2] [0, 1, 3, 4, 5] rfl rfl (by decide) (by decide) (fun H locs hP hD hS => ?_)
  have hP := hP.sub (ws' := (wX cI h a1 a2 a3 a4 a5 ((fun _ => (0 : Int32))) r_1 ((fun _ => (0 : Int32))) ((fun _ => (0 : Int32))) ((fun _ => (0 : Int32))) (0 : Int32) (0 : Int32) (0 : Int32) (0 : Int32))) [0, 1, 5, 2, 3, 4] rfl
  have hD := hD.sub (ws' := (wX cI h a1 a2 a3 a4 a5 ((fun _ => (0 : Int32))) r_1 ((fun _ => (0 : Int32))) ((fun _ => (0 : Int32))) ((fun _ => (0 : Int32))) (0 : Int32) (0 : Int32) (0 : Int32) (0 : Int32))) [0, 1, 5, 2, 3, 4] (by decide) rfl
  have hP : va_P (dC, dI) vwCl (wX cI h a1 a2 a3 a4 a5 ((fun _ => (0 : Int32))) r_1 ((fun _ => (0 : Int32))) ((fun _ => (0 : Int32))) ((fun _ => (0 : Int32))) (0 : Int32) (0 : Int32) (0 : Int32) (0 : Int32)) _ := hP
  have hD : va_D A (wX cI h a1 a2 a3 a4 a5 ((fun _ => (0 : Int32))) r_1 ((fun _ => (0 : Int32))) ((fun _ => (0 : Int32))) ((fun _ => (0 : Int32))) (0 : Int32) (0 : Int32) (0 : Int32) (0 : Int32)) := hD
  have hg0 := Option.some.inj hf
  subst hg0
  refine W.widen (k := 5) (n := 776) (by decide) (by decide) ?_
  exact W.vret hx hb hr (fun t ht hW => ⟨⟨(a1, a2, a3, a4, a5), rfl, trivial, by rw [ht]; exact hP, va_K.moved hW.alike hK, hD⟩, hS.F ht⟩) hS.2.2 dX0_init_56
abbrev cX1_init : ByteArray := prog_3_method_1_code
abbrev yX1_init : MethodName := ⟨"ThreeCompactorsModel", "<init>", "()V"⟩
abbrev wsX1_init : List Cond := .code yX1_init cX1_init 2 (none) :: BG
abbrev rmX1_init : Room := { frames := 3, cells := 9, slots := 2312, locals := 60 }
theorem dX1_init_0 : decode cX1_init 0 = .ok (.aload_n 0, 1) := by decide +kernel
theorem dX1_init_1 : decode cX1_init 1 = .ok (.invokespecial 1, 3) := by decide +kernel
theorem dX1_init_4 : decode cX1_init 4 = .ok (.aload_n 0, 1) := by decide +kernel
theorem dX1_init_5 : decode cX1_init 5 = .ok (.sipush 128, 3) := by decide +kernel
theorem dX1_init_8 : decode cX1_init 8 = .ok (.newarray .boolean, 2) := by decide +kernel
theorem dX1_init_10 : decode cX1_init 10 = .ok (.putfield 7, 3) := by decide +kernel
theorem dX1_init_13 : decode cX1_init 13 = .ok (.aload_n 0, 1) := by decide +kernel
theorem dX1_init_14 : decode cX1_init 14 = .ok (.sipush 128, 3) := by decide +kernel
theorem dX1_init_17 : decode cX1_init 17 = .ok (.newarray .int, 2) := by decide +kernel
theorem dX1_init_19 : decode cX1_init 19 = .ok (.putfield 13, 3) := by decide +kernel
theorem dX1_init_22 : decode cX1_init 22 = .ok (.aload_n 0, 1) := by decide +kernel
theorem dX1_init_23 : decode cX1_init 23 = .ok (.sipush 128, 3) := by decide +kernel
theorem dX1_init_26 : decode cX1_init 26 = .ok (.newarray .int, 2) := by decide +kernel
theorem dX1_init_28 : decode cX1_init 28 = .ok (.putfield 17, 3) := by decide +kernel
theorem dX1_init_31 : decode cX1_init 31 = .ok (.aload_n 0, 1) := by decide +kernel
theorem dX1_init_32 : decode cX1_init 32 = .ok (.sipush 768, 3) := by decide +kernel
theorem dX1_init_35 : decode cX1_init 35 = .ok (.newarray .int, 2) := by decide +kernel
theorem dX1_init_37 : decode cX1_init 37 = .ok (.putfield 20, 3) := by decide +kernel
theorem dX1_init_40 : decode cX1_init 40 = .ok (.aload_n 0, 1) := by decide +kernel
theorem dX1_init_41 : decode cX1_init 41 = .ok (.sipush 768, 3) := by decide +kernel
theorem dX1_init_44 : decode cX1_init 44 = .ok (.newarray .int, 2) := by decide +kernel
theorem dX1_init_46 : decode cX1_init 46 = .ok (.putfield 23, 3) := by decide +kernel
theorem dX1_init_49 : decode cX1_init 49 = .ok (.aload_n 0, 1) := by decide +kernel
theorem dX1_init_50 : decode cX1_init 50 = .ok (.sipush 128, 3) := by decide +kernel
theorem dX1_init_53 : decode cX1_init 53 = .ok (.newarray .boolean, 2) := by decide +kernel
theorem dX1_init_55 : decode cX1_init 55 = .ok (.putfield 26, 3) := by decide +kernel
theorem dX1_init_58 : decode cX1_init 58 = .ok (.aload_n 0, 1) := by decide +kernel
theorem dX1_init_59 : decode cX1_init 59 = .ok (.sipush 128, 3) := by decide +kernel
theorem dX1_init_62 : decode cX1_init 62 = .ok (.newarray .int, 2) := by decide +kernel
theorem dX1_init_64 : decode cX1_init 64 = .ok (.putfield 29, 3) := by decide +kernel
theorem dX1_init_67 : decode cX1_init 67 = .ok (.aload_n 0, 1) := by decide +kernel
theorem dX1_init_68 : decode cX1_init 68 = .ok (.sipush 128, 3) := by decide +kernel
theorem dX1_init_71 : decode cX1_init 71 = .ok (.newarray .int, 2) := by decide +kernel
theorem dX1_init_73 : decode cX1_init 73 = .ok (.putfield 32, 3) := by decide +kernel
theorem dX1_init_76 : decode cX1_init 76 = .ok (.aload_n 0, 1) := by decide +kernel
theorem dX1_init_77 : decode cX1_init 77 = .ok (.bipush 8, 2) := by decide +kernel
theorem dX1_init_79 : decode cX1_init 79 = .ok (.newarray .int, 2) := by decide +kernel
theorem dX1_init_81 : decode cX1_init 81 = .ok (.putfield 35, 3) := by decide +kernel
theorem dX1_init_84 : decode cX1_init 84 = .ok (.iconst 0, 1) := by decide +kernel
theorem dX1_init_85 : decode cX1_init 85 = .ok (.istore_n 1, 1) := by decide +kernel
theorem dX1_init_86 : decode cX1_init 86 = .ok (.iload_n 1, 1) := by decide +kernel
theorem dX1_init_87 : decode cX1_init 87 = .ok (.bipush 8, 2) := by decide +kernel
theorem dX1_init_89 : decode cX1_init 89 = .ok (.if_icmp .ge 16, 3) := by decide +kernel
theorem dX1_init_92 : decode cX1_init 92 = .ok (.aload_n 0, 1) := by decide +kernel
theorem dX1_init_93 : decode cX1_init 93 = .ok (.getfield 35, 3) := by decide +kernel
theorem dX1_init_96 : decode cX1_init 96 = .ok (.iload_n 1, 1) := by decide +kernel
theorem dX1_init_97 : decode cX1_init 97 = .ok (.iconst (-1), 1) := by decide +kernel
theorem dX1_init_98 : decode cX1_init 98 = .ok (.iastore, 1) := by decide +kernel
theorem dX1_init_99 : decode cX1_init 99 = .ok (.iinc 1 1, 3) := by decide +kernel
theorem dX1_init_102 : decode cX1_init 102 = .ok (.goto (-16), 3) := by decide +kernel
theorem dX1_init_105 : decode cX1_init 105 = .ok (.return_, 1) := by decide +kernel
def fX1_init_L86 : Nat → Int32 → (Nat → Int32) → Option (Int32 × (Nat → Int32))
  | 0, _, _ => none
  | n + 1, x1_, ro =>
    if (8 : Int32) ≤ x1_ then
      some (x1_, ro)
    else
      (stI 8 ro x1_ (-1 : Int32)).bind fun ro_2 =>
      fX1_init_L86 n (x1_ + (1 : Int32)) ro_2
theorem fX1_init_L86_s (n : Nat) (x1_ : Int32) (ro : Nat → Int32) : fX1_init_L86 (n + 1) x1_ ro = (
    if (8 : Int32) ≤ x1_ then
      some (x1_, ro)
    else
      (stI 8 ro x1_ (-1 : Int32)).bind fun ro_2 =>
      fX1_init_L86 n (x1_ + (1 : Int32)) ro_2) := rfl
def fX1_init : Option (Nat → Int32) :=
  (fX1_init_L86 FU (0 : Int32) ((fun _ => (0 : Int32)))).bind fun (x_3, ro_4) =>
  some ro_4
set_option maxHeartbeats 4000000 in
set_option maxRecDepth 100000 in
theorem wX1_init_L86 {p : Program} {l : Launch} {e : Env} {s : State} {m : MethodId} {args : Array Value} {below : List Frame} {meth : Method} {c : Code} {Q : State → Prop} {cells slots : Nat} {A : Nat → Prop} (dC : Nat → ClassId) (dI : Nat → Nat → Nat) (cI cZ cL : ClassId) (hm b1 b2 b3 b4 b5 b6 b7 b8 b9 : Nat) (hx : p.tables.exec = Jvm.exec) (hb : c.code = cX1_init) (hml : c.maxLocals = 2) (hown : s.vm.findClass RX1 = some m.cls) (hts : ∀ w ∈ wsX1_init, w.before args s = true) (hK : va_K (dC, dI) vwCl (tyA cI cZ cL) s) (hA : ∀ q : Nat, s.heap.size ≤ q → A q) (th : Int32) (mk : Int32) (us : Nat → Int32) (fi : Nat → Int32) (se : Nat → Int32) (ki : Nat → Int32) (va : Nat → Int32) (li : Nat → Int32) (ct : Int32) (od : Nat → Int32) (ne : Nat → Int32) (n : Nat) :
    ∀ (x1_ : Int32) (ro : Nat → Int32) (x1_' : Int32) (ro' : Nat → Int32), fX1_init_L86 n x1_ ro = some (x1_', ro') → ∀ (H : Heap) (locs : List Loc) (ls : Array Slot), va_P (dC, dI) vwCl (wM cI cZ hm b1 b2 b3 b4 b5 b6 b7 b8 b9 th mk us fi se ki va li ct od ne ro) H → va_D A (wM cI cZ hm b1 b2 b3 b4 b5 b6 b7 b8 b9 th mk us fi se ki va li ct od ne ro) → va_S A s.heap H locs → lv_has ls 2 [(0, .ref hm), (1, .int x1_)] → (∀ (H : Heap) (locs : List Loc) (ls : Array Slot), va_P (dC, dI) vwCl (wM cI cZ hm b1 b2 b3 b4 b5 b6 b7 b8 b9 th mk us fi se ki va li ct od ne ro') H → va_D A (wM cI cZ hm b1 b2 b3 b4 b5 b6 b7 b8 b9 th mk us fi se ki va li ct od ne ro') → va_S A s.heap H locs → lv_has ls 2 [(0, .ref hm), (1, .int x1_')] → W p l e (headSpec wsX1_init rmX1_init).room s m args below meth c H locs cells slots Q (F0 m 105 ls [])) → W p l e (headSpec wsX1_init rmX1_init).room s m args below meth c H locs cells slots Q (F0 m 86 ls []) := by
  induction n with
  | zero => intro x1_ ro x1_' ro' hf; cases hf
  | succ n ih =>
    intro x1_ ro x1_' ro' hf H locs ls hP hD hS hl k0
    have hf := (fX1_init_L86_s  n x1_ ro).symm.trans hf
    refine lv_iload_n hx hb dX1_init_86 rfl (lv_at hl 1 rfl) ?_
    refine lv_bipush (v := (8 : Int32)) hx hb dX1_init_87 (by decide) ?_
    refine lv_icmp_ge (tgt := 105) hx hb dX1_init_89 (by decide) (fun h1 => ?_) (fun h1 => ?_)
    · have hf := ift h1 hf
      cases hf
      exact k0 _ _ _ hP hD hS (lv_sub hl [0, 1] rfl)
    · have hf := ifn h1 hf
      refine lv_aload_n hx hb dX1_init_92 rfl (lv_at hl 0 rfl) ?_
      refine va_get (D := (dC, dI)) (ci := 1) (v := .ref b9) (C := RX1) (T := TX1) (N := 12) hx hb hts (fun w hw => List.mem_cons_of_mem _ (inX1 w hw)) hown hK hP 0 rfl rfl 11 (by decide) (hts _ (List.mem_cons_of_mem _ mw_455)) (fun _ h9 => h9) rfl dX1_init_93 ?_
      refine lv_iload_n hx hb dX1_init_96 rfl (lv_at hl 1 rfl) ?_
      refine lv_iconst (v := (-1 : Int32)) hx hb dX1_init_97 (by decide) ?_
      obtain ⟨ro_2, hv, hf⟩ := bd hf
      refine q_ist hx hb hK hP hD hS 9 0 rfl rfl hv dX1_init_98 (fun H locs hP hD hS => ?_)
      have hP : va_P (dC, dI) vwCl (wM cI cZ hm b1 b2 b3 b4 b5 b6 b7 b8 b9 th mk us fi se ki va li ct od ne ro_2) _ := hP
      have hD : va_D A (wM cI cZ hm b1 b2 b3 b4 b5 b6 b7 b8 b9 th mk us fi se ki va li ct od ne ro_2) := hD
      refine lv_iinc (v := x1_ + (1 : Int32)) hx hb dX1_init_99 hl (k := 1) rfl (by rfl) (by decide) rfl (fun ls hl => ?_)
      have hl : lv_has ls 2 [(1, .int (x1_ + (1 : Int32))), (0, .ref hm)] := hl
      refine lv_goto (tgt := 86) hx hb dX1_init_102 (by decide) ?_
      exact ih _ _ _ _ hf _ _ _ hP hD hS (lv_sub hl [1, 0] rfl) k0
set_option maxHeartbeats 4000000 in
set_option maxRecDepth 100000 in
theorem ctX1_init (l : Launch) (dC : Nat → ClassId) (dI : Nat → Nat → Nat) (cI cZ cL : ClassId) (hm : Nat) (sz : Nat) (ro' : Nat → Int32) (hf : fX1_init = some ro') : Met l yX1_init wsX1_init rmX1_init (va_Pc [.ref hm] (q_pre (dC, dI) vwCl (tyA cI cZ cL) sz [(hm, .inr (1, [.int (0 : Int32), .int (0 : Int32), .null, .null, .null, .null, .null, .null, .int (0 : Int32), .null, .null, .null]))])) (va_Qv (fun (_ : Nat × Nat × Nat × Nat × Nat × Nat × Nat × Nat × Nat) => True) (fun u => q_post (dC, dI) vwCl (tyA cI cZ cL) (va_A [(hm, .inr (1, [.int (0 : Int32), .int (0 : Int32), .null, .null, .null, .null, .null, .null, .int (0 : Int32), .null, .null, .null]))] sz) (wM cI cZ hm (u.1) (u.2.1) (u.2.2.1) (u.2.2.2.1) (u.2.2.2.2.1) (u.2.2.2.2.2.1) (u.2.2.2.2.2.2.1) (u.2.2.2.2.2.2.2.1) (u.2.2.2.2.2.2.2.2) (0 : Int32) (0 : Int32) (fun _ => (0 : Int32)) (fun _ => (0 : Int32)) (fun _ => (0 : Int32)) (fun _ => (0 : Int32)) (fun _ => (0 : Int32)) (fun _ => (0 : Int32)) (0 : Int32) (fun _ => (0 : Int32)) (fun _ => (0 : Int32)) ro')) (va_A [(hm, .inr (1, [.int (0 : Int32), .int (0 : Int32), .null, .null, .null, .null, .null, .null, .int (0 : Int32), .null, .null, .null]))] sz)) 9 2312 (va_A [(hm, .inr (1, [.int (0 : Int32), .int (0 : Int32), .null, .null, .null, .null, .null, .null, .int (0 : Int32), .null, .null, .null]))] sz) := by
  refine Met.ofW (cc := cX1_init) (maxL := 2) (ret := none) (by decide) rfl ?_
  intro p e s m args below meth c s₁ B hml hv
  obtain ⟨rfl, hsz, hP, hK, hD0⟩ := hv
  have hx := B.exec
  have hb := B.bytes
  have hr := B.returns
  have hts := atoms_spec (ws := wsX1_init) B.pre
  have hown : s.vm.findClass RX1 = some m.cls := findClass_of_methodNamed B.named
  have hin : meth.name = "<init>" := (name_of_methodNamed B.named B.method).1
  subst hsz
  have hD := hD0.self (sz := s.heap.size)
  generalize hAe : va_A [(hm, .inr (1, [.int (0 : Int32), .int (0 : Int32), .null, .null, .null, .null, .null, .null, .int (0 : Int32), .null, .null, .null]))] s.heap.size = A at hD ⊢
  have hA : ∀ q : Nat, s.heap.size ≤ q → A q := fun q h => by rw [← hAe]; exact Or.inr h
  have hS : va_S A s.heap s.heap [] := va_S.rf
  have hl := lv_entry ([.ref hm]) (n := 2) (Nat.le_of_ble_eq_true rfl)
  rw [lg_entry_eq]
  generalize (lg_sl ([.ref hm]) ++ List.replicate (2 - (lg_sl ([.ref hm])).length) Slot.unset).toArray = ls at hl ⊢
  have hl : lv_has ls 2 [(0, .ref hm)] := hl
  unfold fX1_init at hf
  refine lv_aload_n hx hb dX1_init_0 rfl (lv_at hl 0 rfl) ?_
  refine W.objInit hx hb hown (hts _ (List.mem_cons_of_mem _ mw_443)) (hts _ (List.mem_cons_of_mem _ mw_56)) (hts _ (List.mem_cons_of_mem _ mw_57)) rfl (by rw [hml]; exact hl.1) rfl dX1_init_1 (Nat.le_of_ble_eq_true rfl) (Nat.le_of_ble_eq_true rfl) ?_
  refine W.eq (g2 := F0 m 4 ls []) rfl ?_
  refine lv_aload_n hx hb dX1_init_4 rfl (lv_at hl 0 rfl) ?_
  refine lv_sipush (v := (128 : Int32)) hx hb dX1_init_5 (by decide) ?_
  refine va_newa (atype := .boolean) (a0 := (128, .inl (fun _ => (0 : Int32)))) hx hb (hts _ (List.mem_cons_of_mem _ mw_481)) rfl hK hP hD hS hA (fun cA => rfl) (by decide) (by decide) (by decide) (Nat.le_of_ble_eq_true rfl) (Nat.le_of_ble_eq_true rfl) dX1_init_8 (fun b1 cA H hK2 hP hD hS => ?_)
  have hcA : cZ = cA := (q_sameZ hK hK2).symm
  subst hcA
  have hP : va_P (dC, dI) vwCl [(hm, .inr (1, [.int (0 : Int32), .int (0 : Int32), .null, .null, .null, .null, .null, .null, .int (0 : Int32), .null, .null, .null])), (b1, .inl (cZ, 128, .inl (fun _ => (0 : Int32))))] _ := hP
  have hD : va_D A [(hm, .inr (1, [.int (0 : Int32), .int (0 : Int32), .null, .null, .null, .null, .null, .null, .int (0 : Int32), .null, .null, .null])), (b1, .inl (cZ, 128, .inl (fun _ => (0 : Int32))))] := hD
  refine va_put (D := (dC, dI)) (ci := 1) (v := .ref b1) (ty := .array .boolean) (C := RX1) (T := TX1) (N := 12) hx hb hts (fun w hw => List.mem_cons_of_mem _ (inX1 w hw)) tyX1 tyX1_ok nmX1 hown hK hP hD hS 0 rfl rfl 2 (by decide) (hts _ (List.mem_cons_of_mem _ mw_446)) (fun _ h9 => h9) rfl (by decide +kernel) rfl rfl (Nat.le_of_ble_eq_true rfl) dX1_init_10 (fun H locs hP hD hS => ?_)
  have hP : va_P (dC, dI) vwCl [(hm, .inr (1, [.int (0 : Int32), .int (0 : Int32), .ref b1, .null, .null, .null, .null, .null, .int (0 : Int32), .null, .null, .null])), (b1, .inl (cZ, 128, .inl (fun _ => (0 : Int32))))] _ := hP
  have hD : va_D A [(hm, .inr (1, [.int (0 : Int32), .int (0 : Int32), .ref b1, .null, .null, .null, .null, .null, .int (0 : Int32), .null, .null, .null])), (b1, .inl (cZ, 128, .inl (fun _ => (0 : Int32))))] := hD
  refine lv_aload_n hx hb dX1_init_13 rfl (lv_at hl 0 rfl) ?_
  refine lv_sipush (v := (128 : Int32)) hx hb dX1_init_14 (by decide) ?_
  refine va_newa (atype := .int) (a0 := (128, .inl (fun _ => (0 : Int32)))) hx hb (hts _ (List.mem_cons_of_mem _ mw_89)) rfl hK hP hD hS hA (fun cA => rfl) (by decide) (by decide) (by decide) (Nat.le_of_ble_eq_true rfl) (Nat.le_of_ble_eq_true rfl) dX1_init_17 (fun b2 cA H hK2 hP hD hS => ?_)
  have hcA : cI = cA := (q_sameI hK hK2).symm
  subst hcA
  have hP : va_P (dC, dI) vwCl [(hm, .inr (1, [.int (0 : Int32), .int (0 : Int32), .ref b1, .null, .null, .null, .null, .null, .int (0 : Int32), .null, .null, .null])), (b1, .inl (cZ, 128, .inl (fun _ => (0 : Int32)))), (b2, .inl (cI, 128, .inl (fun _ => (0 : Int32))))] _ := hP
  have hD : va_D A [(hm, .inr (1, [.int (0 : Int32), .int (0 : Int32), .ref b1, .null, .null, .null, .null, .null, .int (0 : Int32), .null, .null, .null])), (b1, .inl (cZ, 128, .inl (fun _ => (0 : Int32)))), (b2, .inl (cI, 128, .inl (fun _ => (0 : Int32))))] := hD
  refine va_put (D := (dC, dI)) (ci := 1) (v := .ref b2) (ty := .array .int) (C := RX1) (T := TX1) (N := 12) hx hb hts (fun w hw => List.mem_cons_of_mem _ (inX1 w hw)) tyX1 tyX1_ok nmX1 hown hK hP hD hS 0 rfl rfl 3 (by decide) (hts _ (List.mem_cons_of_mem _ mw_447)) (fun _ h9 => h9) rfl (by decide +kernel) rfl rfl (Nat.le_of_ble_eq_true rfl) dX1_init_19 (fun H locs hP hD hS => ?_)
  have hP : va_P (dC, dI) vwCl [(hm, .inr (1, [.int (0 : Int32), .int (0 : Int32), .ref b1, .ref b2, .null, .null, .null, .null, .int (0 : Int32), .null, .null, .null])), (b1, .inl (cZ, 128, .inl (fun _ => (0 : Int32)))), (b2, .inl (cI, 128, .inl (fun _ => (0 : Int32))))] _ := hP
  have hD : va_D A [(hm, .inr (1, [.int (0 : Int32), .int (0 : Int32), .ref b1, .ref b2, .null, .null, .null, .null, .int (0 : Int32), .null, .null, .null])), (b1, .inl (cZ, 128, .inl (fun _ => (0 : Int32)))), (b2, .inl (cI, 128, .inl (fun _ => (0 : Int32))))] := hD
  refine lv_aload_n hx hb dX1_init_22 rfl (lv_at hl 0 rfl) ?_
  refine lv_sipush (v := (128 : Int32)) hx hb dX1_init_23 (by decide) ?_
  refine va_newa (atype := .int) (a0 := (128, .inl (fun _ => (0 : Int32)))) hx hb (hts _ (List.mem_cons_of_mem _ mw_89)) rfl hK hP hD hS hA (fun cA => rfl) (by decide) (by decide) (by decide) (Nat.le_of_ble_eq_true rfl) (Nat.le_of_ble_eq_true rfl) dX1_init_26 (fun b3 cA H hK2 hP hD hS => ?_)
  have hcA : cI = cA := (q_sameI hK hK2).symm
  subst hcA
  have hP : va_P (dC, dI) vwCl [(hm, .inr (1, [.int (0 : Int32), .int (0 : Int32), .ref b1, .ref b2, .null, .null, .null, .null, .int (0 : Int32), .null, .null, .null])), (b1, .inl (cZ, 128, .inl (fun _ => (0 : Int32)))), (b2, .inl (cI, 128, .inl (fun _ => (0 : Int32)))), (b3, .inl (cI, 128, .inl (fun _ => (0 : Int32))))] _ := hP
  have hD : va_D A [(hm, .inr (1, [.int (0 : Int32), .int (0 : Int32), .ref b1, .ref b2, .null, .null, .null, .null, .int (0 : Int32), .null, .null, .null])), (b1, .inl (cZ, 128, .inl (fun _ => (0 : Int32)))), (b2, .inl (cI, 128, .inl (fun _ => (0 : Int32)))), (b3, .inl (cI, 128, .inl (fun _ => (0 : Int32))))] := hD
  refine va_put (D := (dC, dI)) (ci := 1) (v := .ref b3) (ty := .array .int) (C := RX1) (T := TX1) (N := 12) hx hb hts (fun w hw => List.mem_cons_of_mem _ (inX1 w hw)) tyX1 tyX1_ok nmX1 hown hK hP hD hS 0 rfl rfl 4 (by decide) (hts _ (List.mem_cons_of_mem _ mw_448)) (fun _ h9 => h9) rfl (by decide +kernel) rfl rfl (Nat.le_of_ble_eq_true rfl) dX1_init_28 (fun H locs hP hD hS => ?_)
  have hP : va_P (dC, dI) vwCl [(hm, .inr (1, [.int (0 : Int32), .int (0 : Int32), .ref b1, .ref b2, .ref b3, .null, .null, .null, .int (0 : Int32), .null, .null, .null])), (b1, .inl (cZ, 128, .inl (fun _ => (0 : Int32)))), (b2, .inl (cI, 128, .inl (fun _ => (0 : Int32)))), (b3, .inl (cI, 128, .inl (fun _ => (0 : Int32))))] _ := hP
  have hD : va_D A [(hm, .inr (1, [.int (0 : Int32), .int (0 : Int32), .ref b1, .ref b2, .ref b3, .null, .null, .null, .int (0 : Int32), .null, .null, .null])), (b1, .inl (cZ, 128, .inl (fun _ => (0 : Int32)))), (b2, .inl (cI, 128, .inl (fun _ => (0 : Int32)))), (b3, .inl (cI, 128, .inl (fun _ => (0 : Int32))))] := hD
  refine lv_aload_n hx hb dX1_init_31 rfl (lv_at hl 0 rfl) ?_
  refine lv_sipush (v := (768 : Int32)) hx hb dX1_init_32 (by decide) ?_
  refine va_newa (atype := .int) (a0 := (768, .inl (fun _ => (0 : Int32)))) hx hb (hts _ (List.mem_cons_of_mem _ mw_89)) rfl hK hP hD hS hA (fun cA => rfl) (by decide) (by decide) (by decide) (Nat.le_of_ble_eq_true rfl) (Nat.le_of_ble_eq_true rfl) dX1_init_35 (fun b4 cA H hK2 hP hD hS => ?_)
  have hcA : cI = cA := (q_sameI hK hK2).symm
  subst hcA
  have hP : va_P (dC, dI) vwCl [(hm, .inr (1, [.int (0 : Int32), .int (0 : Int32), .ref b1, .ref b2, .ref b3, .null, .null, .null, .int (0 : Int32), .null, .null, .null])), (b1, .inl (cZ, 128, .inl (fun _ => (0 : Int32)))), (b2, .inl (cI, 128, .inl (fun _ => (0 : Int32)))), (b3, .inl (cI, 128, .inl (fun _ => (0 : Int32)))), (b4, .inl (cI, 768, .inl (fun _ => (0 : Int32))))] _ := hP
  have hD : va_D A [(hm, .inr (1, [.int (0 : Int32), .int (0 : Int32), .ref b1, .ref b2, .ref b3, .null, .null, .null, .int (0 : Int32), .null, .null, .null])), (b1, .inl (cZ, 128, .inl (fun _ => (0 : Int32)))), (b2, .inl (cI, 128, .inl (fun _ => (0 : Int32)))), (b3, .inl (cI, 128, .inl (fun _ => (0 : Int32)))), (b4, .inl (cI, 768, .inl (fun _ => (0 : Int32))))] := hD
  refine va_put (D := (dC, dI)) (ci := 1) (v := .ref b4) (ty := .array .int) (C := RX1) (T := TX1) (N := 12) hx hb hts (fun w hw => List.mem_cons_of_mem _ (inX1 w hw)) tyX1 tyX1_ok nmX1 hown hK hP hD hS 0 rfl rfl 5 (by decide) (hts _ (List.mem_cons_of_mem _ mw_449)) (fun _ h9 => h9) rfl (by decide +kernel) rfl rfl (Nat.le_of_ble_eq_true rfl) dX1_init_37 (fun H locs hP hD hS => ?_)
  have hP : va_P (dC, dI) vwCl [(hm, .inr (1, [.int (0 : Int32), .int (0 : Int32), .ref b1, .ref b2, .ref b3, .ref b4, .null, .null, .int (0 : Int32), .null, .null, .null])), (b1, .inl (cZ, 128, .inl (fun _ => (0 : Int32)))), (b2, .inl (cI, 128, .inl (fun _ => (0 : Int32)))), (b3, .inl (cI, 128, .inl (fun _ => (0 : Int32)))), (b4, .inl (cI, 768, .inl (fun _ => (0 : Int32))))] _ := hP
  have hD : va_D A [(hm, .inr (1, [.int (0 : Int32), .int (0 : Int32), .ref b1, .ref b2, .ref b3, .ref b4, .null, .null, .int (0 : Int32), .null, .null, .null])), (b1, .inl (cZ, 128, .inl (fun _ => (0 : Int32)))), (b2, .inl (cI, 128, .inl (fun _ => (0 : Int32)))), (b3, .inl (cI, 128, .inl (fun _ => (0 : Int32)))), (b4, .inl (cI, 768, .inl (fun _ => (0 : Int32))))] := hD
  refine lv_aload_n hx hb dX1_init_40 rfl (lv_at hl 0 rfl) ?_
  refine lv_sipush (v := (768 : Int32)) hx hb dX1_init_41 (by decide) ?_
  refine va_newa (atype := .int) (a0 := (768, .inl (fun _ => (0 : Int32)))) hx hb (hts _ (List.mem_cons_of_mem _ mw_89)) rfl hK hP hD hS hA (fun cA => rfl) (by decide) (by decide) (by decide) (Nat.le_of_ble_eq_true rfl) (Nat.le_of_ble_eq_true rfl) dX1_init_44 (fun b5 cA H hK2 hP hD hS => ?_)
  have hcA : cI = cA := (q_sameI hK hK2).symm
  subst hcA
  have hP : va_P (dC, dI) vwCl [(hm, .inr (1, [.int (0 : Int32), .int (0 : Int32), .ref b1, .ref b2, .ref b3, .ref b4, .null, .null, .int (0 : Int32), .null, .null, .null])), (b1, .inl (cZ, 128, .inl (fun _ => (0 : Int32)))), (b2, .inl (cI, 128, .inl (fun _ => (0 : Int32)))), (b3, .inl (cI, 128, .inl (fun _ => (0 : Int32)))), (b4, .inl (cI, 768, .inl (fun _ => (0 : Int32)))), (b5, .inl (cI, 768, .inl (fun _ => (0 : Int32))))] _ := hP
  have hD : va_D A [(hm, .inr (1, [.int (0 : Int32), .int (0 : Int32), .ref b1, .ref b2, .ref b3, .ref b4, .null, .null, .int (0 : Int32), .null, .null, .null])), (b1, .inl (cZ, 128, .inl (fun _ => (0 : Int32)))), (b2, .inl (cI, 128, .inl (fun _ => (0 : Int32)))), (b3, .inl (cI, 128, .inl (fun _ => (0 : Int32)))), (b4, .inl (cI, 768, .inl (fun _ => (0 : Int32)))), (b5, .inl (cI, 768, .inl (fun _ => (0 : Int32))))] := hD
  refine va_put (D := (dC, dI)) (ci := 1) (v := .ref b5) (ty := .array .int) (C := RX1) (T := TX1) (N := 12) hx hb hts (fun w hw => List.mem_cons_of_mem _ (inX1 w hw)) tyX1 tyX1_ok nmX1 hown hK hP hD hS 0 rfl rfl 6 (by decide) (hts _ (List.mem_cons_of_mem _ mw_450)) (fun _ h9 => h9) rfl (by decide +kernel) rfl rfl (Nat.le_of_ble_eq_true rfl) dX1_init_46 (fun H locs hP hD hS => ?_)
  have hP : va_P (dC, dI) vwCl [(hm, .inr (1, [.int (0 : Int32), .int (0 : Int32), .ref b1, .ref b2, .ref b3, .ref b4, .ref b5, .null, .int (0 : Int32), .null, .null, .null])), (b1, .inl (cZ, 128, .inl (fun _ => (0 : Int32)))), (b2, .inl (cI, 128, .inl (fun _ => (0 : Int32)))), (b3, .inl (cI, 128, .inl (fun _ => (0 : Int32)))), (b4, .inl (cI, 768, .inl (fun _ => (0 : Int32)))), (b5, .inl (cI, 768, .inl (fun _ => (0 : Int32))))] _ := hP
  have hD : va_D A [(hm, .inr (1, [.int (0 : Int32), .int (0 : Int32), .ref b1, .ref b2, .ref b3, .ref b4, .ref b5, .null, .int (0 : Int32), .null, .null, .null])), (b1, .inl (cZ, 128, .inl (fun _ => (0 : Int32)))), (b2, .inl (cI, 128, .inl (fun _ => (0 : Int32)))), (b3, .inl (cI, 128, .inl (fun _ => (0 : Int32)))), (b4, .inl (cI, 768, .inl (fun _ => (0 : Int32)))), (b5, .inl (cI, 768, .inl (fun _ => (0 : Int32))))] := hD
  refine lv_aload_n hx hb dX1_init_49 rfl (lv_at hl 0 rfl) ?_
  refine lv_sipush (v := (128 : Int32)) hx hb dX1_init_50 (by decide) ?_
  refine va_newa (atype := .boolean) (a0 := (128, .inl (fun _ => (0 : Int32)))) hx hb (hts _ (List.mem_cons_of_mem _ mw_481)) rfl hK hP hD hS hA (fun cA => rfl) (by decide) (by decide) (by decide) (Nat.le_of_ble_eq_true rfl) (Nat.le_of_ble_eq_true rfl) dX1_init_53 (fun b6 cA H hK2 hP hD hS => ?_)
  have hcA : cZ = cA := (q_sameZ hK hK2).symm
  subst hcA
  have hP : va_P (dC, dI) vwCl [(hm, .inr (1, [.int (0 : Int32), .int (0 : Int32), .ref b1, .ref b2, .ref b3, .ref b4, .ref b5, .null, .int (0 : Int32), .null, .null, .null])), (b1, .inl (cZ, 128, .inl (fun _ => (0 : Int32)))), (b2, .inl (cI, 128, .inl (fun _ => (0 : Int32)))), (b3, .inl (cI, 128, .inl (fun _ => (0 : Int32)))), (b4, .inl (cI, 768, .inl (fun _ => (0 : Int32)))), (b5, .inl (cI, 768, .inl (fun _ => (0 : Int32)))), (b6, .inl (cZ, 128, .inl (fun _ => (0 : Int32))))] _ := hP
  have hD : va_D A [(hm, .inr (1, [.int (0 : Int32), .int (0 : Int32), .ref b1, .ref b2, .ref b3, .ref b4, .ref b5, .null, .int (0 : Int32), .null, .null, .null])), (b1, .inl (cZ, 128, .inl (fun _ => (0 : Int32)))), (b2, .inl (cI, 128, .inl (fun _ => (0 : Int32)))), (b3, .inl (cI, 128, .inl (fun _ => (0 : Int32)))), (b4, .inl (cI, 768, .inl (fun _ => (0 : Int32)))), (b5, .inl (cI, 768, .inl (fun _ => (0 : Int32)))), (b6, .inl (cZ, 128, .inl (fun _ => (0 : Int32))))] := hD
  refine va_put (D := (dC, dI)) (ci := 1) (v := .ref b6) (ty := .array .boolean) (C := RX1) (T := TX1) (N := 12) hx hb hts (fun w hw => List.mem_cons_of_mem _ (inX1 w hw)) tyX1 tyX1_ok nmX1 hown hK hP hD hS 0 rfl rfl 7 (by decide) (hts _ (List.mem_cons_of_mem _ mw_451)) (fun _ h9 => h9) rfl (by decide +kernel) rfl rfl (Nat.le_of_ble_eq_true rfl) dX1_init_55 (fun H locs hP hD hS => ?_)
  have hP : va_P (dC, dI) vwCl [(hm, .inr (1, [.int (0 : Int32), .int (0 : Int32), .ref b1, .ref b2, .ref b3, .ref b4, .ref b5, .ref b6, .int (0 : Int32), .null, .null, .null])), (b1, .inl (cZ, 128, .inl (fun _ => (0 : Int32)))), (b2, .inl (cI, 128, .inl (fun _ => (0 : Int32)))), (b3, .inl (cI, 128, .inl (fun _ => (0 : Int32)))), (b4, .inl (cI, 768, .inl (fun _ => (0 : Int32)))), (b5, .inl (cI, 768, .inl (fun _ => (0 : Int32)))), (b6, .inl (cZ, 128, .inl (fun _ => (0 : Int32))))] _ := hP
  have hD : va_D A [(hm, .inr (1, [.int (0 : Int32), .int (0 : Int32), .ref b1, .ref b2, .ref b3, .ref b4, .ref b5, .ref b6, .int (0 : Int32), .null, .null, .null])), (b1, .inl (cZ, 128, .inl (fun _ => (0 : Int32)))), (b2, .inl (cI, 128, .inl (fun _ => (0 : Int32)))), (b3, .inl (cI, 128, .inl (fun _ => (0 : Int32)))), (b4, .inl (cI, 768, .inl (fun _ => (0 : Int32)))), (b5, .inl (cI, 768, .inl (fun _ => (0 : Int32)))), (b6, .inl (cZ, 128, .inl (fun _ => (0 : Int32))))] := hD
  refine lv_aload_n hx hb dX1_init_58 rfl (lv_at hl 0 rfl) ?_
  refine lv_sipush (v := (128 : Int32)) hx hb dX1_init_59 (by decide) ?_
  refine va_newa (atype := .int) (a0 := (128, .inl (fun _ => (0 : Int32)))) hx hb (hts _ (List.mem_cons_of_mem _ mw_89)) rfl hK hP hD hS hA (fun cA => rfl) (by decide) (by decide) (by decide) (Nat.le_of_ble_eq_true rfl) (Nat.le_of_ble_eq_true rfl) dX1_init_62 (fun b7 cA H hK2 hP hD hS => ?_)
  have hcA : cI = cA := (q_sameI hK hK2).symm
  subst hcA
  have hP : va_P (dC, dI) vwCl [(hm, .inr (1, [.int (0 : Int32), .int (0 : Int32), .ref b1, .ref b2, .ref b3, .ref b4, .ref b5, .ref b6, .int (0 : Int32), .null, .null, .null])), (b1, .inl (cZ, 128, .inl (fun _ => (0 : Int32)))), (b2, .inl (cI, 128, .inl (fun _ => (0 : Int32)))), (b3, .inl (cI, 128, .inl (fun _ => (0 : Int32)))), (b4, .inl (cI, 768, .inl (fun _ => (0 : Int32)))), (b5, .inl (cI, 768, .inl (fun _ => (0 : Int32)))), (b6, .inl (cZ, 128, .inl (fun _ => (0 : Int32)))), (b7, .inl (cI, 128, .inl (fun _ => (0 : Int32))))] _ := hP
  have hD : va_D A [(hm, .inr (1, [.int (0 : Int32), .int (0 : Int32), .ref b1, .ref b2, .ref b3, .ref b4, .ref b5, .ref b6, .int (0 : Int32), .null, .null, .null])), (b1, .inl (cZ, 128, .inl (fun _ => (0 : Int32)))), (b2, .inl (cI, 128, .inl (fun _ => (0 : Int32)))), (b3, .inl (cI, 128, .inl (fun _ => (0 : Int32)))), (b4, .inl (cI, 768, .inl (fun _ => (0 : Int32)))), (b5, .inl (cI, 768, .inl (fun _ => (0 : Int32)))), (b6, .inl (cZ, 128, .inl (fun _ => (0 : Int32)))), (b7, .inl (cI, 128, .inl (fun _ => (0 : Int32))))] := hD
  refine va_put (D := (dC, dI)) (ci := 1) (v := .ref b7) (ty := .array .int) (C := RX1) (T := TX1) (N := 12) hx hb hts (fun w hw => List.mem_cons_of_mem _ (inX1 w hw)) tyX1 tyX1_ok nmX1 hown hK hP hD hS 0 rfl rfl 9 (by decide) (hts _ (List.mem_cons_of_mem _ mw_453)) (fun _ h9 => h9) rfl (by decide +kernel) rfl rfl (Nat.le_of_ble_eq_true rfl) dX1_init_64 (fun H locs hP hD hS => ?_)
  have hP : va_P (dC, dI) vwCl [(hm, .inr (1, [.int (0 : Int32), .int (0 : Int32), .ref b1, .ref b2, .ref b3, .ref b4, .ref b5, .ref b6, .int (0 : Int32), .ref b7, .null, .null])), (b1, .inl (cZ, 128, .inl (fun _ => (0 : Int32)))), (b2, .inl (cI, 128, .inl (fun _ => (0 : Int32)))), (b3, .inl (cI, 128, .inl (fun _ => (0 : Int32)))), (b4, .inl (cI, 768, .inl (fun _ => (0 : Int32)))), (b5, .inl (cI, 768, .inl (fun _ => (0 : Int32)))), (b6, .inl (cZ, 128, .inl (fun _ => (0 : Int32)))), (b7, .inl (cI, 128, .inl (fun _ => (0 : Int32))))] _ := hP
  have hD : va_D A [(hm, .inr (1, [.int (0 : Int32), .int (0 : Int32), .ref b1, .ref b2, .ref b3, .ref b4, .ref b5, .ref b6, .int (0 : Int32), .ref b7, .null, .null])), (b1, .inl (cZ, 128, .inl (fun _ => (0 : Int32)))), (b2, .inl (cI, 128, .inl (fun _ => (0 : Int32)))), (b3, .inl (cI, 128, .inl (fun _ => (0 : Int32)))), (b4, .inl (cI, 768, .inl (fun _ => (0 : Int32)))), (b5, .inl (cI, 768, .inl (fun _ => (0 : Int32)))), (b6, .inl (cZ, 128, .inl (fun _ => (0 : Int32)))), (b7, .inl (cI, 128, .inl (fun _ => (0 : Int32))))] := hD
  refine lv_aload_n hx hb dX1_init_67 rfl (lv_at hl 0 rfl) ?_
  refine lv_sipush (v := (128 : Int32)) hx hb dX1_init_68 (by decide) ?_
  refine va_newa (atype := .int) (a0 := (128, .inl (fun _ => (0 : Int32)))) hx hb (hts _ (List.mem_cons_of_mem _ mw_89)) rfl hK hP hD hS hA (fun cA => rfl) (by decide) (by decide) (by decide) (Nat.le_of_ble_eq_true rfl) (Nat.le_of_ble_eq_true rfl) dX1_init_71 (fun b8 cA H hK2 hP hD hS => ?_)
  have hcA : cI = cA := (q_sameI hK hK2).symm
  subst hcA
  have hP : va_P (dC, dI) vwCl [(hm, .inr (1, [.int (0 : Int32), .int (0 : Int32), .ref b1, .ref b2, .ref b3, .ref b4, .ref b5, .ref b6, .int (0 : Int32), .ref b7, .null, .null])), (b1, .inl (cZ, 128, .inl (fun _ => (0 : Int32)))), (b2, .inl (cI, 128, .inl (fun _ => (0 : Int32)))), (b3, .inl (cI, 128, .inl (fun _ => (0 : Int32)))), (b4, .inl (cI, 768, .inl (fun _ => (0 : Int32)))), (b5, .inl (cI, 768, .inl (fun _ => (0 : Int32)))), (b6, .inl (cZ, 128, .inl (fun _ => (0 : Int32)))), (b7, .inl (cI, 128, .inl (fun _ => (0 : Int32)))), (b8, .inl (cI, 128, .inl (fun _ => (0 : Int32))))] _ := hP
  have hD : va_D A [(hm, .inr (1, [.int (0 : Int32), .int (0 : Int32), .ref b1, .ref b2, .ref b3, .ref b4, .ref b5, .ref b6, .int (0 : Int32), .ref b7, .null, .null])), (b1, .inl (cZ, 128, .inl (fun _ => (0 : Int32)))), (b2, .inl (cI, 128, .inl (fun _ => (0 : Int32)))), (b3, .inl (cI, 128, .inl (fun _ => (0 : Int32)))), (b4, .inl (cI, 768, .inl (fun _ => (0 : Int32)))), (b5, .inl (cI, 768, .inl (fun _ => (0 : Int32)))), (b6, .inl (cZ, 128, .inl (fun _ => (0 : Int32)))), (b7, .inl (cI, 128, .inl (fun _ => (0 : Int32)))), (b8, .inl (cI, 128, .inl (fun _ => (0 : Int32))))] := hD
  refine va_put (D := (dC, dI)) (ci := 1) (v := .ref b8) (ty := .array .int) (C := RX1) (T := TX1) (N := 12) hx hb hts (fun w hw => List.mem_cons_of_mem _ (inX1 w hw)) tyX1 tyX1_ok nmX1 hown hK hP hD hS 0 rfl rfl 10 (by decide) (hts _ (List.mem_cons_of_mem _ mw_454)) (fun _ h9 => h9) rfl (by decide +kernel) rfl rfl (Nat.le_of_ble_eq_true rfl) dX1_init_73 (fun H locs hP hD hS => ?_)
  have hP : va_P (dC, dI) vwCl [(hm, .inr (1, [.int (0 : Int32), .int (0 : Int32), .ref b1, .ref b2, .ref b3, .ref b4, .ref b5, .ref b6, .int (0 : Int32), .ref b7, .ref b8, .null])), (b1, .inl (cZ, 128, .inl (fun _ => (0 : Int32)))), (b2, .inl (cI, 128, .inl (fun _ => (0 : Int32)))), (b3, .inl (cI, 128, .inl (fun _ => (0 : Int32)))), (b4, .inl (cI, 768, .inl (fun _ => (0 : Int32)))), (b5, .inl (cI, 768, .inl (fun _ => (0 : Int32)))), (b6, .inl (cZ, 128, .inl (fun _ => (0 : Int32)))), (b7, .inl (cI, 128, .inl (fun _ => (0 : Int32)))), (b8, .inl (cI, 128, .inl (fun _ => (0 : Int32))))] _ := hP
  have hD : va_D A [(hm, .inr (1, [.int (0 : Int32), .int (0 : Int32), .ref b1, .ref b2, .ref b3, .ref b4, .ref b5, .ref b6, .int (0 : Int32), .ref b7, .ref b8, .null])), (b1, .inl (cZ, 128, .inl (fun _ => (0 : Int32)))), (b2, .inl (cI, 128, .inl (fun _ => (0 : Int32)))), (b3, .inl (cI, 128, .inl (fun _ => (0 : Int32)))), (b4, .inl (cI, 768, .inl (fun _ => (0 : Int32)))), (b5, .inl (cI, 768, .inl (fun _ => (0 : Int32)))), (b6, .inl (cZ, 128, .inl (fun _ => (0 : Int32)))), (b7, .inl (cI, 128, .inl (fun _ => (0 : Int32)))), (b8, .inl (cI, 128, .inl (fun _ => (0 : Int32))))] := hD
  refine lv_aload_n hx hb dX1_init_76 rfl (lv_at hl 0 rfl) ?_
  refine lv_bipush (v := (8 : Int32)) hx hb dX1_init_77 (by decide) ?_
  refine va_newa (atype := .int) (a0 := (8, .inl (fun _ => (0 : Int32)))) hx hb (hts _ (List.mem_cons_of_mem _ mw_89)) rfl hK hP hD hS hA (fun cA => rfl) (by decide) (by decide) (by decide) (Nat.le_of_ble_eq_true rfl) (Nat.le_of_ble_eq_true rfl) dX1_init_79 (fun b9 cA H hK2 hP hD hS => ?_)
  have hcA : cI = cA := (q_sameI hK hK2).symm
  subst hcA
  have hP : va_P (dC, dI) vwCl [(hm, .inr (1, [.int (0 : Int32), .int (0 : Int32), .ref b1, .ref b2, .ref b3, .ref b4, .ref b5, .ref b6, .int (0 : Int32), .ref b7, .ref b8, .null])), (b1, .inl (cZ, 128, .inl (fun _ => (0 : Int32)))), (b2, .inl (cI, 128, .inl (fun _ => (0 : Int32)))), (b3, .inl (cI, 128, .inl (fun _ => (0 : Int32)))), (b4, .inl (cI, 768, .inl (fun _ => (0 : Int32)))), (b5, .inl (cI, 768, .inl (fun _ => (0 : Int32)))), (b6, .inl (cZ, 128, .inl (fun _ => (0 : Int32)))), (b7, .inl (cI, 128, .inl (fun _ => (0 : Int32)))), (b8, .inl (cI, 128, .inl (fun _ => (0 : Int32)))), (b9, .inl (cI, 8, .inl (fun _ => (0 : Int32))))] _ := hP
  have hD : va_D A [(hm, .inr (1, [.int (0 : Int32), .int (0 : Int32), .ref b1, .ref b2, .ref b3, .ref b4, .ref b5, .ref b6, .int (0 : Int32), .ref b7, .ref b8, .null])), (b1, .inl (cZ, 128, .inl (fun _ => (0 : Int32)))), (b2, .inl (cI, 128, .inl (fun _ => (0 : Int32)))), (b3, .inl (cI, 128, .inl (fun _ => (0 : Int32)))), (b4, .inl (cI, 768, .inl (fun _ => (0 : Int32)))), (b5, .inl (cI, 768, .inl (fun _ => (0 : Int32)))), (b6, .inl (cZ, 128, .inl (fun _ => (0 : Int32)))), (b7, .inl (cI, 128, .inl (fun _ => (0 : Int32)))), (b8, .inl (cI, 128, .inl (fun _ => (0 : Int32)))), (b9, .inl (cI, 8, .inl (fun _ => (0 : Int32))))] := hD
  refine va_put (D := (dC, dI)) (ci := 1) (v := .ref b9) (ty := .array .int) (C := RX1) (T := TX1) (N := 12) hx hb hts (fun w hw => List.mem_cons_of_mem _ (inX1 w hw)) tyX1 tyX1_ok nmX1 hown hK hP hD hS 0 rfl rfl 11 (by decide) (hts _ (List.mem_cons_of_mem _ mw_455)) (fun _ h9 => h9) rfl (by decide +kernel) rfl rfl (Nat.le_of_ble_eq_true rfl) dX1_init_81 (fun H locs hP hD hS => ?_)
  have hP : va_P (dC, dI) vwCl [(hm, .inr (1, [.int (0 : Int32), .int (0 : Int32), .ref b1, .ref b2, .ref b3, .ref b4, .ref b5, .ref b6, .int (0 : Int32), .ref b7, .ref b8, .ref b9])), (b1, .inl (cZ, 128, .inl (fun _ => (0 : Int32)))), (b2, .inl (cI, 128, .inl (fun _ => (0 : Int32)))), (b3, .inl (cI, 128, .inl (fun _ => (0 : Int32)))), (b4, .inl (cI, 768, .inl (fun _ => (0 : Int32)))), (b5, .inl (cI, 768, .inl (fun _ => (0 : Int32)))), (b6, .inl (cZ, 128, .inl (fun _ => (0 : Int32)))), (b7, .inl (cI, 128, .inl (fun _ => (0 : Int32)))), (b8, .inl (cI, 128, .inl (fun _ => (0 : Int32)))), (b9, .inl (cI, 8, .inl (fun _ => (0 : Int32))))] _ := hP
  have hD : va_D A [(hm, .inr (1, [.int (0 : Int32), .int (0 : Int32), .ref b1, .ref b2, .ref b3, .ref b4, .ref b5, .ref b6, .int (0 : Int32), .ref b7, .ref b8, .ref b9])), (b1, .inl (cZ, 128, .inl (fun _ => (0 : Int32)))), (b2, .inl (cI, 128, .inl (fun _ => (0 : Int32)))), (b3, .inl (cI, 128, .inl (fun _ => (0 : Int32)))), (b4, .inl (cI, 768, .inl (fun _ => (0 : Int32)))), (b5, .inl (cI, 768, .inl (fun _ => (0 : Int32)))), (b6, .inl (cZ, 128, .inl (fun _ => (0 : Int32)))), (b7, .inl (cI, 128, .inl (fun _ => (0 : Int32)))), (b8, .inl (cI, 128, .inl (fun _ => (0 : Int32)))), (b9, .inl (cI, 8, .inl (fun _ => (0 : Int32))))] := hD
  have hP : va_P (dC, dI) vwCl (wM cI cZ hm b1 b2 b3 b4 b5 b6 b7 b8 b9 (0 : Int32) (0 : Int32) ((fun _ => (0 : Int32))) ((fun _ => (0 : Int32))) ((fun _ => (0 : Int32))) ((fun _ => (0 : Int32))) ((fun _ => (0 : Int32))) ((fun _ => (0 : Int32))) (0 : Int32) ((fun _ => (0 : Int32))) ((fun _ => (0 : Int32))) ((fun _ => (0 : Int32)))) _ := hP
  have hD : va_D A (wM cI cZ hm b1 b2 b3 b4 b5 b6 b7 b8 b9 (0 : Int32) (0 : Int32) ((fun _ => (0 : Int32))) ((fun _ => (0 : Int32))) ((fun _ => (0 : Int32))) ((fun _ => (0 : Int32))) ((fun _ => (0 : Int32))) ((fun _ => (0 : Int32))) (0 : Int32) ((fun _ => (0 : Int32))) ((fun _ => (0 : Int32))) ((fun _ => (0 : Int32)))) := hD
  refine lv_iconst (v := (0 : Int32)) hx hb dX1_init_84 (by decide) ?_
  refine lv_istore_n hx hb dX1_init_85 rfl hl (by decide) rfl (fun ls hl => ?_)
  have hl : lv_has ls 2 [(1, .int (0 : Int32)), (0, .ref hm)] := hl
  obtain ⟨⟨x_3, ro_4⟩, hv, hf⟩ := bd hf
  dsimp only at hf
  refine wX1_init_L86 dC dI cI cZ cL hm b1 b2 b3 b4 b5 b6 b7 b8 b9 hx hb hml hown hts hK hA (0 : Int32) (0 : Int32) ((fun _ => (0 : Int32))) ((fun _ => (0 : Int32))) ((fun _ => (0 : Int32))) ((fun _ => (0 : Int32))) ((fun _ => (0 : Int32))) ((fun _ => (0 : Int32))) (0 : Int32) ((fun _ => (0 : Int32))) ((fun _ => (0 : Int32))) FU (0 : Int32) ((fun _ => (0 : Int32))) x_3 ro_4 hv _ _ _ hP hD hS (lv_sub hl [1, 0] rfl) (fun H locs ls hP hD hS hl => ?_)
  have hg0 := Option.some.inj hf
  subst hg0
  refine W.widen (k := 9) (n := 2312) (by decide) (by decide) ?_
  exact W.vret hx hb hr (fun t ht hW => ⟨⟨(b1, b2, b3, b4, b5, b6, b7, b8, b9), rfl, trivial, by rw [ht]; exact hP, va_K.moved hW.alike hK, hD⟩, hS.F ht⟩) hS.2.2 dX1_init_105
