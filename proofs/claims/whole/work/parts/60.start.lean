theorem lwi {w : Cond} (i : Nat) (h : lw_tbl[i]? = some w) : w ∈ lw_tbl := List.mem_of_getElem? h
theorem mw_54 : (Jvm.Cond.code ({ cls := "ThreeCompactors", name := "<init>", desc := "()V" } : Jvm.MethodName) prog_1_method_1_code (1 : Nat) (Option.none : Option Jvm.ClassFile.FieldType)) ∈ BG := List.mem_filter.mpr ⟨List.mem_of_getElem? (i := 54) (by decide +kernel), by decide +kernel⟩
theorem mw_442 : (Jvm.Cond.code ({ cls := "ThreeCompactorsModel", name := "<init>", desc := "()V" } : Jvm.MethodName) prog_3_method_1_code (2 : Nat) (Option.none : Option Jvm.ClassFile.FieldType)) ∈ BG := List.mem_filter.mpr ⟨List.mem_of_getElem? (i := 442) (by decide +kernel), by decide +kernel⟩
section QU
variable {p : Program} {l : Launch} {e : Env} {R : Room} {s : State} {m : MethodId} {args : Array Value} {below : List Frame} {meth : Method} {c : Code} {H : Heap} {locs : List Loc} {cells slots mc ms : Nat} {Q : State → Prop}
variable {pc : Nat} {ls : Array Slot} {rest st0 : List Value} {D : va_G} {cl : List vw_C} {A : Nat → Prop} {tys : List (ClassId × FieldType)} {ws wc wr : va_W} {aa : Array Value}
/-- behind a constructor: its new cells stand at addresses u -/
theorem q_cvu {S : Type} {w1 : S → va_W} (hr : va_Run p l e R s m args below meth c H locs cells slots mc ms (F0 m pc ls st0) rest (va_Qv (fun (_ : S) => True) (fun u => q_post D cl tys (va_A wc H.size) (w1 u)) (va_A wc H.size) aa) (va_A wc H.size)) (hP : va_P D cl ws H) (hD : va_D A ws) (hS : va_S A s.heap H locs) (hA : ∀ q, s.heap.size ≤ q → A q) (isC isR : List Nat) (hC : isC.map (fun i => ws[i]?) = wc.map some) (hR : isR.map (fun i => ws[i]?) = wr.map some) (hn : va_nd isR = true) (hdis : ∀ i ∈ isR, i ∉ isC)
    (kk : ∀ (u : S) (H1 : Heap) (locs1 : List Loc), va_P D cl (wr ++ w1 u) H1 → va_D A (wr ++ w1 u) → va_S A s.heap H1 locs1 → W p l e R s m args below meth c H1 locs1 (cells + mc) (slots + ms) Q (F0 m (pc + 3) ls rest)) : W p l e R s m args below meth c H locs cells slots Q (F0 m pc ls st0) := by
  have hFc := va_free (wc := wc) hD hS hA isC hC
  refine va_callv hr hS (fun q _ h => hFc q h) hFc (fun u t H1 locs1 ht hvm hw hB hz1 hk1 hS1 => ?_)
  obtain ⟨hP1, hK1, hD1⟩ := hB
  rw [ht] at hP1
  obtain ⟨hP2, hD2⟩ := va_join hP hD isC isR hC hR hn hdis hk1 hFc hP1 hD1
  exact kk u H1 locs1 hP2 hD2 hS1
end QU
theorem st_A {args : Array Value} {s : State} {ty : FieldType} (h : (Cond.arrayClass ty).before args s = true) : ∃ cA, ArrOfT s cA ty ∧ s.vm.findClass ("[" ++ ty.toString) = some cA := by
  obtain ⟨cA, kA, comp, h1, h2, h3⟩ := Cond.arrayClass_spec h
  exact ⟨cA, fun n z => ⟨fun k h => (by cases h), kA, h2, comp, h3⟩, h1⟩
/-- what the tables say of the two classes and of the three kinds of arrays -/
theorem st_K {args : Array Value} {s : State} (hts : ∀ w ∈ lw_tbl, w.before args s = true) : ∃ (dC : Nat → ClassId) (dI : Nat → Nat → Nat) (cI cZ cL : ClassId), va_K (dC, dI) vwCl (tyA cI cZ cL) s := by
  obtain ⟨c0, i0, k0⟩ := u_known (C := RX0) (T := TX0) (N := 9) (n := 9) hts (fun w hw => BG_in w (inX0 w hw)) (hts _ (lwi 51 (by decide +kernel)))
  obtain ⟨c1, i1, k1⟩ := u_known (C := RX1) (T := TX1) (N := 12) (n := 12) hts (fun w hw => BG_in w (inX1 w hw)) (hts _ (lwi 439 (by decide +kernel)))
  obtain ⟨cI, hI, fI⟩ := st_A (ty := .int) (hts _ (BG_in _ mw_89))
  obtain ⟨cZ, hZ, fZ⟩ := st_A (ty := .boolean) (hts _ (BG_in _ mw_481))
  obtain ⟨cL, hL, fL⟩ := st_A (ty := .long) (hts _ (lwi 608 (by decide +kernel)))
  refine ⟨fun c => match c with | 0 => c0 | _ => c1, fun c => match c with | 0 => i0 | _ => i1, cI, cZ, cL, fun c q hq => ?_, fun k q hk => ?_⟩
  · match c, hq with
    | 0, hq => cases hq; exact k0
    | 1, hq => cases hq; exact k1
  · match k, hk with
    | 0, hk => cases hk; exact ⟨hI, fI⟩
    | 1, hk => cases hk; exact ⟨hZ, fZ⟩
    | 2, hk => cases hk; exact ⟨hL, fL⟩
theorem st_T1 {args : Array Value} {s : State} {k : Nat} {tx : String} (h1 : (Cond.stringRef RX0 k tx).before args s = true) (h2 : (Cond.exactly (.string RX0 k) "java/lang/String").before args s = true) : ∃ a, vk_R RX0 k tx a s := by
  obtain ⟨a, c, cell, kk, h, -⟩ := Cond.exactly_spec h2
  exact ⟨a, vk_R.of h1 h⟩
set_option maxRecDepth 100000 in
theorem st_tx : ∀ q ∈ q_tx, Cond.stringRef RX0 q.1 q.2 ∈ lw_tbl := by decide +kernel
set_option maxRecDepth 100000 in
theorem st_ex : ∀ q ∈ q_tx, Cond.exactly (.string RX0 q.1) "java/lang/String" ∈ flatC (Jvm.Cond.and given_1 narrow_1) := by decide +kernel
theorem st_T {args : Array Value} {s : State} (hts : ∀ w ∈ lw_tbl, w.before args s = true) (hg : (Jvm.Cond.and given_1 narrow_1).before args s = true) : q_T RX0 q_tx s := fun q hq => st_T1 (hts _ (st_tx q hq)) (flat_of_before _ hg _ (st_ex q hq))
set_option maxRecDepth 100000 in
theorem st_de : ∀ x ∈ q_dec, Cond.declares x ∈ lw_tbl := by decide +kernel
set_option maxRecDepth 100000 in
theorem st_ca : ∀ X ∈ q_cs, Cond.castable X X ∈ lw_tbl := by decide +kernel
theorem st_N {args : Array Value} {s : State} (hts : ∀ w ∈ lw_tbl, w.before args s = true) : q_N s := ⟨fun x hx => va_Nw.of rfl (hts _ (st_de x hx)), fun X hX => va_Nw.of rfl (hts _ (st_ca X hX))⟩
set_option maxRecDepth 100000 in
theorem st_nc : ∀ q ∈ q_nc, Cond.not (.castable q.1 q.2) ∈ flatC (Jvm.Cond.and given_1 narrow_1) := by decide +kernel
theorem st_C {args : Array Value} {s : State} (hg : (Jvm.Cond.and given_1 narrow_1).before args s = true) : q_C s := fun q hq => va_Nc.of (flat_of_before _ hg _ (st_nc q hq))
set_option maxRecDepth 100000 in
theorem st_Z {args : Array Value} {s : State} (hts : ∀ w ∈ lw_tbl, w.before args s = true) (hg : (Jvm.Cond.and given_1 narrow_1).before args s = true) : q_Z (fun q => s.heap.size ≤ q) s s.heap :=
  ⟨vx_Zqof (hts _ (lwi 165 (by decide +kernel))) (hts _ (lwi 41 (by decide +kernel))) (flat_of_before _ hg _ (by decide +kernel)) (fun a h1 h2 => absurd h1 (Nat.not_lt.mpr h2)), vx_Zqof (hts _ (lwi 167 (by decide +kernel))) (hts _ (lwi 41 (by decide +kernel))) (flat_of_before _ hg _ (by decide +kernel)) (fun a h1 h2 => absurd h1 (Nat.not_lt.mpr h2))⟩
/-- the constructors' pure readings -/
theorem st_0 : ∃ r', fX0_init = some r' ∧ ∀ q, q < 8 → r' q = (-1 : Int32) := by
  obtain ⟨r', h1, h2⟩ := x_initRoots
  refine ⟨r', ?_, h2⟩
  unfold fX0_init
  rw [h1]
  rfl
theorem st_L : ∀ (n k : Nat) (ro : Nat → Int32), k ≤ 8 → 8 < k + n → (∀ q, q < k → ro q = (-1 : Int32)) → ∃ x ro', fX1_init_L86 n (nI k) ro = some (x, ro') ∧ ∀ q, q < 8 → ro' q = (-1 : Int32) := by
  intro n
  induction n with
  | zero => intro k ro h1 h2; omega
  | succ n ih =>
    intro k ro h1 h2 h3
    rw [fX1_init_L86_s, n8]
    by_cases e : k = 8
    · subst e
      exact ⟨_, ro, by rw [if_pos (nI_le (Nat.le_refl _) (by omega))], h3⟩
    · obtain ⟨x, ro', s1, s2⟩ := ih (k + 1) (upd ro k (-1)) (by omega) (by omega) (fun q hq => by
        by_cases e2 : q = k
        · subst e2; rw [upd_s]
        · rw [upd_n (by omega)]; exact h3 q (by omega))
      refine ⟨x, ro', ?_, s2⟩
      rw [if_neg (nI_ge (by omega) (by omega)), st_k (by omega) (by omega), sb, nI_1]
      exact s1
theorem st_1 : ∃ ro', fX1_init = some ro' ∧ ∀ q, q < 8 → ro' q = (-1 : Int32) := by
  obtain ⟨x, ro', h1, h2⟩ := st_L FU 0 (fun _ => 0) (by omega) (by unfold FU; omega) (fun q h => by omega)
  refine ⟨ro', ?_, h2⟩
  unfold fX1_init
  have h0 : fX1_init_L86 FU (0 : Int32) (fun _ => (0 : Int32)) = some (x, ro') := h1
  rw [h0]
  rfl
