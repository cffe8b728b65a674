theorem ix_cases (x : Int32) (n : Nat) (hn : n < 2 ^ 31) : (x < 0 ∨ nI n ≤ x) ∨ ∃ j, j < n ∧ x = nI j := by
  rcases pk_ix x (n := n) hn with h | h | h
  · exact Or.inl (Or.inl h)
  · exact Or.inl (Or.inr h)
  · exact Or.inr h
section OPS
variable {n : Nat} {S : Nat → Nat} {Kd g : Nat → Nat → Nat} {nu : Nat → Nat → Int32} {se : Nat → Int32} {rt o : Nat → Nat} {w r st : Nat → Int32} {tp cn : Int32} {us fi sE ki va : Nat → Int32} {ct : Int32} {od ro : Nat → Int32}
/-- a root's object, a field of it: class and reference bar the same -/
theorem bar_cases (hC : CX n S Kd g nu se rt w r st tp cn) (hM : RX n S Kd g nu se rt o us fi sE ki va ct od ro) {q : Nat} (hq : q < 8) (x2 : Int32) :
    (rt q = 1000 ∧ fX0_requireObjectWithField w r (nI q) x2 = some 5 ∧ fX1_bar fi ro (nI q) x2 = some 2) ∨
    (fX0_requireObjectWithField w r (nI q) x2 = some 1 ∧ fX1_bar fi ro (nI q) x2 = some 1) ∨
    (∃ i k, rt q = i ∧ ¬ i = 1000 ∧ i < n ∧ k < S i ∧ x2 = nI k ∧ r q = nI (pf S i) ∧ ro q = nI (o i) ∧ fX0_requireObjectWithField w r (nI q) x2 = some 0 ∧ fX1_bar fi ro (nI q) x2 = some 0) := by
  obtain ⟨a1, a2⟩ := hC.2.2.2.2.2.2.1 q hq
  obtain ⟨b1, b2⟩ := hM.2.2.2.2.2.2.2.2 q hq
  have hn := hC.1
  unfold fX0_requireObjectWithField fX1_bar
  rw [(root_in hq).2, ld_k hq (by omega), ld_k hq (by omega), sb, sb, sb, if_neg one0, sb]
  by_cases e : rt q = 1000
  · refine Or.inl ⟨e, ?_, ?_⟩
    · rw [a2, e, adr_no, if_pos rfl]
    · rw [b2, e, adr_no, if_neg (by decide)]
  · have hi := a1.resolve_left e
    have hat := hC.at hi
    have ho := hM.o128 _ hi
    have hS := hC.2.1 _ hi
    rw [adr_at e] at a2 b2
    rw [a2, b2, if_neg (m1_ne (by omega)), if_pos (nI_pos' (by omega))]
    rcases ix_cases x2 (S (rt q)) (by omega) with h | ⟨k, hk, rfl⟩
    · refine Or.inr (Or.inl ?_)
      by_cases h0 : x2 < 0
      · rw [if_pos h0, if_pos h0]; exact ⟨rfl, rfl⟩
      · have h1 : nI (S (rt q)) ≤ x2 := h.resolve_left h0
        have h2 : ¬ x2 < nI (S (rt q)) := fun z => by
          have z1 := Int32.lt_iff_toInt_lt.mp z
          have z2 := Int32.le_iff_toInt_le.mp h1
          omega
        rw [if_neg h0, if_neg h0, x_fieldCount (by omega) (hC.2.2.2.2.2.2.2.1 _ hi).1 hS, sb, sb, ld_k ho (by omega), sb, (hM.2.2.2.2.2.2.1 _ hi).2.1, if_neg h2, if_neg h2]
        exact ⟨rfl, rfl⟩
    · refine Or.inr (Or.inr ⟨rt q, k, rfl, e, hi, hk, rfl, rfl, rfl, ?_⟩)
      have h2 : nI k < nI (S (rt q)) := nI_lt hk (by omega)
      rw [if_neg (nI_pos (by omega)), if_neg (nI_pos (by omega)), x_fieldCount (by omega) (hC.2.2.2.2.2.2.2.1 _ hi).1 hS, sb, sb, ld_k ho (by omega), sb, (hM.2.2.2.2.2.2.1 _ hi).2.1, if_pos h2, if_pos h2]
      exact ⟨rfl, rfl⟩
/-- a field is set, in both -/
theorem sim_set (hC : CX n S Kd g nu se rt w r st tp cn) (hM : RX n S Kd g nu se rt o us fi sE ki va ct od ro) {q i k a : Nat} (hq : q < 8) (hro : ro q = nI (o i)) (hi : i < n) (hk : k < S i) (ha : a ≤ 2) {x y : Int32} {j : Nat} (h0 : a = 0 → x = y) (h1 : ¬ a = 0 → okj n j ∧ x = adr (pf S) j ∧ y = adr o j) :
    ∃ (Kd' g' : Nat → Nat → Nat) (nu' : Nat → Nat → Int32) (w' ki' va' : Nat → Int32), fX0_setField w (nI (pf S i)) (nI k) (nI a) x = some w' ∧ fX1_set ki va ro (nI q) (nI k) (nI a) y = some (ki', va') ∧ CX n S Kd' g' nu' se rt w' r st tp cn ∧ RX n S Kd' g' nu' se rt o us fi sE ki' va' ct od ro := by
  obtain ⟨c1, c2, c3, c4, c5, c6, c7, c8, c9, c10⟩ := id hC
  obtain ⟨m1, m2, m3, m4, m5, m6, m7, m8, m9⟩ := id hM
  have hat := hC.at hi
  have ho := hM.o128 _ hi
  have hS := c2 i hi
  obtain ⟨hd, hse⟩ := c8 i hi
  have key : ∃ z : Int32, fX0_setField w (nI (pf S i)) (nI k) (nI a) x = some (upd (upd w (pf S i) z) (pf S i + 2 + k) x) ∧ HD z (S i) (fun j => if j = k then a else Kd i j) := by
    refine ⟨_, ?_, HD.set hd hS hk ha rfl⟩
    unfold fX0_setField
    rw [ld_k (by omega) (by omega), sb]
    by_cases a1 : a = 1
    · subst a1
      rw [if_pos (show nI 1 = 1 from rfl), st_k (by omega) (by omega), sb, x_fieldAddress, sb, st_k (by omega) (by omega), sb, if_pos rfl]
    · rw [if_neg (fun z => a1 (by rw [n1, nI_eq (by omega) (by omega)] at z; exact z))]
      by_cases a2 : a = 2
      · subst a2
        rw [if_pos (show nI 2 = 2 from rfl), st_k (by omega) (by omega), sb, x_fieldAddress, sb, st_k (by omega) (by omega), sb, if_neg (by decide), if_pos rfl]
      · rw [if_neg (fun z => a2 (by rw [n2, nI_eq (by omega) (by omega)] at z; exact z)), st_k (by omega) (by omega), sb, x_fieldAddress, sb, st_k (by omega) (by omega), sb, if_neg a1, if_neg a2]
  obtain ⟨z, z1, z2⟩ := key
  refine ⟨fun i' => if i' = i then (fun k' => if k' = k then a else Kd i k') else Kd i', fun i' => if i' = i then (fun k' => if k' = k then j else g i k') else g i', fun i' => if i' = i then (fun k' => if k' = k then x else nu i k') else nu i', _, upd ki (6 * o i + k) (nI a), upd va (6 * o i + k) y, z1, ?_, ?_, ?_⟩
  · unfold fX1_set
    rw [ld_k hq (by omega), sb, hro, ix6, st_k (by omega) (by omega), sb, sb, ix6, st_k (by omega) (by omega), sb]
  · refine ⟨c1, c2, c3, c4, c5, c6, c7, fun i' hi' => ?_, fun i' hi' k' hk' => ?_, fun x' hx1 hx2 => ?_⟩
    · by_cases e : i' = i
      · subst e
        simp only [if_true]
        rw [upd_n (by omega), upd_s, upd_n (by omega), upd_n (by omega)]
        exact ⟨z2, hse⟩
      · simp only [if_neg e]
        have n1' := far (S := S) (a := 0) (b := 2 + k) e (by omega) (by omega)
        have n2' := far (S := S) (a := 0) (b := 0) e (by omega) (by omega)
        have n3' := far (S := S) (a := 1) (b := 2 + k) e (by omega) (by omega)
        have n4' := far (S := S) (a := 1) (b := 0) e (by omega) (by omega)
        rw [upd_n (by omega), upd_n (by omega), upd_n (by omega), upd_n (by omega)]
        exact c8 i' hi'
    · by_cases e : i' = i
      · subst e
        simp only [if_true]
        by_cases ek : k' = k
        · subst ek
          simp only [if_true]
          rw [upd_s]
          exact ⟨ha, fun _ => rfl, fun q1 => ⟨(h1 q1).1, (h1 q1).2.1⟩⟩
        · simp only [if_neg ek]
          rw [upd_n (by omega), upd_n (by omega)]
          exact c9 i' hi k' hk'
      · simp only [if_neg e]
        have n1' := far (S := S) (a := 2 + k') (b := 2 + k) e (by omega) (by omega)
        have n2' := far (S := S) (a := 2 + k') (b := 0) e (by omega) (by omega)
        rw [upd_n (by omega), upd_n (by omega)]
        exact c9 i' hi' k' hk'
    · have := pf_lt S hi
      rw [upd_n (by omega), upd_n (by omega)]
      exact c10 x' hx1 hx2
  · refine ⟨m1, m2, m3, m4, m5, m6, m7, fun i' hi' k' hk' => ?_, m9⟩
    by_cases e : i' = i
    · subst e
      simp only [if_true]
      by_cases ek : k' = k
      · subst ek
        simp only [if_true]
        rw [upd_s, upd_s]
        exact ⟨ha, rfl, fun q0 => (h0 q0).symm, fun q1 => ⟨(h1 q1).1, (h1 q1).2.2⟩⟩
      · simp only [if_neg ek]
        rw [upd_n (by omega), upd_n (by omega)]
        exact m8 i' hi k' hk'
    · simp only [if_neg e]
      have no : ¬ o i' = o i := fun z => e (m4 i' i hi' hi z)
      have s1 := (m7 i' hi').1
      rw [upd_n (by omega), upd_n (by omega)]
      exact m8 i' hi' k' hk'
end OPS
/-- class and reference stand at the same picture -/
def Sim (w r st : Nat → Int32) (tp cn sr : Int32) (mk : Int32) (us fi sE ki va : Nat → Int32) (ct : Int32) (od ro : Nat → Int32) : Prop :=
  sr = mk ∧ ∃ (n : Nat) (S : Nat → Nat) (Kd g : Nat → Nat → Nat) (nu : Nat → Nat → Int32) (se : Nat → Int32) (rt o : Nat → Nat), CX n S Kd g nu se rt w r st tp cn ∧ RX n S Kd g nu se rt o us fi sE ki va ct od ro
