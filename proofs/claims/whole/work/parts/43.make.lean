section MKO
variable {n : Nat} {S : Nat → Nat} {Kd g : Nat → Nat → Nat} {nu : Nat → Nat → Int32} {se : Nat → Int32} {rt o : Nat → Nat} {w r st : Nat → Int32} {tp cn : Int32} {us fi sE ki va : Nat → Int32} {ct : Int32} {od ro : Nat → Int32}
theorem r_topNow (hM : RX n S Kd g nu se rt o us fi sE ki va ct od ro) : fX1_topNow fi ct od = some (nI (pf S n)) := by
  have hn := hM.1
  have aux : ∀ (fu i : Nat), i ≤ n → n - i < fu → ∃ y, fX1_topNow_L4 fi (nI n) od fu (nI (pf S i)) (nI i) = some (nI (pf S n), y) := by
    intro fu
    induction fu with
    | zero => intro i q1 q2; exact absurd q2 (by omega)
    | succ fu ih =>
      intro i q1 q2
      rw [fX1_topNow_L4_s]
      by_cases e : i = n
      · subst e; exact ⟨_, by rw [if_pos (nI_le (Nat.le_refl _) (by omega))]⟩
      · obtain ⟨o1, o2⟩ := hM.2.2.1 i (by omega)
        rw [if_neg (nI_ge (by omega) (by omega)), ld_k (by omega) (by omega), sb, o2, ld_k o1 (by omega), sb, (hM.2.2.2.2.2.2.1 i (by omega)).2.1, n2, nI_add, nI_add, nI_1]
        exact ih (i + 1) (by omega) (by omega)
  obtain ⟨y, hy⟩ := aux FU 0 (by omega) (by unfold FU; omega)
  unfold fX1_topNow
  rw [hM.2.1, n0]
  rw [show fX1_topNow_L4 fi (nI n) od FU (nI 0) (nI 0) = _ from hy, sb]
theorem r_addressOf (hM : RX n S Kd g nu se rt o us fi sE ki va ct od ro) {j : Nat} (hj : okj n j) : fX1_addressOf fi ct od (adr o j) = some (adr (pf S) j) := by
  have hn := hM.1
  unfold fX1_addressOf
  rw [hM.2.1, n0]
  by_cases e0 : j = 1000
  · subst e0
    have aux : ∀ (fu i : Nat), i ≤ n → n - i < fu → ∃ y z, fX1_addressOf_L4 (-1 : Int32) fi (nI n) od fu (nI (pf S i)) (nI i) = some (0, y, z, 0) := by
      intro fu
      induction fu with
      | zero => intro i q1 q2; exact absurd q2 (by omega)
      | succ fu ih =>
        intro i q1 q2
        rw [fX1_addressOf_L4_s]
        by_cases e : i = n
        · subst e; exact ⟨_, _, by rw [if_pos (nI_le (Nat.le_refl _) (by omega))]⟩
        · obtain ⟨o1, o2⟩ := hM.2.2.1 i (by omega)
          rw [if_neg (nI_ge (by omega) (by omega)), ld_k (by omega) (by omega), sb, o2, if_neg (m1_ne (by omega)), sb, ld_k o1 (by omega), sb, (hM.2.2.2.2.2.2.1 i (by omega)).2.1, n2, nI_add, nI_add, nI_1]
          exact ih (i + 1) (by omega) (by omega)
    obtain ⟨y, z, hy⟩ := aux FU 0 (by omega) (by unfold FU; omega)
    rw [adr_no, adr_no, show fX1_addressOf_L4 (-1 : Int32) fi (nI n) od FU (nI 0) (nI 0) = _ from hy, sb]
    rfl
  · have hjn := hj.resolve_left e0
    have aux : ∀ (fu i : Nat), i ≤ j → j - i < fu → ∃ y z, fX1_addressOf_L4 (nI (o j)) fi (nI n) od fu (nI (pf S i)) (nI i) = some (1, y, z, nI (pf S j)) := by
      intro fu
      induction fu with
      | zero => intro i q1 q2; exact absurd q2 (by omega)
      | succ fu ih =>
        intro i q1 q2
        obtain ⟨o1, o2⟩ := hM.2.2.1 i (by omega)
        have o3 := hM.o128 j hjn
        rw [fX1_addressOf_L4_s, if_neg (nI_ge (by omega) (by omega)), ld_k (by omega) (by omega), sb, o2]
        by_cases e : i = j
        · subst e; exact ⟨_, _, by rw [if_pos rfl]⟩
        · rw [if_neg (fun z => e (hM.2.2.2.1 i j (by omega) hjn (by rw [nI_eq (by omega) (by omega)] at z; exact z))), sb, ld_k o1 (by omega), sb, (hM.2.2.2.2.2.2.1 i (by omega)).2.1, n2, nI_add, nI_add, nI_1]
          exact ih (i + 1) (by omega) (by omega)
    obtain ⟨y, z, hy⟩ := aux FU 0 (by omega) (by unfold FU; omega)
    rw [adr_at e0, adr_at e0, show fX1_addressOf_L4 (nI (o j)) fi (nI n) od FU (nI 0) (nI 0) = _ from hy, sb]
    rfl
theorem r_free (hM : RX n S Kd g nu se rt o us fi sE ki va ct od ro) (hn : n < 128) : ∃ t, t < 128 ∧ us t = 0 ∧ fX1_make_L2 us FU 0 = some (nI t) := by
  have aux : ∀ (fu t : Nat), t ≤ 128 → 128 - t < fu → (∀ t', t' < t → us t' = 1) → ∃ t0, t0 < 128 ∧ us t0 = 0 ∧ fX1_make_L2 us fu (nI t) = some (nI t0) := by
    intro fu
    induction fu with
    | zero => intro t q1 q2; exact absurd q2 (by omega)
    | succ fu ih =>
      intro t q1 q2 a1
      have ht : t < 128 := by
        rcases Nat.lt_or_ge t 128 with q | q
        · exact q
        · exfalso
          have ex : ∀ t, ∃ i, t < 128 → (i < n ∧ o i = t) := fun t => by
            by_cases ht : t < 128
            · rcases hM.2.2.2.2.1 t ht with ⟨z, _⟩ | ⟨_, i, hi⟩
              · rw [a1 t (by omega)] at z; exact absurd z one0
              · exact ⟨i, fun _ => hi⟩
            · exact ⟨0, fun z => absurd z ht⟩
          have := pigeon n 128 (fun t => Classical.choose (ex t)) (fun t ht => (Classical.choose_spec (ex t) ht).1) (fun a b ha hb e => by
            have e1 := (Classical.choose_spec (ex a) ha).2
            have e2 := (Classical.choose_spec (ex b) hb).2
            have e' : Classical.choose (ex a) = Classical.choose (ex b) := e
            rw [e'] at e1
            exact e1.symm.trans e2)
          omega
      rw [fX1_make_L2_s, ld_k ht (by omega), sb]
      rcases hM.2.2.2.2.1 t ht with ⟨z, _⟩ | ⟨z, _⟩
      · exact ⟨t, ht, z, by rw [if_pos z]⟩
      · rw [if_neg (by rw [z]; exact one0), nI_1]
        refine ih (t + 1) (by omega) (by omega) (fun t' q => ?_)
        by_cases e : t' = t
        · subst e; exact z
        · exact a1 t' (by omega)
  exact aux FU 0 (by omega) (by unfold FU; omega) (fun t' q => absurd q (by omega))
theorem r_blank {t : Nat} (ht : t < 128) (k1 v1 : Nat → Int32) : ∃ (y : Int32) (k2 v2 : Nat → Int32), fX1_make_L54 (nI t) FU 0 k1 v1 = some (y, k2, v2) ∧ (∀ x, (x < 6 * t ∨ 6 * t + 6 ≤ x) → k2 x = k1 x ∧ v2 x = v1 x) ∧ (∀ k, k < 6 → k2 (6 * t + k) = 0 ∧ v2 (6 * t + k) = 0) := by
  have aux : ∀ (fu k : Nat) (k3 v3 : Nat → Int32), k ≤ 6 → 6 - k < fu → (∀ x, (x < 6 * t ∨ 6 * t + 6 ≤ x) → k3 x = k1 x ∧ v3 x = v1 x) → (∀ k', k' < k → k3 (6 * t + k') = 0 ∧ v3 (6 * t + k') = 0) →
      ∃ (y : Int32) (k2 v2 : Nat → Int32), fX1_make_L54 (nI t) fu (nI k) k3 v3 = some (y, k2, v2) ∧ (∀ x, (x < 6 * t ∨ 6 * t + 6 ≤ x) → k2 x = k1 x ∧ v2 x = v1 x) ∧ (∀ k, k < 6 → k2 (6 * t + k) = 0 ∧ v2 (6 * t + k) = 0) := by
    intro fu
    induction fu with
    | zero => intro k k3 v3 q1 q2; exact absurd q2 (by omega)
    | succ fu ih =>
      intro k k3 v3 q1 q2 a1 a2
      rw [fX1_make_L54_s]
      by_cases e : k = 6
      · subst e
        exact ⟨_, k3, v3, by rw [n6, if_pos (nI_le (Nat.le_refl _) (by omega))], a1, a2⟩
      · rw [if_neg (by rw [n6]; exact nI_ge (by omega) (by omega)), ix6, st_k (by omega) (by omega), sb, st_k (by omega) (by omega), sb, nI_1]
        refine ih (k + 1) _ _ (by omega) (by omega) (fun x hx => ?_) (fun k' q => ?_)
        · rw [upd_n (by omega), upd_n (by omega)]; exact a1 x hx
        · by_cases ek : k' = k
          · subst ek; rw [upd_s, upd_s]; exact ⟨rfl, rfl⟩
          · rw [upd_n (by omega), upd_n (by omega)]; exact a2 k' (by omega)
  exact aux FU 0 k1 v1 (by omega) (by unfold FU; omega) (fun _ _ => ⟨rfl, rfl⟩) (fun k' q => absurd q (by omega))
/-- a new object, at the top -/
theorem sim_make (hC : CX n S Kd g nu se rt w r st tp cn) (hM : RX n S Kd g nu se rt o us fi sE ki va ct od ro) {q f : Nat} (hq : q < 8) (hf : f ≤ 6) (hr : pf S n + 2 + f ≤ 256) (sr : Int32) :
    ∃ (S' : Nat → Nat) (Kd' : Nat → Nat → Nat) (nu' : Nat → Nat → Int32) (se' : Nat → Int32) (rt' o' : Nat → Nat) (w' r' st' : Nat → Int32) (tp' cn' : Int32) (us' fi' sE' ki' va' od' ro' : Nat → Int32),
      fX0_makeObject w r st tp cn sr (nI q) (nI f) = some (sr + 1, w', r', st', tp', cn', sr + 1) ∧ fX1_make sr us fi sE ki va ct od ro (nI q) (nI f) = some (sr + 1, sr + 1, us', fi', sE', ki', va', cn', od', ro') ∧
      CX (n + 1) S' Kd' g nu' se' rt' w' r' st' tp' cn' ∧ RX (n + 1) S' Kd' g nu' se' rt' o' us' fi' sE' ki' va' cn' od' ro' := by
  obtain ⟨h1, h2, h3, h4, h5, h6, h7, h8, h9, h10⟩ := id hC
  obtain ⟨m1, m2, m3, m4, m5, m6, m7, m8, m9⟩ := id hM
  have hpn := pf_le S (Nat.zero_le n)
  have hp0 : pf S 0 = 0 := rfl
  have hn : n < 128 := by omega
  obtain ⟨t, ht, hut, hL2⟩ := r_free hM hn
  obtain ⟨y, k2, v2, b1, b2, b3⟩ := r_blank ht ki va
  have hS : ∀ i, i ≤ n → pf (fun i => if i = n then f else S i) i = pf S i := pf_congr (n := n) (fun i hi => if_neg (by omega))
  have hS1 : pf (fun i => if i = n then f else S i) (n + 1) = pf S n + f + 2 := by
    show pf (fun i => if i = n then f else S i) n + (if n = n then f else S n) + 2 = _
    rw [hS n (Nat.le_refl _), if_pos rfl]
  have hadr : ∀ j, okj n j → adr (pf (fun i => if i = n then f else S i)) j = adr (pf S) j := fun j hj => by
    rcases hj with rfl | hj
    · rw [adr_no, adr_no]
    · rw [adr_at (by omega), adr_at (by omega), hS j (by omega)]
  have hto : ∀ i, i < n → ¬ o i = t := fun i hi z => by
    rcases m5 t ht with ⟨_, z2⟩ | ⟨z1, _⟩
    · exact z2 i hi z
    · rw [hut] at z1; exact absurd z1.symm one0
  have hado : ∀ j, okj n j → adr (fun i => if i = n then t else o i) j = adr o j := fun j hj => by
    rcases hj with rfl | hj
    · rw [adr_no, adr_no]
    · rw [adr_at (by omega), adr_at (by omega)]; show nI (if j = n then t else o j) = _; rw [if_neg (by omega)]
  have ok1 : ∀ j, okj n j → okj (n + 1) j := fun j hj => hj.elim Or.inl (fun z => Or.inr (by omega))
  refine ⟨fun i => if i = n then f else S i, fun i => if i = n then (fun _ => 0) else Kd i, fun i => if i = n then (fun _ => 0) else nu i, fun i => if i = n then sr + 1 else se i, fun p => if p = q then n else rt p, fun i => if i = n then t else o i,
    upd (upd w (pf S n) (nI f)) (pf S n + 1) (sr + 1), upd r q (nI (pf S n)), upd st n (nI (pf S n)), nI (pf S n + f + 2), nI (n + 1), upd us t 1, upd fi t (nI f), upd sE t (sr + 1), k2, v2, upd od n (nI t), upd ro q (nI t), ?_, ?_, ?_, ?_⟩
  · unfold fX0_makeObject
    rw [h4, st_k (by omega) (by omega), sb, nI_1, st_k (by omega) (by omega), sb, st_k hq (by omega), sb, h5, st_k (by omega) (by omega), sb, n2, nI_add, nI_add, nI_1]
    rw [show pf S n + (2 + f) = pf S n + f + 2 by omega]
  · unfold fX1_make
    rw [hL2, sb, stz_k ht (by omega), sb, nar1, st_k ht (by omega), sb, st_k ht (by omega), sb, b1, sb]
    dsimp only
    rw [m2, st_k (by omega) (by omega), sb, st_k hq (by omega), sb, nI_1]
  · refine ⟨by omega, fun i hi => ?_, by rw [hS1]; omega, by rw [hS1], rfl, fun i hi => ?_, fun p hp => ?_, fun i hi => ?_, fun i hi k hk => ?_, fun j hj1 hj2 => ?_⟩
    · by_cases e : i = n
      · simp only [if_pos e]; exact hf
      · simp only [if_neg e]; exact h2 i (by omega)
    · rw [hS i (by omega)]
      by_cases e : i = n
      · subst e; rw [upd_s]
      · rw [upd_n e]; exact h6 i (by omega)
    · by_cases e : p = q
      · subst e
        rw [upd_s]
        simp only [if_true]
        exact ⟨Or.inr (by omega), by rw [adr_at (by omega), hS n (Nat.le_refl _)]⟩
      · rw [upd_n e]
        simp only [if_neg e]
        exact ⟨ok1 _ (h7 p hp).1, by rw [hadr _ (h7 p hp).1]; exact (h7 p hp).2⟩
    · rw [hS i (by omega)]
      by_cases e : i = n
      · subst e
        simp only [if_true]
        refine ⟨?_, upd_s⟩
        rw [upd_n (by omega), upd_s]
        exact HD.new hf
      · have := pf_lt S (show i < n by omega)
        simp only [if_neg e]
        rw [upd_n (by omega), upd_n (by omega), upd_n (by omega), upd_n (by omega)]
        exact h8 i (by omega)
    · rw [hS i (by omega)]
      by_cases e : i = n
      · subst e
        simp only [if_true] at hk ⊢
        rw [upd_n (by omega), upd_n (by omega)]
        exact ⟨by omega, fun _ => h10 _ (by omega) (by omega), fun z => absurd trivial z⟩
      · have := pf_lt S (show i < n by omega)
        simp only [if_neg e] at hk ⊢
        rw [upd_n (by omega), upd_n (by omega)]
        obtain ⟨c1, c2, c3⟩ := h9 i (by omega) k hk
        exact ⟨c1, c2, fun z => ⟨ok1 _ (c3 z).1, by rw [hadr _ (c3 z).1]; exact (c3 z).2⟩⟩
    · rw [hS1] at hj1
      rw [upd_n (by omega), upd_n (by omega)]
      exact h10 j (by omega) hj2
  · refine ⟨by omega, rfl, fun i hi => ?_, fun i j hi hj e => ?_, fun t' ht' => ?_, fun t' ht' => ?_, fun i hi => ?_, fun i hi k hk => ?_, fun p hp => ?_⟩
    · by_cases e : i = n
      · subst e; simp only [if_true]; rw [upd_s]; exact ⟨ht, rfl⟩
      · simp only [if_neg e]; rw [upd_n e]; exact m3 i (by omega)
    · by_cases ei : i = n
      · by_cases ej : j = n
        · omega
        · simp only [if_pos ei, if_neg ej] at e
          exact absurd e.symm (hto j (by omega))
      · by_cases ej : j = n
        · simp only [if_neg ei, if_pos ej] at e
          exact absurd e (hto i (by omega))
        · simp only [if_neg ei, if_neg ej] at e
          exact m4 i j (by omega) (by omega) e
    · by_cases e : t' = t
      · subst e; rw [upd_s]; exact Or.inr ⟨rfl, n, by omega, if_pos rfl⟩
      · rw [upd_n e]
        rcases m5 t' ht' with ⟨z1, z2⟩ | ⟨z1, i, z2, z3⟩
        · refine Or.inl ⟨z1, fun i hi => ?_⟩
          by_cases ei : i = n
          · simp only [if_pos ei]; exact fun z => e z.symm
          · simp only [if_neg ei]; exact z2 i (by omega)
        · exact Or.inr ⟨z1, i, by omega, by show (if i = n then t else o i) = t'; rw [if_neg (by omega)]; exact z3⟩
    · by_cases e : t' = t
      · subst e; rw [upd_s]; exact ⟨f, hf, rfl⟩
      · rw [upd_n e]; exact m6 t' ht'
    · by_cases e : i = n
      · subst e; simp only [if_true]; rw [upd_s, upd_s]; exact ⟨hf, rfl, rfl⟩
      · simp only [if_neg e]; rw [upd_n (hto i (by omega)), upd_n (hto i (by omega))]; exact m7 i (by omega)
    · by_cases e : i = n
      · subst e
        simp only [if_true] at hk ⊢
        obtain ⟨c1, c2⟩ := b3 k (by omega)
        exact ⟨by omega, c1, fun _ => c2, fun z => absurd trivial z⟩
      · simp only [if_neg e] at hk ⊢
        have hoi := hto i (by omega)
        have hS6 := (m7 i (by omega)).1
        obtain ⟨c1, c2, c3, c4⟩ := m8 i (by omega) k hk
        obtain ⟨e1, e2⟩ := b2 (6 * o i + k) (by omega)
        rw [e1, e2]
        exact ⟨c1, c2, c3, fun z => ⟨ok1 _ (c4 z).1, by rw [hado _ (c4 z).1]; exact (c4 z).2⟩⟩
    · by_cases e : p = q
      · subst e
        rw [upd_s]
        simp only [if_true]
        exact ⟨Or.inr (by omega), by rw [adr_at (by omega)]; show _ = nI (if n = n then t else o n); rw [if_pos rfl]⟩
      · rw [upd_n e]
        simp only [if_neg e]
        exact ⟨ok1 _ (m9 p hp).1, by rw [hado _ (m9 p hp).1]; exact (m9 p hp).2⟩
end MKO
