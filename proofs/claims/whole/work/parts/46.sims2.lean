section SIMT
variable {n : Nat} {S : Nat → Nat} {Kd g : Nat → Nat → Nat} {nu : Nat → Nat → Int32} {se : Nat → Int32} {rt o : Nat → Nat} {w r st : Nat → Int32} {tp cn sr mk : Int32} {us fi sE ki va : Nat → Int32} {ct : Int32} {od ro : Nat → Int32}
/-- the reference's word of an object -/
theorem r_head (hM : RX n S Kd g nu se rt o us fi sE ki va ct od ro) {i : Nat} (hi : i < n) : ∃ (x y : Int32), fX1_wordOf_L65 (nI (o i)) fi ki FU (nI (S i)) 0 = some (x, y) ∧ HD x (S i) (Kd i) := by
  have ho := hM.o128 i hi
  obtain ⟨hS, hf, _⟩ := hM.2.2.2.2.2.2.1 i hi
  have aux : ∀ (fu k : Nat) (x : Int32), k ≤ S i → S i - k < fu → HD x (S i) (fun j => if j < k then Kd i j else 0) → ∃ (x' y : Int32), fX1_wordOf_L65 (nI (o i)) fi ki fu x (nI k) = some (x', y) ∧ HD x' (S i) (Kd i) := by
    intro fu
    induction fu with
    | zero => intro k x q1 q2; exact absurd q2 (by omega)
    | succ fu ih =>
      intro k x q1 q2 hx
      rw [fX1_wordOf_L65_s, ld_k ho (by omega), sb, hf]
      by_cases e : k = S i
      · refine ⟨x, nI k, ?_, hx.congr (fun j hj => ?_)⟩
        · rw [e, if_pos (nI_le (Nat.le_refl _) (by omega))]
        · simp only [if_pos (show j < k by omega)]
      · have hk : k < S i := by omega
        obtain ⟨d1, d2, d3, d4⟩ := hM.2.2.2.2.2.2.2.1 i hi k hk
        have k0 : (fun j => if j < k then Kd i j else 0) k = 0 := if_neg (by omega)
        rw [if_neg (nI_ge hk (by omega)), ix6, ld_k (by omega) (by omega), sb, d2]
        by_cases k1 : Kd i k = 1
        · rw [k1, if_pos (show nI 1 = 1 from rfl), mul16 k (by omega), nI_1]
          refine ih (k + 1) _ (by omega) (by omega) ((hx.addS hS hk k0).congr (fun j hj => ?_))
          by_cases ej : j = k
          · subst ej; simp only [if_true, if_pos (show j < j + 1 by omega), k1]
          · by_cases ej2 : j < k
            · simp only [if_neg ej, if_pos ej2, if_pos (show j < k + 1 by omega)]
            · simp only [if_neg ej, if_neg ej2, if_neg (show ¬ j < k + 1 by omega)]
        · rw [if_neg (fun z => k1 (by rw [n1, nI_eq (by omega) (by omega)] at z; exact z)), sb]
          by_cases k2 : Kd i k = 2
          · rw [k2, if_pos (show nI 2 = 2 from rfl), mul1024 k (by omega), nI_1]
            refine ih (k + 1) _ (by omega) (by omega) ((hx.addW hS hk k0).congr (fun j hj => ?_))
            by_cases ej : j = k
            · subst ej; simp only [if_true, if_pos (show j < j + 1 by omega), k2]
            · by_cases ej2 : j < k
              · simp only [if_neg ej, if_pos ej2, if_pos (show j < k + 1 by omega)]
              · simp only [if_neg ej, if_neg ej2, if_neg (show ¬ j < k + 1 by omega)]
          · rw [if_neg (fun z => k2 (by rw [n2, nI_eq (by omega) (by omega)] at z; exact z)), nI_1]
            refine ih (k + 1) _ (by omega) (by omega) (hx.congr (fun j hj => ?_))
            by_cases ej : j = k
            · subst ej; simp only [if_neg (show ¬ j < j by omega), if_pos (show j < j + 1 by omega)]; omega
            · by_cases ej2 : j < k
              · simp only [if_pos ej2, if_pos (show j < k + 1 by omega)]
              · simp only [if_neg ej2, if_neg (show ¬ j < k + 1 by omega)]
  exact aux FU 0 (nI (S i)) (by omega) (by unfold FU; omega) ((HD.new hS).congr (fun j hj => if_neg (by omega)))
theorem r_wordOf (hC : CX n S Kd g nu se rt w r st tp cn) (hM : RX n S Kd g nu se rt o us fi sE ki va ct od ro) {i d : Nat} (hi : i < n) (hd : d < S i + 2) : fX1_wordOf fi sE ki va ct od (nI (o i)) (nI d) = some (w (pf S i + d)) := by
  have ho := hM.o128 i hi
  obtain ⟨hS, hf, hse⟩ := hM.2.2.2.2.2.2.1 i hi
  obtain ⟨c8, c8'⟩ := hC.2.2.2.2.2.2.2.1 i hi
  unfold fX1_wordOf
  by_cases e1 : d = 1
  · subst e1
    rw [if_pos (show nI 1 = 1 from rfl), ld_k ho (by omega), sb, hse, c8']
  · rw [if_neg (fun z => e1 (by rw [n1, nI_eq (by omega) (by omega)] at z; exact z))]
    by_cases e0 : d = 0
    · subst e0
      obtain ⟨x, y, h1, h2⟩ := r_head hM hi
      rw [if_pos (by decide), ld_k ho (by omega), sb, hf, h1, sb, Nat.add_zero, h2.uniq c8]
    · obtain ⟨k, rfl⟩ : ∃ k, d = k + 2 := ⟨d - 2, by omega⟩
      have hk : k < S i := by omega
      obtain ⟨d1, d2, d3, d4⟩ := hM.2.2.2.2.2.2.2.1 i hi k hk
      obtain ⟨c1, c2, c3⟩ := hC.2.2.2.2.2.2.2.2.1 i hi k hk
      have hix : (6 : Int32) * nI (o i) + nI (k + 2) - 2 = nI (6 * o i + k) := by
        rw [ix6, n2, pk_sub (by omega), show 6 * o i + (k + 2) - 2 = 6 * o i + k by omega]
      rw [if_neg (by rw [n1, nI_leI (by omega) (by omega)]; omega), hix, ld_k (by omega) (by omega), sb, d2, show pf S i + (k + 2) = pf S i + 2 + k by omega]
      by_cases k0 : Kd i k = 0
      · rw [k0, if_pos (show nI 0 = 0 from rfl), ld_k (by omega) (by omega), sb, d3 k0, c2 k0]
      · rw [if_neg (fun z => k0 (by rw [n0, nI_eq (by omega) (by omega)] at z; exact z)), ld_k (by omega) (by omega), sb, (d4 k0).2, r_addressOf hM (d4 k0).1, sb, (c3 k0).2]
theorem S_word (h : Sim w r st tp cn sr mk us fi sE ki va ct od ro) (th x1 : Int32) : ∃ (e : Nat) (a : Int32), fX0_word w x1 = some (e, a) ∧ fX1_word th fi sE ki va ct od x1 = some (a, nI e) ∧ (e = 0 ∨ e = 1) := by
  obtain ⟨hs, n, S, Kd, g, nu, se, rt, o, hC, hM⟩ := h
  unfold fX0_word fX1_word
  have hn := hC.1
  rcases ix_cases x1 256 (by omega) with h1 | ⟨a, h1, rfl⟩
  · refine ⟨1, 0, ?_, ?_, Or.inr rfl⟩
    · by_cases h0 : x1 < 0
      · rw [if_pos h0]
      · have h2 : ¬ x1 < 256 := fun z => by
          have z1 := Int32.lt_iff_toInt_lt.mp z
          have z2 := Int32.le_iff_toInt_le.mp (h1.resolve_left h0)
          rw [n256] at z1
          omega
        rw [if_neg h0, if_neg h2]
    · by_cases h0 : x1 < 0
      · rw [if_pos h0]; rfl
      · rw [if_neg h0, if_pos (show (256 : Int32) ≤ x1 from h1.resolve_left h0)]; rfl
  · refine ⟨0, w a, ?_, ?_, Or.inl rfl⟩
    · rw [if_neg (nI_pos (by omega)), if_pos (by rw [n256]; exact nI_lt h1 (by omega)), ld_k h1 (by omega), sb]
    · have aux : ∀ (fu i : Nat), i ≤ n → n - i < fu → pf S i ≤ a → (∃ y z, fX1_word_L33 (nI a) fi sE ki va (nI n) od fu (nI (pf S i)) (nI i) = some (0, y, z, 0) ∧ w a = 0) ∨ (∃ y z, fX1_word_L33 (nI a) fi sE ki va (nI n) od fu (nI (pf S i)) (nI i) = some (1, y, z, w a)) := by
        intro fu
        induction fu with
        | zero => intro i q1 q2; exact absurd q2 (by omega)
        | succ fu ih =>
          intro i q1 q2 q3
          rw [fX1_word_L33_s]
          by_cases e : i = n
          · subst e
            exact Or.inl ⟨_, _, by rw [if_pos (nI_le (Nat.le_refl _) (by omega))], hC.2.2.2.2.2.2.2.2.2 a q3 h1⟩
          · have hi : i < n := by omega
            have hat := hC.at hi
            obtain ⟨o1, o2⟩ := hM.2.2.1 i hi
            have hS := hC.2.1 i hi
            have hpf : pf S (i + 1) = pf S i + S i + 2 := rfl
            rw [if_neg (nI_ge (by omega) (by omega)), ld_k (by omega) (by omega), sb, o2, ld_k o1 (by omega), sb, (hM.2.2.2.2.2.2.1 i hi).2.1, n2, nI_add, nI_add]
            by_cases ea : pf S i + (S i + 2) ≤ a
            · rw [if_pos (nI_le ea (by omega)), nI_1, show pf S i + (S i + 2) = pf S (i + 1) by omega]
              exact ih (i + 1) (by omega) (by omega) (by omega)
            · have hwo := r_wordOf hC hM (i := i) (d := a - pf S i) hi (by omega)
              rw [hM.2.1] at hwo
              rw [if_neg (nI_ge (by omega) (by omega)), sb, pk_sub q3, hwo, sb, show pf S i + (a - pf S i) = a by omega]
              exact Or.inr ⟨_, _, rfl⟩
      rw [if_neg (nI_pos (by omega)), if_neg (by rw [n256]; exact nI_ge h1 (by omega)), hM.2.1, n0]
      rcases aux FU 0 (by omega) (by unfold FU; omega) (Nat.zero_le _) with ⟨y, z, h2, h3⟩ | ⟨y, z, h2⟩
      · rw [show fX1_word_L33 (nI a) fi sE ki va (nI n) od FU (nI 0) (nI 0) = _ from h2, sb, h3]; rfl
      · rw [show fX1_word_L33 (nI a) fi sE ki va (nI n) od FU (nI 0) (nI 0) = _ from h2, sb]; rfl
theorem flds_in {f : Nat} (h : f ≤ 6) : fX0_requireFieldCount (nI f) = some 0 ∧ fX1_isFields (nI f) = some 1 := by
  unfold fX0_requireFieldCount fX1_isFields
  rw [if_neg (nI_pos (by omega)), if_neg (nI_pos (by omega)), n6, if_pos (nI_le h (by omega)), if_neg (fun e => by rw [nI_ltI (by omega) (by omega)] at e; omega)]
  exact ⟨rfl, rfl⟩
theorem flds_out {x : Int32} (h : x < 0 ∨ nI 7 ≤ x) : fX0_requireFieldCount x = some 2 ∧ fX1_isFields x = some 0 := by
  unfold fX0_requireFieldCount fX1_isFields
  by_cases h0 : x < 0
  · rw [if_pos h0, if_pos h0]; exact ⟨rfl, rfl⟩
  · have h2 := Int32.le_iff_toInt_le.mp (h.resolve_left h0)
    rw [nI_toInt (by omega)] at h2
    rw [if_neg h0, if_neg h0, if_neg (fun e => by have := Int32.le_iff_toInt_le.mp e; rw [n6, nI_toInt (by omega)] at this; omega), if_pos (Int32.lt_iff_toInt_lt.mpr (by rw [n6, nI_toInt (by omega)]; omega))]
    exact ⟨rfl, rfl⟩
theorem way_in {f : Nat} (h : f ≤ 2) : fX0_requireWay (nI f) = some 0 ∧ ¬ nI f < 0 ∧ nI f ≤ 2 := by
  unfold fX0_requireWay
  have h1 : nI f ≤ 2 := by rw [n2]; exact nI_le h (by omega)
  rw [if_neg (nI_pos (by omega)), if_pos h1]
  exact ⟨rfl, nI_pos (by omega), h1⟩
theorem way_out {x : Int32} (h : x < 0 ∨ nI 3 ≤ x) : fX0_requireWay x = some 2 ∧ (x < 0 ∨ ¬ x < 0 ∧ ¬ x ≤ 2) := by
  unfold fX0_requireWay
  by_cases h0 : x < 0
  · rw [if_pos h0]; exact ⟨rfl, Or.inl h0⟩
  · have h2 := Int32.le_iff_toInt_le.mp (h.resolve_left h0)
    rw [nI_toInt (by omega)] at h2
    have h3 : ¬ x ≤ 2 := fun e => by have := Int32.le_iff_toInt_le.mp e; rw [n2, nI_toInt (by omega)] at this; omega
    rw [if_neg h0, if_neg h3]
    exact ⟨rfl, Or.inr ⟨h0, h3⟩⟩
theorem r_fits (hC : CX n S Kd g nu se rt w r st tp cn) (hM : RX n S Kd g nu se rt o us fi sE ki va ct od ro) {f : Nat} (hf : f ≤ 6) : fX0_hasRoom tp (nI f) = some (if pf S n + 2 + f ≤ 256 then 1 else 0) ∧ fX1_fits fi ct od (nI f) = some (if pf S n + 2 + f ≤ 256 then 1 else 0) := by
  have h3 := hC.2.2.1
  refine ⟨by rw [hC.2.2.2.1]; exact x_hasRoom h3 hf, ?_⟩
  unfold fX1_fits
  rw [r_topNow hM, sb, n2, nI_add, nI_add, n256]
  by_cases h : pf S n + 2 + f ≤ 256
  · rw [if_neg (by rw [nI_ltI (by omega) (by omega)]; omega), if_pos h]
  · rw [if_pos (by rw [nI_ltI (by omega) (by omega)]; omega), if_neg h]
theorem S_allocate (h : Sim w r st tp cn sr mk us fi sE ki va ct od ro) (th x1 x2 : Int32) : ∃ (e : Nat) (a : Int32) (w' r' st' : Nat → Int32) (tp' cn' sr' mk' : Int32) (us' fi' sE' ki' va' : Nat → Int32) (ct' : Int32) (od' ro' : Nat → Int32),
    fX0_allocate w r st tp cn sr x1 x2 = some (e, a, w', r', st', tp', cn', sr') ∧ fX1_allocate th mk us fi sE ki va ct od ro x1 x2 = some (a, nI e, mk', us', fi', sE', ki', va', ct', od', ro') ∧ (e = 0 ∨ e = 1 ∨ e = 2 ∨ e = 3) ∧ Sim w' r' st' tp' cn' sr' mk' us' fi' sE' ki' va' ct' od' ro' := by
  obtain ⟨hs, n, S, Kd, g, nu, se, rt, o, hC, hM⟩ := h
  subst hs
  unfold fX0_allocate fX1_allocate
  rcases ix_cases x1 8 (by omega) with h1 | ⟨q, h1, rfl⟩
  · refine ⟨1, 0, w, r, st, tp, cn, sr, sr, us, fi, sE, ki, va, ct, od, ro, ?_, ?_, Or.inr (Or.inl rfl), rfl, n, S, Kd, g, nu, se, rt, o, hC, hM⟩
    · rw [(root_out h1).1, sb, if_neg (by decide)]
    · rw [(root_out h1).2, sb, if_pos rfl]; rfl
  · rcases ix_cases x2 7 (by omega) with h2 | ⟨f, h2, rfl⟩
    · refine ⟨2, 0, w, r, st, tp, cn, sr, sr, us, fi, sE, ki, va, ct, od, ro, ?_, ?_, Or.inr (Or.inr (Or.inl rfl)), rfl, n, S, Kd, g, nu, se, rt, o, hC, hM⟩
      · rw [(root_in h1).1, sb, if_pos rfl, (flds_out h2).1, sb, if_neg (by decide)]
      · rw [(root_in h1).2, sb, if_neg one0, (flds_out h2).2, sb, if_pos rfl]; rfl
    · obtain ⟨f1, f2⟩ := r_fits hC hM (f := f) (by omega)
      unfold fX0_requireRoom
      by_cases hr : pf S n + 2 + f ≤ 256
      · rw [if_pos hr] at f1 f2
        obtain ⟨S', Kd', nu', se', rt', o', w', r', st', tp', cn', us', fi', sE', ki', va', od', ro', s1, s2, s3, s4⟩ := sim_make hC hM h1 (show f ≤ 6 by omega) hr sr
        refine ⟨0, sr + 1, w', r', st', tp', cn', sr + 1, sr + 1, us', fi', sE', ki', va', cn', od', ro', ?_, ?_, Or.inl rfl, rfl, n + 1, S', Kd', g, nu', se', rt', o', s3, s4⟩
        · rw [(root_in h1).1, sb, if_pos rfl, (flds_in (by omega)).1, sb, if_pos rfl, f1, sb, if_neg one0, sb, if_pos rfl, s1, sb]
        · rw [(root_in h1).2, sb, if_neg one0, (flds_in (by omega)).2, sb, if_neg one0, f2, sb, if_neg one0, s2, sb]; rfl
      · rw [if_neg hr] at f1 f2
        refine ⟨3, 0, w, r, st, tp, cn, sr, sr, us, fi, sE, ki, va, ct, od, ro, ?_, ?_, Or.inr (Or.inr (Or.inr rfl)), rfl, n, S, Kd, g, nu, se, rt, o, hC, hM⟩
        · rw [(root_in h1).1, sb, if_pos rfl, (flds_in (by omega)).1, sb, if_pos rfl, f1, sb, if_pos rfl, sb, if_neg (by decide)]
        · rw [(root_in h1).2, sb, if_neg one0, (flds_in (by omega)).2, sb, if_neg one0, f2, sb, if_pos rfl]; rfl
theorem S_compact (h : Sim w r st tp cn sr mk us fi sE ki va ct od ro) (rc na : Nat → Int32) (rh : Int32) (li ne : Nat → Int32) (th x1 : Int32) : ∃ (e t : Nat) (a : Int32) (w' r' st' rc' na' : Nat → Int32) (tp' cn' rh' : Int32) (us' va' li' : Nat → Int32) (ct' : Int32) (od' ne' : Nat → Int32),
    fX0_compact w r st rc na tp cn rh x1 = some (e, a, w', r', st', rc', na', tp', cn', rh') ∧ fX1_compact th us fi ki va li ct od ne ro x1 = some (a, nI t, us', va', li', ct', od', ne') ∧ (e = 0 ∧ t = 0 ∨ e = 2 ∧ t = 1 ∨ e = 4 ∧ t = 2) ∧ Sim w' r' st' tp' cn' sr mk us' fi sE ki va' ct' od' ro := by
  obtain ⟨hs, n, S, Kd, g, nu, se, rt, o, hC, hM⟩ := h
  unfold fX0_compact fX1_compact
  rcases ix_cases x1 3 (by omega) with h1 | ⟨y, h1, rfl⟩
  · obtain ⟨w1, w2⟩ := way_out h1
    refine ⟨2, 1, 0, w, r, st, rc, na, tp, cn, rh, us, va, li, ct, od, ne, ?_, ?_, Or.inr (Or.inl ⟨rfl, rfl⟩), hs, n, S, Kd, g, nu, se, rt, o, hC, hM⟩
    · rw [w1, sb, if_neg (by decide)]
    · rcases w2 with z | ⟨z1, z2⟩
      · rw [if_pos z]; rfl
      · rw [if_neg z1, if_neg z2]; rfl
  · obtain ⟨w1, w2, w3⟩ := way_in (show y ≤ 2 by omega)
    have fin : (nI y = 1 → ∀ i, i < n → S i = S 0) → ∃ (c : Nat) (S' : Nat → Nat) (Kd' g' : Nat → Nat → Nat) (nu' : Nat → Nat → Int32) (se' : Nat → Int32) (rt' o' : Nat → Nat) (w' r' st' rc' na' : Nat → Int32) (rh' : Int32) (us' va' li' od' ne' : Nat → Int32),
      fX0_moveTogether w r st rc na tp cn rh (nI y) = some (w', r', st', rc', na', nI (pf S' c), nI c, rh') ∧ fX1_press us fi ki va li ct od ne ro (nI y) = some (us', va', li', nI c, od', ne') ∧ fX1_topNow fi (nI c) od' = some (nI (pf S' c)) ∧
      CX c S' Kd' g' nu' se' rt' w' r' st' (nI (pf S' c)) (nI c) ∧ RX c S' Kd' g' nu' se' rt' o' us' fi sE ki va' (nI c) od' ro := fun hz => by
      obtain ⟨c, S', Kd', g', nu', se', rt', o', w', r', st', rc', na', rh', us', va', li', od', ne', s1, s2, s3, s4⟩ := sim_press hC hM (nI y) hz rc na rh li ne
      exact ⟨c, S', Kd', g', nu', se', rt', o', w', r', st', rc', na', rh', us', va', li', od', ne', s1, s2, r_topNow s4, s3, s4⟩
    unfold fX0_requireSizesFor
    rw [if_neg w2, if_pos w3, w1, sb, if_pos rfl]
    by_cases e1 : nI y = 1
    · rw [if_pos e1, if_pos e1]
      rcases sim_one hC hM with ⟨o1, o2, o3⟩ | ⟨o1, o2⟩
      · obtain ⟨c, S', Kd', g', nu', se', rt', o', w', r', st', rc', na', rh', us', va', li', od', ne', s1, s2, s5, s3, s4⟩ := fin (fun _ => o3)
        refine ⟨0, 0, tp - nI (pf S' c), w', r', st', rc', na', nI (pf S' c), nI c, rh', us', va', li', nI c, od', ne', ?_, ?_, Or.inl ⟨rfl, rfl⟩, hs, c, S', Kd', g', nu', se', rt', o', s3, s4⟩
        · rw [o1, sb, if_neg one0, sb, if_pos rfl, s1, sb]
        · rw [o2, sb, if_neg one0, r_topNow hM, sb, s2, sb]
          dsimp only
          rw [s5, sb, hC.2.2.2.1]; rfl
      · refine ⟨4, 2, 0, w, r, st, rc, na, tp, cn, rh, us, va, li, ct, od, ne, ?_, ?_, Or.inr (Or.inr ⟨rfl, rfl⟩), hs, n, S, Kd, g, nu, se, rt, o, hC, hM⟩
        · rw [o1, sb, if_pos rfl, sb, if_neg (by decide)]
        · rw [o2, sb, if_pos rfl]; rfl
    · rw [if_neg e1, if_neg e1]
      obtain ⟨c, S', Kd', g', nu', se', rt', o', w', r', st', rc', na', rh', us', va', li', od', ne', s1, s2, s5, s3, s4⟩ := fin (fun z => absurd z e1)
      refine ⟨0, 0, tp - nI (pf S' c), w', r', st', rc', na', nI (pf S' c), nI c, rh', us', va', li', nI c, od', ne', ?_, ?_, Or.inl ⟨rfl, rfl⟩, hs, c, S', Kd', g', nu', se', rt', o', s3, s4⟩
      · rw [sb, if_pos rfl, s1, sb]
      · rw [r_topNow hM, sb, s2, sb]
        dsimp only
        rw [s5, sb, hC.2.2.2.1]; rfl
end SIMT
