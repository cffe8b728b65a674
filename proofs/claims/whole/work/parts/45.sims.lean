section SIMS
variable {w r st : Nat → Int32} {tp cn sr mk : Int32} {us fi sE ki va : Nat → Int32} {ct : Int32} {od ro : Nat → Int32}
theorem S_copy (h : Sim w r st tp cn sr mk us fi sE ki va ct od ro) (th x1 x2 : Int32) : ∃ (e : Nat) (r' ro' : Nat → Int32), fX0_copy r x1 x2 = some (e, r') ∧ fX1_copy th ro x1 x2 = some (nI e, ro') ∧ (e = 0 ∨ e = 1) ∧ Sim w r' st tp cn sr mk us fi sE ki va ct od ro' := by
  obtain ⟨hs, n, S, Kd, g, nu, se, rt, o, hC, hM⟩ := h
  unfold fX0_copy fX1_copy
  rcases ix_cases x1 8 (by omega) with h1 | ⟨q1, h1, rfl⟩
  · refine ⟨1, r, ro, ?_, ?_, Or.inr rfl, hs, n, S, Kd, g, nu, se, rt, o, hC, hM⟩
    · rw [(root_out h1).1, sb, if_neg (by decide)]
    · rw [(root_out h1).2, sb, if_pos rfl]; rfl
  · rcases ix_cases x2 8 (by omega) with h2 | ⟨q2, h2, rfl⟩
    · refine ⟨1, r, ro, ?_, ?_, Or.inr rfl, hs, n, S, Kd, g, nu, se, rt, o, hC, hM⟩
      · rw [(root_in h1).1, sb, if_pos rfl, (root_out h2).1, sb, if_neg (by decide)]
      · rw [(root_in h1).2, sb, if_neg one0, (root_out h2).2, sb, if_pos rfl]; rfl
    · have hq := hC.2.2.2.2.2.2.1 q2 h2
      have hq2 := hM.2.2.2.2.2.2.2.2 q2 h2
      refine ⟨0, _, _, ?_, ?_, Or.inl rfl, hs, n, S, Kd, g, nu, se, _, o, hC.root h1 hq.1, hM.root h1 hq.1⟩
      · rw [(root_in h1).1, sb, if_pos rfl, (root_in h2).1, sb, if_pos rfl, ld_k h2 (by omega), sb, st_k h1 (by omega), sb, hq.2]
      · rw [(root_in h1).2, sb, if_neg one0, (root_in h2).2, sb, if_neg one0, ld_k h2 (by omega), sb, st_k h1 (by omega), sb, hq2.2]; rfl
theorem S_clear (h : Sim w r st tp cn sr mk us fi sE ki va ct od ro) (th x1 : Int32) : ∃ (e : Nat) (r' ro' : Nat → Int32), fX0_clear r x1 = some (e, r') ∧ fX1_clear th ro x1 = some (nI e, ro') ∧ (e = 0 ∨ e = 1) ∧ Sim w r' st tp cn sr mk us fi sE ki va ct od ro' := by
  obtain ⟨hs, n, S, Kd, g, nu, se, rt, o, hC, hM⟩ := h
  unfold fX0_clear fX1_clear
  rcases ix_cases x1 8 (by omega) with h1 | ⟨q1, h1, rfl⟩
  · refine ⟨1, r, ro, ?_, ?_, Or.inr rfl, hs, n, S, Kd, g, nu, se, rt, o, hC, hM⟩
    · rw [(root_out h1).1, sb, if_neg (by decide)]
    · rw [(root_out h1).2, sb, if_pos rfl]; rfl
  · have hC' := hC.root h1 (j := 1000) (Or.inl rfl)
    have hM' := hM.root h1 (j := 1000) (Or.inl rfl)
    rw [adr_no] at hC' hM'
    refine ⟨0, _, _, ?_, ?_, Or.inl rfl, hs, n, S, Kd, g, nu, se, _, o, hC', hM'⟩
    · rw [(root_in h1).1, sb, if_pos rfl, st_k h1 (by omega), sb]
    · rw [(root_in h1).2, sb, if_neg one0, st_k h1 (by omega), sb]; rfl
theorem S_put (h : Sim w r st tp cn sr mk us fi sE ki va ct od ro) (th x1 x2 x3 : Int32) : ∃ (e t : Nat) (w' ki' va' : Nat → Int32), fX0_put w r x1 x2 x3 = some (e, w') ∧ fX1_put th fi ki va ro x1 x2 x3 = some (nI t, ki', va') ∧ (e = 0 ∧ t = 0 ∨ e = 1 ∧ t = 1 ∨ e = 5 ∧ t = 2) ∧ Sim w' r st tp cn sr mk us fi sE ki' va' ct od ro := by
  obtain ⟨hs, n, S, Kd, g, nu, se, rt, o, hC, hM⟩ := h
  unfold fX0_put fX1_put
  rcases ix_cases x1 8 (by omega) with h1 | ⟨q, h1, rfl⟩
  · refine ⟨1, 1, w, ki, va, ?_, ?_, Or.inr (Or.inl ⟨rfl, rfl⟩), hs, n, S, Kd, g, nu, se, rt, o, hC, hM⟩
    · rw [(root_out h1).1, sb, if_neg (by decide)]
    · unfold fX1_bar
      rw [(root_out h1).2, sb, if_pos rfl, sb, if_neg one0]; rfl
  · rcases bar_cases hC hM h1 x2 with ⟨e, b1, b2⟩ | ⟨b1, b2⟩ | ⟨i, k, e, e0, hi, hk, rfl, hr, hro, b1, b2⟩
    · refine ⟨5, 2, w, ki, va, ?_, ?_, Or.inr (Or.inr ⟨rfl, rfl⟩), hs, n, S, Kd, g, nu, se, rt, o, hC, hM⟩
      · rw [(root_in h1).1, sb, if_pos rfl, b1, sb, if_neg (by decide)]
      · rw [b2, sb, if_neg (by decide)]; rfl
    · refine ⟨1, 1, w, ki, va, ?_, ?_, Or.inr (Or.inl ⟨rfl, rfl⟩), hs, n, S, Kd, g, nu, se, rt, o, hC, hM⟩
      · rw [(root_in h1).1, sb, if_pos rfl, b1, sb, if_neg (by decide)]
      · rw [b2, sb, if_neg one0]; rfl
    · obtain ⟨Kd', g', nu', w', ki', va', s1, s2, s3, s4⟩ := sim_set hC hM (q := q) (a := 0) (x := x3) (y := x3) (j := 0) h1 hro hi hk (by omega) (fun _ => rfl) (fun z => absurd rfl z)
      refine ⟨0, 0, w', ki', va', ?_, ?_, Or.inl ⟨rfl, rfl⟩, hs, n, S, Kd', g', nu', se, rt, o, s3, s4⟩
      · rw [(root_in h1).1, sb, if_pos rfl, b1, sb, if_pos rfl, ld_k h1 (by omega), sb, hr, n0, s1, sb]
      · rw [b2, sb, if_pos rfl, show (0 : Int32) = nI 0 from rfl, s2, sb]
theorem S_refer (h : Sim w r st tp cn sr mk us fi sE ki va ct od ro) (th x1 x2 x3 x4 : Int32) : ∃ (e t : Nat) (w' ki' va' : Nat → Int32), fX0_refer w r x1 x2 x3 x4 = some (e, w') ∧ fX1_refer th fi ki va ro x1 x2 x3 x4 = some (nI t, ki', va') ∧ (e = 0 ∧ t = 0 ∨ e = 1 ∧ t = 1 ∨ e = 5 ∧ t = 2) ∧ Sim w' r st tp cn sr mk us fi sE ki' va' ct od ro := by
  obtain ⟨hs, n, S, Kd, g, nu, se, rt, o, hC, hM⟩ := h
  unfold fX0_refer fX1_refer
  rcases ix_cases x3 8 (by omega) with h3 | ⟨q3, h3, rfl⟩
  · refine ⟨1, 1, w, ki, va, ?_, ?_, Or.inr (Or.inl ⟨rfl, rfl⟩), hs, n, S, Kd, g, nu, se, rt, o, hC, hM⟩
    · rcases ix_cases x1 8 (by omega) with h1 | ⟨q, h1, rfl⟩
      · rw [(root_out h1).1, sb, if_neg (by decide)]
      · rw [(root_in h1).1, sb, if_pos rfl, (root_out h3).1, sb, if_neg (by decide)]
    · rw [(root_out h3).2, sb, if_pos rfl]; rfl
  · rcases ix_cases x1 8 (by omega) with h1 | ⟨q, h1, rfl⟩
    · refine ⟨1, 1, w, ki, va, ?_, ?_, Or.inr (Or.inl ⟨rfl, rfl⟩), hs, n, S, Kd, g, nu, se, rt, o, hC, hM⟩
      · rw [(root_out h1).1, sb, if_neg (by decide)]
      · unfold fX1_bar
        rw [(root_in h3).2, sb, if_neg one0, (root_out h1).2, sb, if_pos rfl, sb, if_neg one0]; rfl
    · rcases bar_cases hC hM h1 x2 with ⟨e, b1, b2⟩ | ⟨b1, b2⟩ | ⟨i, k, e, e0, hi, hk, rfl, hr, hro, b1, b2⟩
      · refine ⟨5, 2, w, ki, va, ?_, ?_, Or.inr (Or.inr ⟨rfl, rfl⟩), hs, n, S, Kd, g, nu, se, rt, o, hC, hM⟩
        · rw [(root_in h1).1, sb, if_pos rfl, (root_in h3).1, sb, if_pos rfl, b1, sb, if_neg (by decide)]
        · rw [(root_in h3).2, sb, if_neg one0, b2, sb, if_neg (by decide)]; rfl
      · refine ⟨1, 1, w, ki, va, ?_, ?_, Or.inr (Or.inl ⟨rfl, rfl⟩), hs, n, S, Kd, g, nu, se, rt, o, hC, hM⟩
        · rw [(root_in h1).1, sb, if_pos rfl, (root_in h3).1, sb, if_pos rfl, b1, sb, if_neg (by decide)]
        · rw [(root_in h3).2, sb, if_neg one0, b2, sb, if_neg one0]; rfl
      · obtain ⟨t1, t2⟩ := hC.2.2.2.2.2.2.1 q3 h3
        obtain ⟨t3, t4⟩ := hM.2.2.2.2.2.2.2.2 q3 h3
        by_cases h4 : x4 = 0
        · obtain ⟨Kd', g', nu', w', ki', va', s1, s2, s3, s4⟩ := sim_set hC hM (q := q) (a := 1) (x := adr (pf S) (rt q3)) (y := adr o (rt q3)) (j := rt q3) h1 hro hi hk (by omega) (fun z => absurd z (by decide)) (fun _ => ⟨t1, rfl, rfl⟩)
          refine ⟨0, 0, w', ki', va', ?_, ?_, Or.inl ⟨rfl, rfl⟩, hs, n, S, Kd', g', nu', se, rt, o, s3, s4⟩
          · rw [(root_in h1).1, sb, if_pos rfl, (root_in h3).1, sb, if_pos rfl, b1, sb, if_pos rfl, ld_k h1 (by omega), sb, hr, if_pos h4, ld_k h3 (by omega), sb, t2, n1, s1, sb]
          · rw [(root_in h3).2, sb, if_neg one0, b2, sb, if_pos rfl, if_pos h4, ld_k h3 (by omega), sb, t4, n1, s2, sb]; rfl
        · obtain ⟨Kd', g', nu', w', ki', va', s1, s2, s3, s4⟩ := sim_set hC hM (q := q) (a := 2) (x := adr (pf S) (rt q3)) (y := adr o (rt q3)) (j := rt q3) h1 hro hi hk (by omega) (fun z => absurd z (by decide)) (fun _ => ⟨t1, rfl, rfl⟩)
          refine ⟨0, 0, w', ki', va', ?_, ?_, Or.inl ⟨rfl, rfl⟩, hs, n, S, Kd', g', nu', se, rt, o, s3, s4⟩
          · rw [(root_in h1).1, sb, if_pos rfl, (root_in h3).1, sb, if_pos rfl, b1, sb, if_pos rfl, ld_k h1 (by omega), sb, hr, if_neg h4, ld_k h3 (by omega), sb, t2, n2, s1, sb]
          · rw [(root_in h3).2, sb, if_neg one0, b2, sb, if_pos rfl, if_neg h4, ld_k h3 (by omega), sb, t4, n2, s2, sb]; rfl
theorem S_top (h : Sim w r st tp cn sr mk us fi sE ki va ct od ro) (th : Int32) : fX0_top tp = some tp ∧ fX1_top th fi ct od = some (tp, 0) := by
  obtain ⟨hs, n, S, Kd, g, nu, se, rt, o, hC, hM⟩ := h
  unfold fX0_top fX1_top
  rw [r_topNow hM, sb, hC.2.2.2.1]
  exact ⟨rfl, rfl⟩
theorem S_objects (h : Sim w r st tp cn sr mk us fi sE ki va ct od ro) (th : Int32) : fX0_objects cn = some cn ∧ fX1_objects th ct = some (cn, 0) := by
  obtain ⟨hs, n, S, Kd, g, nu, se, rt, o, hC, hM⟩ := h
  unfold fX0_objects fX1_objects
  rw [hC.2.2.2.2.1, hM.2.1]
  exact ⟨rfl, rfl⟩
theorem S_alive (h : Sim w r st tp cn sr mk us fi sE ki va ct od ro) (rc na : Nat → Int32) (rh th : Int32) (li : Nat → Int32) : ∃ (a : Int32) (rc' na' : Nat → Int32) (rh' : Int32) (li' : Nat → Int32), fX0_alive w r rc na rh = some (a, rc', na', rh') ∧ fX1_alive th fi ki va li ct od ro = some (a, 0, li') := by
  obtain ⟨hs, n, S, Kd, g, nu, se, rt, o, hC, hM⟩ := h
  obtain ⟨ρ, m, rc1, na1, rh1, a1, a2, a3⟩ := x_findAlive hC rc na rh
  obtain ⟨li1, b1, b2, b3⟩ := r_findAlive hM li
  have hm : m = ctl (lvb o li1) n := ctl_enum (fun j hj => ⟨(a2.2.1 j hj).1, lvb_t.mpr ((a3.iff b3 _).mp ⟨j, hj, rfl⟩).2⟩) a2.2.2.1 (fun i hi q => (a3.iff b3 i).mpr ⟨hi, lvb_t.mp q⟩)
  refine ⟨rh1, rc1, na1, rh1, li1, ?_, ?_⟩
  · unfold fX0_alive
    rw [a1, sb]
  · unfold fX1_alive
    rw [b1, sb, r_countAlive hM b2, sb, a2.1, hm]
theorem S_address (h : Sim w r st tp cn sr mk us fi sE ki va ct od ro) (th x1 : Int32) : ∃ (e : Nat) (a : Int32), fX0_address r x1 = some (e, a) ∧ fX1_address th fi ct od ro x1 = some (a, nI e) ∧ (e = 0 ∨ e = 1) := by
  obtain ⟨hs, n, S, Kd, g, nu, se, rt, o, hC, hM⟩ := h
  unfold fX0_address fX1_address
  rcases ix_cases x1 8 (by omega) with h1 | ⟨q, h1, rfl⟩
  · refine ⟨1, 0, ?_, ?_, Or.inr rfl⟩
    · rw [(root_out h1).1, sb, if_neg (by decide)]
    · rw [(root_out h1).2, sb, if_pos rfl]; rfl
  · obtain ⟨t1, t2⟩ := hC.2.2.2.2.2.2.1 q h1
    obtain ⟨t3, t4⟩ := hM.2.2.2.2.2.2.2.2 q h1
    refine ⟨0, adr (pf S) (rt q), ?_, ?_, Or.inl rfl⟩
    · rw [(root_in h1).1, sb, if_pos rfl, ld_k h1 (by omega), sb, t2]
    · rw [(root_in h1).2, sb, if_neg one0, ld_k h1 (by omega), sb, t4, r_addressOf hM t1, sb]; rfl
theorem S_serial (h : Sim w r st tp cn sr mk us fi sE ki va ct od ro) (th x1 : Int32) : ∃ (e : Nat) (a : Int32), fX0_serial w r x1 = some (e, a) ∧ fX1_serial th sE ro x1 = some (a, nI e) ∧ (e = 0 ∨ e = 1) := by
  obtain ⟨hs, n, S, Kd, g, nu, se, rt, o, hC, hM⟩ := h
  unfold fX0_serial fX1_serial
  have hn := hC.1
  rcases ix_cases x1 8 (by omega) with h1 | ⟨q, h1, rfl⟩
  · refine ⟨1, 0, ?_, ?_, Or.inr rfl⟩
    · rw [(root_out h1).1, sb, if_neg (by decide)]
    · rw [(root_out h1).2, sb, if_pos rfl]; rfl
  · obtain ⟨t1, t2⟩ := hC.2.2.2.2.2.2.1 q h1
    obtain ⟨t3, t4⟩ := hM.2.2.2.2.2.2.2.2 q h1
    by_cases e : rt q = 1000
    · rw [e, adr_no] at t2 t4
      refine ⟨0, (-1 : Int32), ?_, ?_, Or.inl rfl⟩
      · rw [(root_in h1).1, sb, if_pos rfl, ld_k h1 (by omega), sb, t2, if_pos rfl]
      · rw [(root_in h1).2, sb, if_neg one0, ld_k h1 (by omega), sb, t4, if_neg (by decide)]; rfl
    · have hi := t1.resolve_left e
      have hat := hC.at hi
      have ho := hM.o128 _ hi
      rw [adr_at e] at t2 t4
      refine ⟨0, se (rt q), ?_, ?_, Or.inl rfl⟩
      · rw [(root_in h1).1, sb, if_pos rfl, ld_k h1 (by omega), sb, t2, if_neg (m1_ne (by omega)), sb, nI_1, ld_k (by omega) (by omega), sb, (hC.2.2.2.2.2.2.2.1 _ hi).2]
      · rw [(root_in h1).2, sb, if_neg one0, ld_k h1 (by omega), sb, t4, if_pos (nI_pos' (by omega)), sb, ld_k ho (by omega), sb, (hM.2.2.2.2.2.2.1 _ hi).2.2]; rfl
theorem S_kind (h : Sim w r st tp cn sr mk us fi sE ki va ct od ro) (th x1 x2 : Int32) : ∃ (e t : Nat) (a : Int32), fX0_kind w r x1 x2 = some (e, a) ∧ fX1_kind th fi ki ro x1 x2 = some (a, nI t) ∧ (e = 0 ∧ t = 0 ∨ e = 1 ∧ t = 1 ∨ e = 5 ∧ t = 2) := by
  obtain ⟨hs, n, S, Kd, g, nu, se, rt, o, hC, hM⟩ := h
  unfold fX0_kind fX1_kind
  rcases ix_cases x1 8 (by omega) with h1 | ⟨q, h1, rfl⟩
  · refine ⟨1, 1, 0, ?_, ?_, Or.inr (Or.inl ⟨rfl, rfl⟩)⟩
    · rw [(root_out h1).1, sb, if_neg (by decide)]
    · unfold fX1_bar
      rw [(root_out h1).2, sb, if_pos rfl, sb, if_neg (by decide)]; rfl
  · rcases bar_cases hC hM h1 x2 with ⟨e, b1, b2⟩ | ⟨b1, b2⟩ | ⟨i, k, e, e0, hi, hk, rfl, hr, hro, b1, b2⟩
    · refine ⟨5, 2, 0, ?_, ?_, Or.inr (Or.inr ⟨rfl, rfl⟩)⟩
      · rw [(root_in h1).1, sb, if_pos rfl, b1, sb, if_neg (by decide)]
      · rw [b2, sb, if_neg (by decide)]; rfl
    · refine ⟨1, 1, 0, ?_, ?_, Or.inr (Or.inl ⟨rfl, rfl⟩)⟩
      · rw [(root_in h1).1, sb, if_pos rfl, b1, sb, if_neg (by decide)]
      · rw [b2, sb, if_neg (by decide)]; rfl
    · have hat := hC.at hi
      have ho := hM.o128 _ hi
      have hS := hC.2.1 i hi
      obtain ⟨d1, d2, d3, d4⟩ := hM.2.2.2.2.2.2.2.1 i hi k hk
      refine ⟨0, 0, nI (Kd i k), ?_, ?_, Or.inl ⟨rfl, rfl⟩⟩
      · rw [(root_in h1).1, sb, if_pos rfl, b1, sb, if_pos rfl, ld_k h1 (by omega), sb, hr, x_fieldKind (by omega) (hC.2.2.2.2.2.2.2.1 i hi).1 hS hk d1, sb]
      · rw [b2, sb, if_pos (by decide), ld_k h1 (by omega), sb, hro, ix6, ld_k (by omega) (by omega), sb, d2]; rfl
theorem S_follow (h : Sim w r st tp cn sr mk us fi sE ki va ct od ro) (th x1 x2 x3 : Int32) : ∃ (e t : Nat) (a : Int32) (r' ro' : Nat → Int32), fX0_follow w r x1 x2 x3 = some (e, a, r') ∧ fX1_follow th fi ki va ro x1 x2 x3 = some (a, nI t, ro') ∧ (e = 0 ∧ t = 0 ∨ e = 1 ∧ t = 1 ∨ e = 5 ∧ t = 2 ∨ e = 3 ∧ t = 3) ∧ Sim w r' st tp cn sr mk us fi sE ki va ct od ro' := by
  obtain ⟨hs, n, S, Kd, g, nu, se, rt, o, hC, hM⟩ := h
  unfold fX0_follow fX1_follow
  have hn := hC.1
  rcases ix_cases x3 8 (by omega) with h3 | ⟨q3, h3, rfl⟩
  · refine ⟨1, 1, 0, r, ro, ?_, ?_, Or.inr (Or.inl ⟨rfl, rfl⟩), hs, n, S, Kd, g, nu, se, rt, o, hC, hM⟩
    · rcases ix_cases x1 8 (by omega) with h1 | ⟨q, h1, rfl⟩
      · rw [(root_out h1).1, sb, if_neg (by decide)]
      · rw [(root_in h1).1, sb, if_pos rfl, (root_out h3).1, sb, if_neg (by decide)]
    · rw [(root_out h3).2, sb, if_pos rfl]; rfl
  · rcases ix_cases x1 8 (by omega) with h1 | ⟨q, h1, rfl⟩
    · refine ⟨1, 1, 0, r, ro, ?_, ?_, Or.inr (Or.inl ⟨rfl, rfl⟩), hs, n, S, Kd, g, nu, se, rt, o, hC, hM⟩
      · rw [(root_out h1).1, sb, if_neg (by decide)]
      · unfold fX1_bar
        rw [(root_in h3).2, sb, if_neg one0, (root_out h1).2, sb, if_pos rfl, sb, if_neg one0, if_neg (by decide)]; rfl
    · rcases bar_cases hC hM h1 x2 with ⟨e, b1, b2⟩ | ⟨b1, b2⟩ | ⟨i, k, e, e0, hi, hk, rfl, hr, hro, b1, b2⟩
      · refine ⟨5, 2, 0, r, ro, ?_, ?_, Or.inr (Or.inr (Or.inl ⟨rfl, rfl⟩)), hs, n, S, Kd, g, nu, se, rt, o, hC, hM⟩
        · rw [(root_in h1).1, sb, if_pos rfl, (root_in h3).1, sb, if_pos rfl, b1, sb, if_neg (by decide)]
        · rw [(root_in h3).2, sb, if_neg one0, b2, sb, if_neg (by decide), if_neg (by decide)]; rfl
      · refine ⟨1, 1, 0, r, ro, ?_, ?_, Or.inr (Or.inl ⟨rfl, rfl⟩), hs, n, S, Kd, g, nu, se, rt, o, hC, hM⟩
        · rw [(root_in h1).1, sb, if_pos rfl, (root_in h3).1, sb, if_pos rfl, b1, sb, if_neg (by decide)]
        · rw [(root_in h3).2, sb, if_neg one0, b2, sb, if_neg one0, if_neg (by decide)]; rfl
      · have hat := hC.at hi
        have ho := hM.o128 _ hi
        have hS := hC.2.1 i hi
        obtain ⟨d1, d2, d3, d4⟩ := hM.2.2.2.2.2.2.2.1 i hi k hk
        obtain ⟨c1, c2, c3⟩ := hC.2.2.2.2.2.2.2.2.1 i hi k hk
        have hkd := x_fieldKind (by omega) (hC.2.2.2.2.2.2.2.1 i hi).1 hS hk d1
        have hc0 : fX0_requireReference w (nI (pf S i)) (nI k) = some (if Kd i k = 0 then 3 else 0) := by
          unfold fX0_requireReference
          rw [hkd, sb]
          by_cases z : Kd i k = 0
          · rw [z, if_pos (show nI 0 = 0 from rfl), if_pos rfl]
          · rw [if_neg (fun y => z (by rw [n0, nI_eq (by omega) (by omega)] at y; exact y)), if_neg z]
        by_cases k0 : Kd i k = 0
        · refine ⟨3, 3, 0, r, ro, ?_, ?_, Or.inr (Or.inr (Or.inr ⟨rfl, rfl⟩)), hs, n, S, Kd, g, nu, se, rt, o, hC, hM⟩
          · rw [(root_in h1).1, sb, if_pos rfl, (root_in h3).1, sb, if_pos rfl, b1, sb, if_pos rfl, ld_k h1 (by omega), sb, hr, hc0, sb, if_pos k0, if_neg (by decide)]
          · rw [(root_in h3).2, sb, if_neg one0, b2, sb, if_pos rfl, ld_k h1 (by omega), sb, hro, ix6, ld_k (by omega) (by omega), sb, d2, k0, if_pos (show nI 0 = 0 from rfl)]; rfl
        · obtain ⟨g1, g2⟩ := d4 k0
          obtain ⟨g3, g4⟩ := c3 k0
          have hkn : ¬ nI (Kd i k) = 0 := fun y => k0 (by rw [n0, nI_eq (by omega) (by omega)] at y; exact y)
          refine ⟨0, 0, if g i k = 1000 then 0 else 1, _, _, ?_, ?_, Or.inl ⟨rfl, rfl⟩, hs, n, S, Kd, g, nu, se, _, o, hC.root h3 g1, hM.root h3 g1⟩
          · rw [(root_in h1).1, sb, if_pos rfl, (root_in h3).1, sb, if_pos rfl, b1, sb, if_pos rfl, ld_k h1 (by omega), sb, hr, hc0, sb, if_neg k0, if_pos rfl, sb, x_fieldAddress, sb, ld_k (by omega) (by omega), sb, g4, st_k h3 (by omega), sb, ld_k h3 (by omega), sb, upd_s]
            by_cases z : g i k = 1000
            · rw [z, adr_no, if_pos rfl, if_pos rfl]
            · have := hC.lt _ (g1.resolve_left z)
              rw [adr_at z, if_neg (m1_ne (by omega)), if_neg z]
          · rw [(root_in h3).2, sb, if_neg one0, b2, sb, if_pos rfl, ld_k h1 (by omega), sb, hro, ix6, ld_k (by omega) (by omega), sb, d2, if_neg hkn, if_pos (by decide), sb, ix6, ld_k (by omega) (by omega), sb, g2, st_k h3 (by omega), sb, ld_k h3 (by omega), sb, upd_s]
            by_cases z : g i k = 1000
            · rw [z, adr_no, if_pos m1_lt, if_pos rfl]; rfl
            · have := hM.o128 _ (g1.resolve_left z)
              rw [adr_at z, if_neg (nI_pos (by omega)), if_neg z]; rfl
end SIMS
