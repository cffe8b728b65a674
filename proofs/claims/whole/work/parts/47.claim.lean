section SIMC
variable {w r st : Nat → Int32} {tp cn sr mk : Int32} {us fi sE ki va : Nat → Int32} {ct : Int32} {od ro : Nat → Int32}
theorem S_claim (h : Sim w r st tp cn sr mk us fi sE ki va ct od ro) (rc na : Nat → Int32) (rh : Int32) (li ne : Nat → Int32) (th x1 x2 x3 : Int32) : ∃ (e t : Nat) (a : Int32) (w' r' st' rc' na' : Nat → Int32) (tp' cn' rh' sr' mk' : Int32) (us' fi' sE' ki' va' li' : Nat → Int32) (ct' : Int32) (od' ne' ro' : Nat → Int32),
    fX0_claim w r st rc na tp cn rh sr x1 x2 x3 = some (e, a, w', r', st', rc', na', tp', cn', rh', sr') ∧ fX1_claim th mk us fi sE ki va li ct od ne ro x1 x2 x3 = some (a, nI t, mk', us', fi', sE', ki', va', li', ct', od', ne', ro') ∧ (e = 0 ∧ t = 0 ∨ e = 1 ∧ t = 1 ∨ e = 2 ∧ t = 2 ∨ e = 4 ∧ t = 3 ∨ e = 3 ∧ t = 4) ∧ Sim w' r' st' tp' cn' sr' mk' us' fi' sE' ki' va' ct' od' ro' := by
  obtain ⟨hs, n, S, Kd, g, nu, se, rt, o, hC, hM⟩ := h
  subst hs
  unfold fX0_claim fX1_claim
  rcases ix_cases x1 8 (by omega) with h1 | ⟨q, h1, rfl⟩
  · refine ⟨1, 1, 0, w, r, st, rc, na, tp, cn, rh, sr, sr, us, fi, sE, ki, va, li, ct, od, ne, ro, ?_, ?_, Or.inr (Or.inl ⟨rfl, rfl⟩), rfl, n, S, Kd, g, nu, se, rt, o, hC, hM⟩
    · rw [(root_out h1).1, sb, if_neg (by decide)]
    · rw [(root_out h1).2, sb, if_pos rfl]; rfl
  rw [(root_in h1).1, sb, if_pos rfl, (root_in h1).2, sb, if_neg one0]
  rcases ix_cases x2 7 (by omega) with h2 | ⟨f, h2, rfl⟩
  · refine ⟨2, 2, 0, w, r, st, rc, na, tp, cn, rh, sr, sr, us, fi, sE, ki, va, li, ct, od, ne, ro, ?_, ?_, Or.inr (Or.inr (Or.inl ⟨rfl, rfl⟩)), rfl, n, S, Kd, g, nu, se, rt, o, hC, hM⟩
    · rw [(flds_out h2).1, sb, if_neg (by decide)]
    · rw [(flds_out h2).2, sb, if_pos rfl]; rfl
  rw [(flds_in (show f ≤ 6 by omega)).1, sb, if_pos rfl, (flds_in (show f ≤ 6 by omega)).2, sb, if_neg one0]
  rcases ix_cases x3 3 (by omega) with h3 | ⟨y, h3, rfl⟩
  · obtain ⟨w1, w2⟩ := way_out h3
    refine ⟨2, 2, 0, w, r, st, rc, na, tp, cn, rh, sr, sr, us, fi, sE, ki, va, li, ct, od, ne, ro, ?_, ?_, Or.inr (Or.inr (Or.inl ⟨rfl, rfl⟩)), rfl, n, S, Kd, g, nu, se, rt, o, hC, hM⟩
    · rw [w1, sb, if_neg (by decide)]
    · rcases w2 with z | ⟨z1, z2⟩
      · rw [if_pos z]; rfl
      · rw [if_neg z1, if_neg z2]; rfl
  obtain ⟨w1, w2, w3⟩ := way_in (show y ≤ 2 by omega)
  obtain ⟨f1, f2⟩ := r_fits hC hM (f := f) (by omega)
  rw [w1, sb, if_pos rfl, if_neg w2, if_pos w3, f1, f2, sb, sb]
  by_cases hr : pf S n + 2 + f ≤ 256
  · obtain ⟨S', Kd', nu', se', rt', o', w', r', st', tp', cn', us', fi', sE', ki', va', od', ro', s1, s2, s3, s4⟩ := sim_make hC hM h1 (show f ≤ 6 by omega) hr sr
    refine ⟨0, 0, sr + 1, w', r', st', rc, na, tp', cn', rh, sr + 1, sr + 1, us', fi', sE', ki', va', li, cn', od', ne, ro', ?_, ?_, Or.inl ⟨rfl, rfl⟩, rfl, n + 1, S', Kd', g, nu', se', rt', o', s3, s4⟩
    · rw [if_pos hr, if_neg one0, s1, sb]
    · rw [if_pos hr, if_neg one0, s2, sb]; rfl
  · rw [if_neg hr, if_pos rfl, if_pos rfl]
    -- behind the sizes' test: press, room, make
    have fin : (nI y = 1 → ∀ i, i < n → S i = S 0) → ∃ (e t : Nat) (a : Int32) (w' r' st' rc' na' : Nat → Int32) (tp' cn' rh' sr' mk' : Int32) (us' fi' sE' ki' va' li' : Nat → Int32) (ct' : Int32) (od' ne' ro' : Nat → Int32),
        ((fX0_moveTogether w r st rc na tp cn rh (nI y)).bind fun (w_14, r_15, st_16, rc_17, na_18, tp_19, cn_20, rh_21) =>
            (fX0_requireRoom tp_19 (nI f)).bind fun e22 =>
            if e22 = 0 then
              (fX0_makeObject w_14 r_15 st_16 tp_19 cn_20 sr (nI q) (nI f)).bind fun (v23, w_24, r_25, st_26, tp_27, cn_28, sr_29) =>
              some (0, v23, w_24, r_25, st_26, rc_17, na_18, tp_27, cn_28, rh_21, sr_29)
            else
              some (e22, 0, w_14, r_15, st_16, rc_17, na_18, tp_19, cn_20, rh_21, sr)) = some (e, a, w', r', st', rc', na', tp', cn', rh', sr') ∧
        ((fX1_press us fi ki va li ct od ne ro (nI y)).bind fun (us_40, va_41, li_42, cn_43, od_44, ne_45) =>
                (fX1_fits fi cn_43 od_44 (nI f)).bind fun v46 =>
                if v46 = 0 then
                  some ((0 : Int32), (4 : Int32), sr, us_40, fi, sE, ki, va_41, li_42, cn_43, od_44, ne_45, ro)
                else
                  (fX1_make sr us_40 fi sE ki va_41 cn_43 od_44 ro (nI q) (nI f)).bind fun (v48, mk_49, us_50, fi_51, se_52, ki_53, va_54, cn_55, od_56, ro_57) =>
                  some (v48, (0 : Int32), mk_49, us_50, fi_51, se_52, ki_53, va_54, li_42, cn_55, od_56, ne_45, ro_57)) = some (a, nI t, mk', us', fi', sE', ki', va', li', ct', od', ne', ro') ∧
        (e = 0 ∧ t = 0 ∨ e = 1 ∧ t = 1 ∨ e = 2 ∧ t = 2 ∨ e = 4 ∧ t = 3 ∨ e = 3 ∧ t = 4) ∧ Sim w' r' st' tp' cn' sr' mk' us' fi' sE' ki' va' ct' od' ro' := fun hz => by
      obtain ⟨c, S', Kd', g', nu', se', rt', o', w', r', st', rc', na', rh', us', va', li', od', ne', s1, s2, s3, s4⟩ := sim_press hC hM (nI y) hz rc na rh li ne
      rw [s1, s2, sb, sb]
      dsimp only
      obtain ⟨f3, f4⟩ := r_fits s3 s4 (f := f) (by omega)
      unfold fX0_requireRoom
      rw [f3, f4, sb, sb]
      by_cases hr2 : pf S' c + 2 + f ≤ 256
      · rw [if_pos hr2, if_neg one0, if_neg one0, sb, if_pos rfl]
        obtain ⟨S2, Kd2, nu2, se2, rt2, o2, w2', r2, st2, tp2, cn2, us2, fi2, sE2, ki2, va2, od2, ro2, t1, t2, t3, t4⟩ := sim_make s3 s4 h1 (show f ≤ 6 by omega) hr2 sr
        rw [t1, t2, sb, sb]
        exact ⟨0, 0, _, _, _, _, _, _, _, _, _, _, _, _, _, _, _, _, _, _, _, _, _, rfl, rfl, Or.inl ⟨rfl, rfl⟩, rfl, c + 1, S2, Kd2, g', nu2, se2, rt2, o2, t3, t4⟩
      · rw [if_neg hr2, if_pos rfl, if_pos rfl, sb, if_neg (by decide)]
        exact ⟨3, 4, _, _, _, _, _, _, _, _, _, _, _, _, _, _, _, _, _, _, _, _, _, rfl, rfl, Or.inr (Or.inr (Or.inr (Or.inr ⟨rfl, rfl⟩))), rfl, c, S', Kd', g', nu', se', rt', o', s3, s4⟩
    unfold fX0_requireSizesFor
    by_cases e1 : nI y = 1
    · rw [if_pos e1, if_pos e1]
      rcases sim_one hC hM with ⟨o1, o2, o3⟩ | ⟨o1, o2⟩
      · rw [o1, o2, sb, sb, if_neg one0, if_neg one0, sb, if_pos rfl]
        exact fin (fun _ => o3)
      · rw [o1, o2, sb, sb, if_pos rfl, if_pos rfl, sb, if_neg (by decide)]
        exact ⟨4, 3, 0, w, r, st, rc, na, tp, cn, rh, sr, sr, us, fi, sE, ki, va, li, ct, od, ne, ro, rfl, rfl, Or.inr (Or.inr (Or.inr (Or.inl ⟨rfl, rfl⟩))), rfl, n, S, Kd, g, nu, se, rt, o, hC, hM⟩
    · rw [if_neg e1, if_neg e1, sb, if_pos rfl]
      exact fin (fun z => absurd z e1)
end SIMC
