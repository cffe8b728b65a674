theorem stL0 (ou : Nat → Int64) (v : Int64) : stL 1 ou (0 : Int32) v = some (vp_updL ou 0 v) := by
  unfold stL
  rw [if_neg (by decide)]
  rfl
theorem ldL0 (ou : Nat → Int64) : ldL 1 ou (0 : Int32) = some (ou 0) := by
  unfold ldL
  rw [if_neg (by decide)]
  rfl
theorem lgc (x : Int64) : lg_cmp x x = 0 := by
  have h : ¬ x < x := fun q => by have := Int64.lt_iff_toInt_lt.mp q; omega
  simp [lg_cmp, h]
theorem ld_b {n k : Nat} {f : Nat → Int32} (h : k < n) (hn : n ≤ 4096) : ldI n f (nI k) = some (f k) := by
  have h1 : k < 2 ^ 31 := by omega
  unfold ldI
  rw [nI_clamp h1, if_neg]
  intro hh
  rcases hh with hh | hh
  · exact nI_pos h1 hh
  · omega
section LAWV
variable {w r st : Nat → Int32} {tp cn sr mk : Int32} {us fi sE ki va : Nat → Int32} {ct : Int32} {od ro : Nat → Int32}
theorem V_allocate (h : Sim w r st tp cn sr mk us fi sE ki va ct od ro) (ou : Nat → Int64) (th x1 x2 : Int32) : ∃ (t : Nat) (a : Int32) (w' : Nat → Int32) (r' : Nat → Int32) (st' : Nat → Int32) (tp' : Int32) (cn' : Int32) (sr' : Int32) (mk' : Int32) (us' : Nat → Int32) (fi' : Nat → Int32) (sE' : Nat → Int32) (ki' : Nat → Int32) (va' : Nat → Int32) (ct' : Int32) (od' : Nat → Int32) (ro' : Nat → Int32) (ou' : Nat → Int64), fL_allocate w r st tp cn sr ou x1 x2 = some (nI t, w', r', st', tp', cn', sr', ou') ∧ fX1_allocate th mk us fi sE ki va ct od ro x1 x2 = some (a, nI t, mk', us', fi', sE', ki', va', ct', od', ro') ∧ (nI t = 0 → ou' 0 = a.toInt64) ∧ Sim w' r' st' tp' cn' sr' mk' us' fi' sE' ki' va' ct' od' ro' := by
  obtain ⟨e, a, w', r', st', tp', cn', sr', mk', us', fi', sE', ki', va', ct', od', ro', s1, s2, s3, s4⟩ := S_allocate h th x1 x2
  rcases s3 with rfl | rfl | rfl | rfl
  · exact ⟨0, a, w', r', st', tp', cn', sr', mk', us', fi', sE', ki', va', ct', od', ro', vp_updL ou 0 a.toInt64, by unfold fL_allocate; rw [s1]; rfl, s2, fun _ => pk_uLs, s4⟩
  · exact ⟨1, a, w', r', st', tp', cn', sr', mk', us', fi', sE', ki', va', ct', od', ro', ou, by unfold fL_allocate; rw [s1]; rfl, s2, fun z => absurd z (by decide), s4⟩
  · exact ⟨2, a, w', r', st', tp', cn', sr', mk', us', fi', sE', ki', va', ct', od', ro', ou, by unfold fL_allocate; rw [s1]; rfl, s2, fun z => absurd z (by decide), s4⟩
  · exact ⟨3, a, w', r', st', tp', cn', sr', mk', us', fi', sE', ki', va', ct', od', ro', ou, by unfold fL_allocate; rw [s1]; rfl, s2, fun z => absurd z (by decide), s4⟩
theorem V_claim (h : Sim w r st tp cn sr mk us fi sE ki va ct od ro) (rc : Nat → Int32) (na : Nat → Int32) (rh : Int32) (li : Nat → Int32) (ne : Nat → Int32) (ou : Nat → Int64) (th x1 x2 x3 : Int32) : ∃ (t : Nat) (a : Int32) (w' : Nat → Int32) (r' : Nat → Int32) (st' : Nat → Int32) (rc' : Nat → Int32) (na' : Nat → Int32) (tp' : Int32) (cn' : Int32) (rh' : Int32) (sr' : Int32) (mk' : Int32) (us' : Nat → Int32) (fi' : Nat → Int32) (sE' : Nat → Int32) (ki' : Nat → Int32) (va' : Nat → Int32) (li' : Nat → Int32) (ct' : Int32) (od' : Nat → Int32) (ne' : Nat → Int32) (ro' : Nat → Int32) (ou' : Nat → Int64), fL_claim w r st rc na tp cn rh sr ou x1 x2 x3 = some (nI t, w', r', st', rc', na', tp', cn', rh', sr', ou') ∧ fX1_claim th mk us fi sE ki va li ct od ne ro x1 x2 x3 = some (a, nI t, mk', us', fi', sE', ki', va', li', ct', od', ne', ro') ∧ (nI t = 0 → ou' 0 = a.toInt64) ∧ Sim w' r' st' tp' cn' sr' mk' us' fi' sE' ki' va' ct' od' ro' := by
  obtain ⟨e, t, a, w', r', st', rc', na', tp', cn', rh', sr', mk', us', fi', sE', ki', va', li', ct', od', ne', ro', s1, s2, s3, s4⟩ := S_claim h rc na rh li ne th x1 x2 x3
  rcases s3 with ⟨rfl, rfl⟩ | ⟨rfl, rfl⟩ | ⟨rfl, rfl⟩ | ⟨rfl, rfl⟩ | ⟨rfl, rfl⟩
  · exact ⟨0, a, w', r', st', rc', na', tp', cn', rh', sr', mk', us', fi', sE', ki', va', li', ct', od', ne', ro', vp_updL ou 0 a.toInt64, by unfold fL_claim; rw [s1]; rfl, s2, fun _ => pk_uLs, s4⟩
  · exact ⟨1, a, w', r', st', rc', na', tp', cn', rh', sr', mk', us', fi', sE', ki', va', li', ct', od', ne', ro', ou, by unfold fL_claim; rw [s1]; rfl, s2, fun z => absurd z (by decide), s4⟩
  · exact ⟨2, a, w', r', st', rc', na', tp', cn', rh', sr', mk', us', fi', sE', ki', va', li', ct', od', ne', ro', ou, by unfold fL_claim; rw [s1]; rfl, s2, fun z => absurd z (by decide), s4⟩
  · exact ⟨3, a, w', r', st', rc', na', tp', cn', rh', sr', mk', us', fi', sE', ki', va', li', ct', od', ne', ro', ou, by unfold fL_claim; rw [s1]; rfl, s2, fun z => absurd z (by decide), s4⟩
  · exact ⟨4, a, w', r', st', rc', na', tp', cn', rh', sr', mk', us', fi', sE', ki', va', li', ct', od', ne', ro', ou, by unfold fL_claim; rw [s1]; rfl, s2, fun z => absurd z (by decide), s4⟩
theorem V_compact (h : Sim w r st tp cn sr mk us fi sE ki va ct od ro) (rc : Nat → Int32) (na : Nat → Int32) (rh : Int32) (li : Nat → Int32) (ne : Nat → Int32) (ou : Nat → Int64) (th x1 : Int32) : ∃ (t : Nat) (a : Int32) (w' : Nat → Int32) (r' : Nat → Int32) (st' : Nat → Int32) (rc' : Nat → Int32) (na' : Nat → Int32) (tp' : Int32) (cn' : Int32) (rh' : Int32) (us' : Nat → Int32) (va' : Nat → Int32) (li' : Nat → Int32) (ct' : Int32) (od' : Nat → Int32) (ne' : Nat → Int32) (ou' : Nat → Int64), fL_compact w r st rc na tp cn rh ou x1 = some (nI t, w', r', st', rc', na', tp', cn', rh', ou') ∧ fX1_compact th us fi ki va li ct od ne ro x1 = some (a, nI t, us', va', li', ct', od', ne') ∧ (nI t = 0 → ou' 0 = a.toInt64) ∧ Sim w' r' st' tp' cn' sr mk us' fi sE ki va' ct' od' ro := by
  obtain ⟨e, t, a, w', r', st', rc', na', tp', cn', rh', us', va', li', ct', od', ne', s1, s2, s3, s4⟩ := S_compact h rc na rh li ne th x1
  rcases s3 with ⟨rfl, rfl⟩ | ⟨rfl, rfl⟩ | ⟨rfl, rfl⟩
  · exact ⟨0, a, w', r', st', rc', na', tp', cn', rh', us', va', li', ct', od', ne', vp_updL ou 0 a.toInt64, by unfold fL_compact; rw [s1]; rfl, s2, fun _ => pk_uLs, s4⟩
  · exact ⟨1, a, w', r', st', rc', na', tp', cn', rh', us', va', li', ct', od', ne', ou, by unfold fL_compact; rw [s1]; rfl, s2, fun z => absurd z (by decide), s4⟩
  · exact ⟨2, a, w', r', st', rc', na', tp', cn', rh', us', va', li', ct', od', ne', ou, by unfold fL_compact; rw [s1]; rfl, s2, fun z => absurd z (by decide), s4⟩
theorem V_follow (h : Sim w r st tp cn sr mk us fi sE ki va ct od ro) (ou : Nat → Int64) (th x1 x2 x3 : Int32) : ∃ (t : Nat) (a : Int32) (r' : Nat → Int32) (ro' : Nat → Int32) (ou' : Nat → Int64), fL_follow w r ou x1 x2 x3 = some (nI t, r', ou') ∧ fX1_follow th fi ki va ro x1 x2 x3 = some (a, nI t, ro') ∧ (nI t = 0 → ou' 0 = (if a = 0 then 0 else 1)) ∧ Sim w r' st tp cn sr mk us fi sE ki va ct od ro' := by
  obtain ⟨e, t, a, r', ro', s1, s2, s3, s4⟩ := S_follow h th x1 x2 x3
  rcases s3 with ⟨rfl, rfl⟩ | ⟨rfl, rfl⟩ | ⟨rfl, rfl⟩ | ⟨rfl, rfl⟩
  · exact ⟨0, a, r', ro', vp_updL ou 0 (if a = 0 then 0 else 1), by
      unfold fL_follow
      rw [s1, sb]
      dsimp only
      rw [if_pos rfl]
      by_cases z : a = 0
      · rw [if_pos z, if_pos z, stL0, sb]; rfl
      · rw [if_neg z, if_neg z, stL0, sb]; rfl, s2, fun _ => pk_uLs, s4⟩
  · exact ⟨1, a, r', ro', ou, by unfold fL_follow; rw [s1]; rfl, s2, fun z => absurd z (by decide), s4⟩
  · exact ⟨2, a, r', ro', ou, by unfold fL_follow; rw [s1]; rfl, s2, fun z => absurd z (by decide), s4⟩
  · exact ⟨3, a, r', ro', ou, by unfold fL_follow; rw [s1]; rfl, s2, fun z => absurd z (by decide), s4⟩
theorem V_kind (h : Sim w r st tp cn sr mk us fi sE ki va ct od ro) (ou : Nat → Int64) (th x1 x2 : Int32) : ∃ (t : Nat) (a : Int32) (ou' : Nat → Int64), fL_kind w r ou x1 x2 = some (nI t, ou') ∧ fX1_kind th fi ki ro x1 x2 = some (a, nI t) ∧ (nI t = 0 → ou' 0 = a.toInt64) ∧ Sim w r st tp cn sr mk us fi sE ki va ct od ro := by
  obtain ⟨e, t, a, s1, s2, s3⟩ := S_kind h th x1 x2
  rcases s3 with ⟨rfl, rfl⟩ | ⟨rfl, rfl⟩ | ⟨rfl, rfl⟩
  · exact ⟨0, a, vp_updL ou 0 a.toInt64, by unfold fL_kind; rw [s1]; rfl, s2, fun _ => pk_uLs, h⟩
  · exact ⟨1, a, ou, by unfold fL_kind; rw [s1]; rfl, s2, fun z => absurd z (by decide), h⟩
  · exact ⟨2, a, ou, by unfold fL_kind; rw [s1]; rfl, s2, fun z => absurd z (by decide), h⟩
theorem V_serial (h : Sim w r st tp cn sr mk us fi sE ki va ct od ro) (ou : Nat → Int64) (th x1 : Int32) : ∃ (t : Nat) (a : Int32) (ou' : Nat → Int64), fL_serial w r ou x1 = some (nI t, ou') ∧ fX1_serial th sE ro x1 = some (a, nI t) ∧ (nI t = 0 → ou' 0 = a.toInt64) ∧ Sim w r st tp cn sr mk us fi sE ki va ct od ro := by
  obtain ⟨e, a, s1, s2, s3⟩ := S_serial h th x1
  rcases s3 with rfl | rfl
  · exact ⟨0, a, vp_updL ou 0 a.toInt64, by unfold fL_serial; rw [s1]; rfl, s2, fun _ => pk_uLs, h⟩
  · exact ⟨1, a, ou, by unfold fL_serial; rw [s1]; rfl, s2, fun z => absurd z (by decide), h⟩
theorem V_address (h : Sim w r st tp cn sr mk us fi sE ki va ct od ro) (ou : Nat → Int64) (th x1 : Int32) : ∃ (t : Nat) (a : Int32) (ou' : Nat → Int64), fL_address r ou x1 = some (nI t, ou') ∧ fX1_address th fi ct od ro x1 = some (a, nI t) ∧ (nI t = 0 → ou' 0 = a.toInt64) ∧ Sim w r st tp cn sr mk us fi sE ki va ct od ro := by
  obtain ⟨e, a, s1, s2, s3⟩ := S_address h th x1
  rcases s3 with rfl | rfl
  · exact ⟨0, a, vp_updL ou 0 a.toInt64, by unfold fL_address; rw [s1]; rfl, s2, fun _ => pk_uLs, h⟩
  · exact ⟨1, a, ou, by unfold fL_address; rw [s1]; rfl, s2, fun z => absurd z (by decide), h⟩
theorem V_word (h : Sim w r st tp cn sr mk us fi sE ki va ct od ro) (ou : Nat → Int64) (th x1 : Int32) : ∃ (t : Nat) (a : Int32) (ou' : Nat → Int64), fL_word w ou x1 = some (nI t, ou') ∧ fX1_word th fi sE ki va ct od x1 = some (a, nI t) ∧ (nI t = 0 → ou' 0 = a.toInt64) ∧ Sim w r st tp cn sr mk us fi sE ki va ct od ro := by
  obtain ⟨e, a, s1, s2, s3⟩ := S_word h th x1
  rcases s3 with rfl | rfl
  · exact ⟨0, a, vp_updL ou 0 a.toInt64, by unfold fL_word; rw [s1]; rfl, s2, fun _ => pk_uLs, h⟩
  · exact ⟨1, a, ou, by unfold fL_word; rw [s1]; rfl, s2, fun z => absurd z (by decide), h⟩
theorem V_copy (h : Sim w r st tp cn sr mk us fi sE ki va ct od ro) (th x1 x2 : Int32) : ∃ (t : Nat) (r' : Nat → Int32) (ro' : Nat → Int32), fL_copy r x1 x2 = some (nI t, r') ∧ fX1_copy th ro x1 x2 = some (nI t, ro') ∧ Sim w r' st tp cn sr mk us fi sE ki va ct od ro' := by
  obtain ⟨e, r', ro', s1, s2, s3, s4⟩ := S_copy h th x1 x2
  rcases s3 with rfl | rfl
  · exact ⟨0, r', ro', by unfold fL_copy; rw [s1]; rfl, s2, s4⟩
  · exact ⟨1, r', ro', by unfold fL_copy; rw [s1]; rfl, s2, s4⟩
theorem V_clear (h : Sim w r st tp cn sr mk us fi sE ki va ct od ro) (th x1 : Int32) : ∃ (t : Nat) (r' : Nat → Int32) (ro' : Nat → Int32), fL_clear r x1 = some (nI t, r') ∧ fX1_clear th ro x1 = some (nI t, ro') ∧ Sim w r' st tp cn sr mk us fi sE ki va ct od ro' := by
  obtain ⟨e, r', ro', s1, s2, s3, s4⟩ := S_clear h th x1
  rcases s3 with rfl | rfl
  · exact ⟨0, r', ro', by unfold fL_clear; rw [s1]; rfl, s2, s4⟩
  · exact ⟨1, r', ro', by unfold fL_clear; rw [s1]; rfl, s2, s4⟩
theorem V_put (h : Sim w r st tp cn sr mk us fi sE ki va ct od ro) (th x1 x2 x3 : Int32) : ∃ (t : Nat) (w' : Nat → Int32) (ki' : Nat → Int32) (va' : Nat → Int32), fL_put w r x1 x2 x3 = some (nI t, w') ∧ fX1_put th fi ki va ro x1 x2 x3 = some (nI t, ki', va') ∧ Sim w' r st tp cn sr mk us fi sE ki' va' ct od ro := by
  obtain ⟨e, t, w', ki', va', s1, s2, s3, s4⟩ := S_put h th x1 x2 x3
  rcases s3 with ⟨rfl, rfl⟩ | ⟨rfl, rfl⟩ | ⟨rfl, rfl⟩
  · exact ⟨0, w', ki', va', by unfold fL_put; rw [s1]; rfl, s2, s4⟩
  · exact ⟨1, w', ki', va', by unfold fL_put; rw [s1]; rfl, s2, s4⟩
  · exact ⟨2, w', ki', va', by unfold fL_put; rw [s1]; rfl, s2, s4⟩
theorem V_refer (h : Sim w r st tp cn sr mk us fi sE ki va ct od ro) (th x1 x2 x3 x4 : Int32) : ∃ (t : Nat) (w' : Nat → Int32) (ki' : Nat → Int32) (va' : Nat → Int32), fL_refer w r x1 x2 x3 x4 = some (nI t, w') ∧ fX1_refer th fi ki va ro x1 x2 x3 x4 = some (nI t, ki', va') ∧ Sim w' r st tp cn sr mk us fi sE ki' va' ct od ro := by
  obtain ⟨e, t, w', ki', va', s1, s2, s3, s4⟩ := S_refer h th x1 x2 x3 x4
  rcases s3 with ⟨rfl, rfl⟩ | ⟨rfl, rfl⟩ | ⟨rfl, rfl⟩
  · exact ⟨0, w', ki', va', by unfold fL_refer; rw [s1]; rfl, s2, s4⟩
  · exact ⟨1, w', ki', va', by unfold fL_refer; rw [s1]; rfl, s2, s4⟩
  · exact ⟨2, w', ki', va', by unfold fL_refer; rw [s1]; rfl, s2, s4⟩
end LAWV
set_option maxHeartbeats 40000000 in
theorem law_ok (xs : Nat → Int32) (L : Nat) (hL : L ≤ 2560) : ∀ (n i : Nat) (w : Nat → Int32) (r : Nat → Int32) (st : Nat → Int32) (rc : Nat → Int32) (na : Nat → Int32) (tp : Int32) (cn : Int32) (rh : Int32) (sr : Int32) (th : Int32) (mk : Int32) (us : Nat → Int32) (fi : Nat → Int32) (sE : Nat → Int32) (ki : Nat → Int32) (va : Nat → Int32) (li : Nat → Int32) (ct : Int32) (od : Nat → Int32) (ne : Nat → Int32) (ro : Nat → Int32) (ou : Nat → Int64), 0 < n → L < i + 5 * n → i ≤ L + 5 → Sim w r st tp cn sr mk us fi sE ki va ct od ro → ∃ (y0 : Int32) (y1 : Nat → Int32) (y2 : Nat → Int32) (y3 : Nat → Int32) (y4 : Nat → Int32) (y5 : Nat → Int32) (y6 : Int32) (y7 : Int32) (y8 : Int32) (y9 : Int32) (y10 : Int32) (y11 : Int32) (y12 : Nat → Int32) (y13 : Nat → Int32) (y14 : Nat → Int32) (y15 : Nat → Int32) (y16 : Nat → Int32) (y17 : Nat → Int32) (y18 : Int32) (y19 : Nat → Int32) (y20 : Nat → Int32) (y21 : Nat → Int32) (y22 : Nat → Int64), fL_law xs L n (nI i) w r st rc na tp cn rh sr th mk us fi sE ki va li ct od ne ro ou = some (y0, y1, y2, y3, y4, y5, y6, y7, y8, y9, y10, y11, y12, y13, y14, y15, y16, y17, y18, y19, y20, y21, y22) := by
  intro n
  induction n with
  | zero => intro i w r st rc na tp cn rh sr th mk us fi sE ki va li ct od ne ro ou h0; exact absurd h0 (by omega)
  | succ n ih =>
    intro i w r st rc na tp cn rh sr th mk us fi sE ki va li ct od ne ro ou h0 h1 h2 hS
    rw [fL_law_s]
    have hc : (Int32.ofNat L - (5 : Int32) < nI i) ↔ (L : Int) - 5 < i := by
      rw [Int32.lt_iff_toInt_lt, show Int32.ofNat L - (5 : Int32) = nI L - nI 5 from rfl, pk_sub_toInt (by omega) (by omega), nI_toInt (by omega)]
      exact Iff.rfl
    by_cases hx : (L : Int) - 5 < i
    · rw [if_pos (hc.mpr hx)]
      exact ⟨_, _, _, _, _, _, _, _, _, _, _, _, _, _, _, _, _, _, _, _, _, _, _, rfl⟩
    rw [if_neg (fun z => hx (hc.mp z))]
    have l1 : nI i + (1 : Int32) = nI (i + 1) := nI_1 i
    have l2 : nI i + (2 : Int32) = nI (i + 2) := by rw [n2, nI_add]
    have l3 : nI i + (3 : Int32) = nI (i + 3) := by rw [show (3 : Int32) = nI 3 from rfl, nI_add]
    have l4 : nI i + (4 : Int32) = nI (i + 4) := by rw [show (4 : Int32) = nI 4 from rfl, nI_add]
    have l5 : nI i + (5 : Int32) = nI (i + 5) := by rw [show (5 : Int32) = nI 5 from rfl, nI_add]
    have d0 : ldI L xs (nI i) = some (xs i) := ld_b (by omega) (by omega)
    have d1 : ldI L xs (nI (i + 1)) = some (xs (i + 1)) := ld_b (by omega) (by omega)
    have d2 : ldI L xs (nI (i + 2)) = some (xs (i + 2)) := ld_b (by omega) (by omega)
    have d3 : ldI L xs (nI (i + 3)) = some (xs (i + 3)) := ld_b (by omega) (by omega)
    have d4 : ldI L xs (nI (i + 4)) = some (xs (i + 4)) := ld_b (by omega) (by omega)
    have tw : ∀ t : Int32, fX1_thrown t = some t := fun _ => rfl
    rw [d0, sb]
    by_cases h20 : xs i &&& (15 : Int32) = (0 : Int32)
    · rw [if_pos h20]
      obtain ⟨t, a, w', r', st', tp', cn', sr', mk', us', fi', sE', ki', va', ct', od', ro', ou', s1, s2, s3, s4⟩ := V_allocate hS ou th (xs (i + 1)) (xs (i + 2))
      simp only [l1, l2, l3, l4, l5, d1, d2, d3, d4, sb, s1, s2, tw, if_true]
      by_cases z : nI t = 0
      · rw [if_pos z, ldL0, sb, s3 z, lgc, if_pos rfl]
        exact ih (i + 5) w' r' st' rc na tp' cn' rh sr' (nI t) mk' us' fi' sE' ki' va' li ct' od' ne ro' ou' (by omega) (by omega) (by omega) s4
      · rw [if_neg z]
        exact ih (i + 5) w' r' st' rc na tp' cn' rh sr' (nI t) mk' us' fi' sE' ki' va' li ct' od' ne ro' ou' (by omega) (by omega) (by omega) s4
    rw [if_neg h20]
    by_cases h21 : xs i &&& (15 : Int32) = (1 : Int32)
    · rw [if_pos h21]
      obtain ⟨t, a, w', r', st', rc', na', tp', cn', rh', sr', mk', us', fi', sE', ki', va', li', ct', od', ne', ro', ou', s1, s2, s3, s4⟩ := V_claim hS rc na rh li ne ou th (xs (i + 1)) (xs (i + 2)) (xs (i + 3))
      simp only [l1, l2, l3, l4, l5, d1, d2, d3, d4, sb, s1, s2, tw, if_true]
      by_cases z : nI t = 0
      · rw [if_pos z, ldL0, sb, s3 z, lgc, if_pos rfl]
        exact ih (i + 5) w' r' st' rc' na' tp' cn' rh' sr' (nI t) mk' us' fi' sE' ki' va' li' ct' od' ne' ro' ou' (by omega) (by omega) (by omega) s4
      · rw [if_neg z]
        exact ih (i + 5) w' r' st' rc' na' tp' cn' rh' sr' (nI t) mk' us' fi' sE' ki' va' li' ct' od' ne' ro' ou' (by omega) (by omega) (by omega) s4
    rw [if_neg h21]
    by_cases h22 : xs i &&& (15 : Int32) = (2 : Int32)
    · rw [if_pos h22]
      obtain ⟨t, a, w', r', st', rc', na', tp', cn', rh', us', va', li', ct', od', ne', ou', s1, s2, s3, s4⟩ := V_compact hS rc na rh li ne ou th (xs (i + 1))
      simp only [l1, l2, l3, l4, l5, d1, d2, d3, d4, sb, s1, s2, tw, if_true]
      by_cases z : nI t = 0
      · rw [if_pos z, ldL0, sb, s3 z, lgc, if_pos rfl]
        exact ih (i + 5) w' r' st' rc' na' tp' cn' rh' sr (nI t) mk us' fi sE ki va' li' ct' od' ne' ro ou' (by omega) (by omega) (by omega) s4
      · rw [if_neg z]
        exact ih (i + 5) w' r' st' rc' na' tp' cn' rh' sr (nI t) mk us' fi sE ki va' li' ct' od' ne' ro ou' (by omega) (by omega) (by omega) s4
    rw [if_neg h22]
    by_cases h23 : xs i &&& (15 : Int32) = (3 : Int32)
    · rw [if_pos h23]
      obtain ⟨t, r', ro', s1, s2, s4⟩ := V_copy hS th (xs (i + 1)) (xs (i + 2))
      simp only [l1, l2, l3, l4, l5, d1, d2, d3, d4, sb, s1, s2, tw, if_true]
      exact ih (i + 5) w r' st rc na tp cn rh sr (nI t) mk us fi sE ki va li ct od ne ro' ou (by omega) (by omega) (by omega) s4
    rw [if_neg h23]
    by_cases h24 : xs i &&& (15 : Int32) = (4 : Int32)
    · rw [if_pos h24]
      obtain ⟨t, r', ro', s1, s2, s4⟩ := V_clear hS th (xs (i + 1))
      simp only [l1, l2, l3, l4, l5, d1, d2, d3, d4, sb, s1, s2, tw, if_true]
      exact ih (i + 5) w r' st rc na tp cn rh sr (nI t) mk us fi sE ki va li ct od ne ro' ou (by omega) (by omega) (by omega) s4
    rw [if_neg h24]
    by_cases h25 : xs i &&& (15 : Int32) = (5 : Int32)
    · rw [if_pos h25]
      obtain ⟨t, w', ki', va', s1, s2, s4⟩ := V_put hS th (xs (i + 1)) (xs (i + 2)) (xs (i + 3))
      simp only [l1, l2, l3, l4, l5, d1, d2, d3, d4, sb, s1, s2, tw, if_true]
      exact ih (i + 5) w' r st rc na tp cn rh sr (nI t) mk us fi sE ki' va' li ct od ne ro ou (by omega) (by omega) (by omega) s4
    rw [if_neg h25]
    by_cases h26 : xs i &&& (15 : Int32) = (6 : Int32)
    · rw [if_pos h26]
      by_cases h4 : xs (i + 4) = 0
      · obtain ⟨t, w', ki', va', s1, s2, s4⟩ := V_refer hS th (xs (i + 1)) (xs (i + 2)) (xs (i + 3)) 0
        simp only [h4, l1, l2, l3, l4, l5, d1, d2, d3, d4, sb, s1, s2, tw, if_true]
        exact ih (i + 5) w' r st rc na tp cn rh sr (nI t) mk us fi sE ki' va' li ct od ne ro ou (by omega) (by omega) (by omega) s4
      · obtain ⟨t, w', ki', va', s1, s2, s4⟩ := V_refer hS th (xs (i + 1)) (xs (i + 2)) (xs (i + 3)) 1
        simp only [if_neg h4, l1, l2, l3, l4, l5, d1, d2, d3, d4, sb, s1, s2, tw, if_true]
        exact ih (i + 5) w' r st rc na tp cn rh sr (nI t) mk us fi sE ki' va' li ct od ne ro ou (by omega) (by omega) (by omega) s4
    rw [if_neg h26]
    by_cases h27 : xs i &&& (15 : Int32) = (7 : Int32)
    · rw [if_pos h27]
      obtain ⟨t, a, r', ro', ou', s1, s2, s3, s4⟩ := V_follow hS ou th (xs (i + 1)) (xs (i + 2)) (xs (i + 3))
      simp only [l1, l2, l3, l4, l5, d1, d2, d3, d4, sb, s1, s2, tw, if_true]
      by_cases z : nI t = 0
      · rw [if_pos z, ldL0, sb, s3 z]
        by_cases y : a = 0
        · rw [if_pos y, if_pos y, lgc, if_pos rfl]
          exact ih (i + 5) w r' st rc na tp cn rh sr (nI t) mk us fi sE ki va li ct od ne ro' ou' (by omega) (by omega) (by omega) s4
        · rw [if_neg y, if_neg y, lgc, if_pos rfl]
          exact ih (i + 5) w r' st rc na tp cn rh sr (nI t) mk us fi sE ki va li ct od ne ro' ou' (by omega) (by omega) (by omega) s4
      · rw [if_neg z]
        exact ih (i + 5) w r' st rc na tp cn rh sr (nI t) mk us fi sE ki va li ct od ne ro' ou' (by omega) (by omega) (by omega) s4
    rw [if_neg h27]
    by_cases h28 : xs i &&& (15 : Int32) = (8 : Int32)
    · rw [if_pos h28]
      obtain ⟨t, a, ou', s1, s2, s3, s4⟩ := V_kind hS ou th (xs (i + 1)) (xs (i + 2))
      simp only [l1, l2, l3, l4, l5, d1, d2, d3, d4, sb, s1, s2, tw, if_true]
      by_cases z : nI t = 0
      · rw [if_pos z, ldL0, sb, s3 z, lgc, if_pos rfl]
        exact ih (i + 5) w r st rc na tp cn rh sr (nI t) mk us fi sE ki va li ct od ne ro ou' (by omega) (by omega) (by omega) s4
      · rw [if_neg z]
        exact ih (i + 5) w r st rc na tp cn rh sr (nI t) mk us fi sE ki va li ct od ne ro ou' (by omega) (by omega) (by omega) s4
    rw [if_neg h28]
    by_cases h29 : xs i &&& (15 : Int32) = (9 : Int32)
    · rw [if_pos h29]
      obtain ⟨t, a, ou', s1, s2, s3, s4⟩ := V_serial hS ou th (xs (i + 1))
      simp only [l1, l2, l3, l4, l5, d1, d2, d3, d4, sb, s1, s2, tw, if_true]
      by_cases z : nI t = 0
      · rw [if_pos z, ldL0, sb, s3 z, lgc, if_pos rfl]
        exact ih (i + 5) w r st rc na tp cn rh sr (nI t) mk us fi sE ki va li ct od ne ro ou' (by omega) (by omega) (by omega) s4
      · rw [if_neg z]
        exact ih (i + 5) w r st rc na tp cn rh sr (nI t) mk us fi sE ki va li ct od ne ro ou' (by omega) (by omega) (by omega) s4
    rw [if_neg h29]
    by_cases h30 : xs i &&& (15 : Int32) = (10 : Int32)
    · rw [if_pos h30]
      obtain ⟨t, a, ou', s1, s2, s3, s4⟩ := V_address hS ou th (xs (i + 1))
      simp only [l1, l2, l3, l4, l5, d1, d2, d3, d4, sb, s1, s2, tw, if_true]
      by_cases z : nI t = 0
      · rw [if_pos z, ldL0, sb, s3 z, lgc, if_pos rfl]
        exact ih (i + 5) w r st rc na tp cn rh sr (nI t) mk us fi sE ki va li ct od ne ro ou' (by omega) (by omega) (by omega) s4
      · rw [if_neg z]
        exact ih (i + 5) w r st rc na tp cn rh sr (nI t) mk us fi sE ki va li ct od ne ro ou' (by omega) (by omega) (by omega) s4
    rw [if_neg h30]
    by_cases h31 : xs i &&& (15 : Int32) = (11 : Int32)
    · rw [if_pos h31]
      obtain ⟨t, a, ou', s1, s2, s3, s4⟩ := V_word hS ou th (xs (i + 1))
      simp only [l1, l2, l3, l4, l5, d1, d2, d3, d4, sb, s1, s2, tw, if_true]
      by_cases z : nI t = 0
      · rw [if_pos z, ldL0, sb, s3 z, lgc, if_pos rfl]
        exact ih (i + 5) w r st rc na tp cn rh sr (nI t) mk us fi sE ki va li ct od ne ro ou' (by omega) (by omega) (by omega) s4
      · rw [if_neg z]
        exact ih (i + 5) w r st rc na tp cn rh sr (nI t) mk us fi sE ki va li ct od ne ro ou' (by omega) (by omega) (by omega) s4
    rw [if_neg h31]
    by_cases h32 : xs i &&& (15 : Int32) = (12 : Int32)
    · rw [if_pos h32]
      obtain ⟨s1, s2⟩ := S_top hS th
      simp only [l5, sb, s1, s2, if_true]
      exact ih (i + 5) w r st rc na tp cn rh sr 0 mk us fi sE ki va li ct od ne ro ou (by omega) (by omega) (by omega) hS
    rw [if_neg h32]
    by_cases h33 : xs i &&& (15 : Int32) = (13 : Int32)
    · rw [if_pos h33]
      obtain ⟨s1, s2⟩ := S_objects hS th
      simp only [l5, sb, s1, s2, if_true]
      exact ih (i + 5) w r st rc na tp cn rh sr 0 mk us fi sE ki va li ct od ne ro ou (by omega) (by omega) (by omega) hS
    rw [if_neg h33]
    by_cases h34 : xs i &&& (15 : Int32) = (14 : Int32)
    · rw [if_pos h34]
      obtain ⟨a, rc', na', rh', li', s1, s2⟩ := S_alive hS rc na rh th li
      simp only [l5, sb, s1, s2, if_true]
      exact ih (i + 5) w r st rc' na' tp cn rh' sr 0 mk us fi sE ki va li' ct od ne ro ou (by omega) (by omega) (by omega) hS
    rw [if_neg h34]
    rw [l5]
    exact ih (i + 5) w r st rc na tp cn rh sr th mk us fi sE ki va li ct od ne ro ou (by omega) (by omega) (by omega) hS
