section BT
variable {n : Nat} {S : Nat → Nat} {Kd g : Nat → Nat → Nat} {nu : Nat → Nat → Int32} {se : Nat → Int32} {rt o : Nat → Nat} {w r st : Nat → Int32} {tp cn : Int32} {us fi sE ki va : Nat → Int32} {ct : Int32} {od ro : Nat → Int32}
/-- behind the plan: the class's rest of the way -/
theorem x_tail (h : CX n S Kd g nu se rt w r st tp cn) {lb : Nat → Bool} {c : Nat} {sg tu : Nat → Nat} (hp : Plan n S lb c sg tu) {na : Nat → Int32} (hN : NA n S lb sg tu na) {ρ : Nat → Nat} {rc : Nat → Int32}
    (h1 : ∀ j, j < c → ρ j < n ∧ rc j = nI (pf S (ρ j))) (h2 : ∀ i j, i < c → j < c → ρ i = ρ j → i = j) (h3 : ∀ i, i < n → lb i = true → ∃ j, j < c ∧ ρ j = i) :
    ∃ (r' w1 w2 w3 st' : Nat → Int32) (y : Int32), fX0_redirectRoots r na = some r' ∧ fX0_moveTogether_L26 rc na (nI c) FU 0 w = some (y, w1) ∧ fX0_moveObjects w1 st na cn = some w2 ∧ fX0_listObjects w2 st tp cn (nI c) = some (w3, st', nI (pf (fun p => S (tu p)) c), nI c) ∧
      CX c (fun p => S (tu p)) (fun p => Kd (tu p)) (fun p k => mv lb sg (g (tu p) k)) (fun p => nu (tu p)) (fun p => se (tu p)) (fun q => mv lb sg (rt q)) w3 r' st' (nI (pf (fun p => S (tu p)) c)) (nI c) := by
  obtain ⟨r', a1, a2⟩ := x_redirectRoots h hp hN
  obtain ⟨y, w1, b1, b2⟩ := x_redirectAll h hp hN hp.1 h1 h2
  obtain ⟨w2, c1, c2, c3⟩ := x_moveObjects h hp hN b2
  have hw : ∀ p, p < c → HD (w2 (pf (fun p => S (tu p)) p)) (S (tu p)) (Kd (tu p)) := fun p hpc => by
    obtain ⟨e1, e2, e3⟩ := hp.2.2.1 p hpc
    have e4 := c2 (tu p) e1 e2 0 (by omega)
    rw [e3, Nat.add_zero, Nat.add_zero] at e4
    rw [e4, (b2.1 _ e1).1]
    exact (h.2.2.2.2.2.2.2.1 _ e1).1
  obtain ⟨w3, st', d1, d2, d3⟩ := x_listObjects h hp hw cn
  exact ⟨r', w1, w2, w3, st', y, a1, b1, c1, d1, x_pressed h hp b2 h3 c2 c3 d3 a2 d2⟩
/-- moving together: the class and the reference come to the same picture -/
theorem sim_press (hC : CX n S Kd g nu se rt w r st tp cn) (hM : RX n S Kd g nu se rt o us fi sE ki va ct od ro) (x1 : Int32) (h1 : x1 = 1 → ∀ i, i < n → S i = S 0) (rc na : Nat → Int32) (rh : Int32) (li ne : Nat → Int32) :
    ∃ (c : Nat) (S' : Nat → Nat) (Kd' g' : Nat → Nat → Nat) (nu' : Nat → Nat → Int32) (se' : Nat → Int32) (rt' o' : Nat → Nat) (w' r' st' rc' na' : Nat → Int32) (rh' : Int32) (us' va' li' od' ne' : Nat → Int32),
      fX0_moveTogether w r st rc na tp cn rh x1 = some (w', r', st', rc', na', nI (pf S' c), nI c, rh') ∧ fX1_press us fi ki va li ct od ne ro x1 = some (us', va', li', nI c, od', ne') ∧
      CX c S' Kd' g' nu' se' rt' w' r' st' (nI (pf S' c)) (nI c) ∧ RX c S' Kd' g' nu' se' rt' o' us' fi sE ki va' (nI c) od' ro := by
  obtain ⟨ρ, m, rc1, na1, rh1, a1, a2, a3⟩ := x_findAlive hC rc na rh
  obtain ⟨li1, b1, b2, b3⟩ := r_findAlive hM li
  have hiff := fun i => a3.iff b3 i
  have hlb : ∀ i, i < n → (lvb o li1 i = true ↔ ∃ j, j < m ∧ ρ j = i) := fun i hi => by
    rw [lvb_t]
    exact ⟨fun q => (hiff i).mpr ⟨hi, q⟩, fun q => ((hiff i).mp q).2⟩
  have hm : m = ctl (lvb o li1) n := ctl_enum (fun j hj => ⟨(a2.2.1 j hj).1, (hlb _ (a2.2.1 j hj).1).mpr ⟨j, hj, rfl⟩⟩) a2.2.2.1 (fun i hi q => (hlb i hi).mp q)
  have hNM : NM n S (lvb o li1) na1 := fun i hi => by
    rcases a2.2.2.2 i hi with ⟨q1, q2⟩ | ⟨q1, q2⟩
    · refine ⟨fun z => ?_, fun _ => q1⟩
      obtain ⟨j, j1, j2⟩ := (hlb i hi).mp z
      exact absurd j2 (q2 j j1)
    · exact ⟨fun _ => q1, fun z => absurd ((hlb i hi).mpr q2) z⟩
  have hrh : rh1 = nI (ctl (lvb o li1) n) := by rw [← hm]; exact a2.1
  have hcn := ctl_n_le (lvb o li1) n
  have hn := hC.1
  rw [hm] at a2 hlb
  obtain ⟨y1, v2, v3, v4⟩ := r_weak hM b2
  obtain ⟨y2, u2, u3, u4⟩ := r_used hM b2
  by_cases e : x1 = 1
  · have hp := fing_plan (lb := lvb o li1) (h1 e)
    obtain ⟨na2, p1, p2⟩ := x_planTwoFingers hC (h1 e) hNM
    obtain ⟨r', w1, w2, w3, st', y3, t1, t2, t3, t4, t5⟩ := x_tail hC hp p2 a2.2.1 a2.2.2.1 (fun i hi q => (hlb i hi).mp q)
    obtain ⟨ne2, k1, k2⟩ := r_fillGaps hM b2 ne
    obtain ⟨y4, d2, d3, d4⟩ := r_order (c := ctl (lvb o li1) n) (ne := ne2) (od := od) (by omega)
    refine ⟨_, _, _, _, _, _, _, _, w3, r', st', rc1, na2, rh1, u2, v2, li1, d2, ne2, ?_, ?_, t5, r_pressed hM b2 b3 hp v4 u4 (fun p hpc => (d4 p hpc).trans (k2 p hpc))⟩
    · unfold fX0_moveTogether
      rw [a1, sb]
      dsimp only
      rw [if_pos e, p1, sb, t1, sb, hrh, t2, sb]
      dsimp only
      rw [t3, sb, t4, sb]
    · unfold fX1_press
      rw [b1, sb, r_countAlive hM b2, sb, v3, sb]
      dsimp only
      rw [if_pos e, k1, sb, u3, sb]
      dsimp only
      rw [d3, sb]
  · have hp := slide_plan (n := n) (S := S) (lb := lvb o li1)
    obtain ⟨na2, p1, p2⟩ := x_planSlide hC hNM
    obtain ⟨r', w1, w2, w3, st', y3, t1, t2, t3, t4, t5⟩ := x_tail hC hp p2 a2.2.1 a2.2.2.1 (fun i hi q => (hlb i hi).mp q)
    obtain ⟨ne2, k1, k2⟩ := r_keepOrder hM b2 ne
    obtain ⟨y4, d2, d3, d4⟩ := r_order (c := ctl (lvb o li1) n) (ne := ne2) (od := od) (by omega)
    refine ⟨_, _, _, _, _, _, _, _, w3, r', st', rc1, na2, rh1, u2, v2, li1, d2, ne2, ?_, ?_, t5, r_pressed hM b2 b3 hp v4 u4 (fun p hpc => (d4 p hpc).trans (k2 p hpc))⟩
    · unfold fX0_moveTogether
      rw [a1, sb]
      dsimp only
      rw [if_neg e, p1, sb, t1, sb, hrh, t2, sb]
      dsimp only
      rw [t3, sb, t4, sb]
    · unfold fX1_press
      rw [b1, sb, r_countAlive hM b2, sb, v3, sb]
      dsimp only
      rw [if_neg e, k1, sb, u3, sb]
      dsimp only
      rw [d3, sb]
/-- one size, or not: both say the same -/
theorem sim_one (hC : CX n S Kd g nu se rt w r st tp cn) (hM : RX n S Kd g nu se rt o us fi sE ki va ct od ro) :
    (fX0_isOneSize w st cn = some 1 ∧ fX1_oneSize fi ct od = some 1 ∧ ∀ i, i < n → S i = S 0) ∨ (fX0_isOneSize w st cn = some 0 ∧ fX1_oneSize fi ct od = some 0) := by
  have hn := hC.1
  have hcl : ∀ (fu i : Nat), i ≤ n ∨ (n = 0 ∧ i = 1) → n - i < fu → 1 ≤ i → (∀ i', i' < i → i' < n → S i' = S 0) →
      (∃ y, fX0_isOneSize_L2 w st (nI n) fu (nI i) = some (0, y, 0) ∧ ∀ i, i < n → S i = S 0) ∨ (∃ y, fX0_isOneSize_L2 w st (nI n) fu (nI i) = some (1, y, 0) ∧ ∃ i, i < n ∧ ¬ S i = S 0) := by
    intro fu
    induction fu with
    | zero => intro i q1 q2; exact absurd q2 (by omega)
    | succ fu ih =>
      intro i q1 q2 q3 a1
      rw [fX0_isOneSize_L2_s]
      by_cases e : n ≤ i
      · exact Or.inl ⟨_, by rw [if_pos (nI_le e (by omega))], fun i' hi' => a1 i' (by omega) hi'⟩
      · have hi : i < n := by omega
        have hat := hC.at hi
        have hat0 := hC.at (i := 0) (by omega)
        rw [if_neg (nI_ge (by omega) (by omega)), ld_k (by omega) (by omega), sb, hC.2.2.2.2.2.1 i hi, x_fieldCount (by omega) (hC.2.2.2.2.2.2.2.1 i hi).1 (hC.2.1 i hi), sb, n0, ld_k (by omega) (by omega), sb, hC.2.2.2.2.2.1 0 (by omega), x_fieldCount (by omega) (hC.2.2.2.2.2.2.2.1 0 (by omega)).1 (hC.2.1 0 (by omega)), sb]
        by_cases es : S i = S 0
        · rw [if_pos (by rw [es]), nI_1]
          refine ih (i + 1) (Or.inl (by omega)) (by omega) (by omega) (fun i' z1 z2 => ?_)
          by_cases ei : i' = i
          · subst ei; exact es
          · exact a1 i' (by omega) z2
        · have b1 := hC.2.1 i hi
          have b2 := hC.2.1 0 (by omega)
          rw [if_neg (fun z => es (by rw [nI_eq (by omega) (by omega)] at z; exact z))]
          exact Or.inr ⟨_, rfl, i, hi, es⟩
  have hrl : ∀ (fu i b : Nat), i ≤ n ∨ (n = 0 ∧ i = 1) → n - i < fu → 1 ≤ i → (b = 1 ∧ (∀ i', i' < i → i' < n → S i' = S 0) ∨ b = 0 ∧ ∃ i, i < n ∧ ¬ S i = S 0) →
      (∃ y, fX1_oneSize_L4 fi (nI n) od fu (nI b) (nI i) = some (1, y) ∧ ∀ i, i < n → S i = S 0) ∨ (∃ y, fX1_oneSize_L4 fi (nI n) od fu (nI b) (nI i) = some (0, y) ∧ ∃ i, i < n ∧ ¬ S i = S 0) := by
    intro fu
    induction fu with
    | zero => intro i b q1 q2; exact absurd q2 (by omega)
    | succ fu ih =>
      intro i b q1 q2 q3 a1
      rw [fX1_oneSize_L4_s]
      by_cases e : n ≤ i
      · rcases a1 with ⟨rfl, a1⟩ | ⟨rfl, a1⟩
        · exact Or.inl ⟨_, by rw [if_pos (nI_le e (by omega))]; rfl, fun i' hi' => a1 i' (by omega) hi'⟩
        · exact Or.inr ⟨_, by rw [if_pos (nI_le e (by omega))]; rfl, a1⟩
      · have hi : i < n := by omega
        rw [if_neg (nI_ge (by omega) (by omega))]
        rcases a1 with ⟨rfl, a1⟩ | ⟨rfl, a1⟩
        · obtain ⟨o1, o2⟩ := hM.2.2.1 i hi
          obtain ⟨o3, o4⟩ := hM.2.2.1 0 (by omega)
          rw [show nI 1 = 1 from rfl, if_neg one0, ld_k (by omega) (by omega), sb, o2, ld_k o1 (by omega), sb, n0, ld_k (by omega) (by omega), sb, o4, ld_k o3 (by omega), sb, (hM.2.2.2.2.2.2.1 i hi).2.1, (hM.2.2.2.2.2.2.1 0 (by omega)).2.1]
          by_cases es : S i = S 0
          · rw [if_pos (by rw [es]), nI_1]
            refine ih (i + 1) 1 (Or.inl (by omega)) (by omega) (by omega) (Or.inl ⟨rfl, fun i' z1 z2 => ?_⟩)
            by_cases ei : i' = i
            · subst ei; exact es
            · exact a1 i' (by omega) z2
          · have b1 := hC.2.1 i hi
            have b2 := hC.2.1 0 (by omega)
            rw [if_neg (fun z => es (by rw [nI_eq (by omega) (by omega)] at z; exact z)), nI_1]
            exact ih (i + 1) 0 (Or.inl (by omega)) (by omega) (by omega) (Or.inr ⟨rfl, i, hi, es⟩)
        · rw [show nI 0 = 0 from rfl, if_pos rfl, nI_1]
          exact ih (i + 1) 0 (Or.inl (by omega)) (by omega) (by omega) (Or.inr ⟨rfl, a1⟩)
  have hone : 1 ≤ n ∨ (n = 0 ∧ 1 = 1) := by omega
  have A := hcl FU 1 hone (by unfold FU; omega) (by omega) (fun i' z1 z2 => by rw [show i' = 0 by omega])
  have B := hrl FU 1 1 hone (by unfold FU; omega) (by omega) (Or.inl ⟨rfl, fun i' z1 z2 => by rw [show i' = 0 by omega]⟩)
  unfold fX0_isOneSize fX1_oneSize rtZ
  rw [hC.2.2.2.2.1, hM.2.1]
  rcases A with ⟨y, A1, A2⟩ | ⟨y, A1, A2⟩
  · rcases B with ⟨z, B1, B2⟩ | ⟨z, B1, i, B2, B3⟩
    · refine Or.inl ⟨?_, ?_, A2⟩
      · rw [show fX0_isOneSize_L2 w st (nI n) FU 1 = _ from A1, sb]; rfl
      · rw [show fX1_oneSize_L4 fi (nI n) od FU 1 1 = _ from B1, sb]; rfl
    · exact absurd (A2 i B2) B3
  · obtain ⟨i, A3, A4⟩ := A2
    rcases B with ⟨z, B1, B2⟩ | ⟨z, B1, B2⟩
    · exact absurd (B2 i A3) A4
    · refine Or.inr ⟨?_, ?_⟩
      · rw [show fX0_isOneSize_L2 w st (nI n) FU 1 = _ from A1, sb]; rfl
      · rw [show fX1_oneSize_L4 fi (nI n) od FU 1 1 = _ from B1, sb]; rfl
end BT
