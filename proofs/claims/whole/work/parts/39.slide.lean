/-! ways 0 and 2: the objects slide down, in their order -/
theorem tus_ex (lb : Nat → Bool) (n p : Nat) : ∃ i, p < ctl lb n → (i < n ∧ lb i = true ∧ ctl lb i = p) := by
  by_cases hp : p < ctl lb n
  · obtain ⟨i, h⟩ := ctl_sur lb n p hp
    exact ⟨i, fun _ => h⟩
  · exact ⟨0, fun q => absurd q hp⟩
noncomputable def tus (lb : Nat → Bool) (n : Nat) (p : Nat) : Nat := Classical.choose (tus_ex lb n p)
theorem tus_at {lb : Nat → Bool} {n p : Nat} (h : p < ctl lb n) : tus lb n p < n ∧ lb (tus lb n p) = true ∧ ctl lb (tus lb n p) = p := Classical.choose_spec (tus_ex lb n p) h
theorem tus_of {lb : Nat → Bool} {n i : Nat} (hi : i < n) (hl : lb i = true) : tus lb n (ctl lb i) = i := by
  obtain ⟨a1, a2, a3⟩ := tus_at (ctl_lt hi hl)
  exact ctl_inj a2 hl a3
theorem slide_le {S : Nat → Nat} {lb : Nat → Bool} {n : Nat} : ∀ i, i ≤ n → pf (fun p => S (tus lb n p)) (ctl lb i) ≤ pf S i := by
  intro i
  induction i with
  | zero => intro _; exact Nat.le_refl _
  | succ i ih =>
    intro hi
    have h1 := ih (by omega)
    have h2 : pf S (i + 1) = pf S i + S i + 2 := rfl
    by_cases hl : lb i = true
    · rw [ctl_s hl]
      show pf (fun p => S (tus lb n p)) (ctl lb i) + S (tus lb n (ctl lb i)) + 2 ≤ _
      rw [tus_of (by omega) hl]
      omega
    · rw [ctl_n hl]; omega
theorem slide_plan {n : Nat} {S : Nat → Nat} {lb : Nat → Bool} : Plan n S lb (ctl lb n) (ctl lb) (tus lb n) :=
  ⟨by have := (ctl_le lb (Nat.zero_le n)).2; simp only [ctl] at this; omega, fun i hi hl => ⟨ctl_lt hi hl, tus_of hi hl⟩, fun p hp => tus_at hp, fun i hi _ => slide_le i (by omega)⟩
/-- newAddress after the search: an object's own address, or -1 -/
def NM (n : Nat) (S : Nat → Nat) (lb : Nat → Bool) (na : Nat → Int32) : Prop := ∀ i, i < n → (lb i = true → na (pf S i) = nI (pf S i)) ∧ (¬ lb i = true → na (pf S i) = (-1 : Int32))
section SL
variable {n : Nat} {S : Nat → Nat} {Kd g : Nat → Nat → Nat} {nu : Nat → Nat → Int32} {se : Nat → Int32} {rt : Nat → Nat} {w r st : Nat → Int32} {tp cn : Int32} {lb : Nat → Bool} {na : Nat → Int32}
theorem x_planSlide (h : CX n S Kd g nu se rt w r st tp cn) (hN : NM n S lb na) : ∃ na', fX0_planSlide w st na cn = some na' ∧ NA n S lb (ctl lb) (tus lb n) na' := by
  have hn := h.1
  have aux : ∀ (fu i : Nat) (na1 : Nat → Int32), i ≤ n → n - i < fu → (∀ i', i ≤ i' → i' < n → na1 (pf S i') = na (pf S i')) → (∀ i', i' < i → (lb i' = true → na1 (pf S i') = nI (pf (fun p => S (tus lb n p)) (ctl lb i'))) ∧ (¬ lb i' = true → na1 (pf S i') = (-1 : Int32))) →
      ∃ (y1 y2 : Int32) (na' : Nat → Int32), fX0_planSlide_L4 w st (nI n) fu (nI (pf (fun p => S (tus lb n p)) (ctl lb i))) (nI i) na1 = some (y1, y2, na') ∧ NA n S lb (ctl lb) (tus lb n) na' := by
    intro fu
    induction fu with
    | zero => intro i na1 q1 q2; exact absurd q2 (by omega)
    | succ fu ih =>
      intro i na1 q1 q2 a1 a2
      rw [fX0_planSlide_L4_s]
      by_cases e : i = n
      · subst e
        exact ⟨_, _, na1, by rw [if_pos (nI_le (Nat.le_refl _) (by omega))], a2⟩
      · have hi : i < n := by omega
        have hat := h.at hi
        have hst := h.2.2.2.2.2.1 i hi
        have hS := h.2.1 i hi
        rw [if_neg (nI_ge (by omega) (by omega)), ld_k (by omega) (by omega), sb, hst, ld_k (by omega) (by omega), sb, a1 i (by omega) hi]
        by_cases hl : lb i = true
        · have hh := (h.2.2.2.2.2.2.2.1 i hi).1
          rw [(hN i hi).1 hl, if_neg (m1_ne (by omega)), st_k (by omega) (by omega), sb, x_sizeOf (by omega) hh hS, sb, nI_add, nI_1]
          have e1 : pf (fun p => S (tus lb n p)) (ctl lb i) + (S i + 2) = pf (fun p => S (tus lb n p)) (ctl lb (i + 1)) := by
            rw [ctl_s hl]
            show _ = pf (fun p => S (tus lb n p)) (ctl lb i) + S (tus lb n (ctl lb i)) + 2
            rw [tus_of hi hl]; omega
          rw [e1]
          refine ih (i + 1) _ (by omega) (by omega) (fun i' z1 z2 => ?_) (fun i' z => ?_)
          · rw [upd_n (fun z => by have := pf_inj S z; omega)]; exact a1 i' (by omega) z2
          · by_cases ei : i' = i
            · subst ei; rw [upd_s]; exact ⟨fun _ => rfl, fun z => absurd hl z⟩
            · rw [upd_n (fun z => ei (pf_inj S z))]; exact a2 i' (by omega)
        · rw [(hN i hi).2 hl, if_pos rfl, nI_1]
          have e1 : ctl lb i = ctl lb (i + 1) := (ctl_n hl).symm
          rw [e1]
          refine ih (i + 1) _ (by omega) (by omega) (fun i' z1 z2 => a1 i' (by omega) z2) (fun i' z => ?_)
          by_cases ei : i' = i
          · subst ei; rw [a1 i' (by omega) hi]; exact ⟨fun z => absurd z hl, fun _ => (hN i' hi).2 hl⟩
          · exact a2 i' (by omega)
  obtain ⟨y1, y2, na', s1, s2⟩ := aux FU 0 na (by omega) (by unfold FU; omega) (fun _ _ _ => rfl) (fun i' q => absurd q (by omega))
  refine ⟨na', ?_, s2⟩
  unfold fX0_planSlide
  rw [h.2.2.2.2.1, n0]
  have s1' : fX0_planSlide_L4 w st (nI n) FU (nI 0) (nI 0) na = some (y1, y2, na') := s1
  rw [s1', sb]
end SL
section SR
variable {n : Nat} {S : Nat → Nat} {Kd g : Nat → Nat → Nat} {nu : Nat → Nat → Int32} {se : Nat → Int32} {rt o : Nat → Nat} {us fi sE ki va : Nat → Int32} {ct : Int32} {od ro li : Nat → Int32}
theorem r_keepOrder (h : RX n S Kd g nu se rt o us fi sE ki va ct od ro) (hL : LI n o li) (ne : Nat → Int32) : ∃ ne', fX1_keepOrder li ct od ne = some ne' ∧ ∀ p, p < ctl (lvb o li) n → ne' p = nI (o (tus (lvb o li) n p)) := by
  have hn := h.1
  have aux : ∀ (fu i : Nat) (ne1 : Nat → Int32), i ≤ n → n - i < fu → (∀ p, p < ctl (lvb o li) i → ne1 p = nI (o (tus (lvb o li) n p))) →
      ∃ (y1 y2 : Int32) (ne' : Nat → Int32), fX1_keepOrder_L4 li (nI n) od fu (nI (ctl (lvb o li) i)) (nI i) ne1 = some (y1, y2, ne') ∧ ∀ p, p < ctl (lvb o li) n → ne' p = nI (o (tus (lvb o li) n p)) := by
    intro fu
    induction fu with
    | zero => intro i ne1 q1 q2; exact absurd q2 (by omega)
    | succ fu ih =>
      intro i ne1 q1 q2 a1
      rw [fX1_keepOrder_L4_s]
      by_cases e : i = n
      · subst e
        exact ⟨_, _, ne1, by rw [if_pos (nI_le (Nat.le_refl _) (by omega))], a1⟩
      · have hi : i < n := by omega
        obtain ⟨o1, o2⟩ := h.2.2.1 i hi
        rw [if_neg (nI_ge (by omega) (by omega)), ld_k (by omega) (by omega), sb, o2, ld_k o1 (by omega), sb]
        rcases li_01 hL h.o128 hi with ⟨z1, z2⟩ | ⟨z1, z2⟩
        · rw [if_pos z1, nI_1]
          have e1 : ctl (lvb o li) i = ctl (lvb o li) (i + 1) := (ctl_n z2).symm
          rw [e1] at a1 ⊢
          exact ih (i + 1) ne1 (by omega) (by omega) a1
        · have hlt := ctl_lt hi z2
          have hle := (ctl_le (lvb o li) (Nat.zero_le n)).2
          simp only [ctl] at hle
          rw [if_neg z1, sb, st_k (by omega) (by omega), sb, nI_1, nI_1, ← ctl_s z2]
          refine ih (i + 1) _ (by omega) (by omega) (fun p hp => ?_)
          rw [ctl_s z2] at hp
          by_cases ep : p = ctl (lvb o li) i
          · subst ep; rw [upd_s, tus_of hi z2]
          · rw [upd_n ep]; exact a1 p (by omega)
  obtain ⟨y1, y2, ne', s1, s2⟩ := aux FU 0 ne (by omega) (by unfold FU; omega) (fun p hp => absurd hp (by simp [ctl]))
  refine ⟨ne', ?_, s2⟩
  unfold fX1_keepOrder
  rw [h.2.1, n0]
  have s1' : fX1_keepOrder_L4 li (nI n) od FU (nI 0) (nI 0) ne = some (y1, y2, ne') := s1
  rw [s1', sb]
end SR
