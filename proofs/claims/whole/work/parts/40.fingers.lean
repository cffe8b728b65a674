/-! way 1: the highest objects go into the lowest gaps -/
def nb (lb : Nat → Bool) : Nat → Bool := fun i => !lb i
theorem nb_t {lb : Nat → Bool} {i : Nat} : nb lb i = true ↔ ¬ lb i = true := by unfold nb; cases lb i <;> simp
theorem nb_sum (lb : Nat → Bool) : ∀ i, ctl (nb lb) i + ctl lb i = i := by
  intro i
  induction i with
  | zero => rfl
  | succ i ih =>
    by_cases h : lb i = true
    · rw [ctl_s h, ctl_n (fun q => (nb_t.mp q) h)]; omega
    · rw [ctl_n h, ctl_s (nb_t.mpr h)]; omega
/-- where a place's new object comes from; where an object goes -/
noncomputable def tuf (lb : Nat → Bool) (n : Nat) (p : Nat) : Nat := if lb p = true then p else tus lb n (ctl lb n - 1 - ctl (nb lb) p)
noncomputable def sgf (lb : Nat → Bool) (n : Nat) (i : Nat) : Nat := if i < ctl lb n then i else tus (nb lb) n (ctl lb n - 1 - ctl lb i)
theorem ctl_n_le (lb : Nat → Bool) (n : Nat) : ctl lb n ≤ n := by have := (ctl_le lb (Nat.zero_le n)).2; simp only [ctl] at this; omega
/-- a gap p below the border: the object that comes there stands at or above the border -/
theorem tuf_gap {lb : Nat → Bool} {n p : Nat} (hp : p < ctl lb n) (hl : ¬ lb p = true) : ctl lb n - 1 - ctl (nb lb) p < ctl lb n ∧ ctl lb n ≤ tuf lb n p ∧ tuf lb n p < n ∧ lb (tuf lb n p) = true ∧ ctl lb (tuf lb n p) + ctl (nb lb) p + 1 = ctl lb n := by
  have h1 := nb_sum lb p
  have h2 : ctl (nb lb) p ≤ p := by omega
  have h3 : ctl lb n - 1 - ctl (nb lb) p < ctl lb n := by omega
  obtain ⟨a1, a2, a3⟩ := tus_at h3
  unfold tuf
  rw [if_neg hl]
  refine ⟨h3, ?_, a1, a2, by omega⟩
  rcases Nat.lt_or_ge (tus lb n (ctl lb n - 1 - ctl (nb lb) p)) (ctl lb n) with q | q
  · exfalso
    have b1 := ctl_lt q a2
    have b2 := nb_sum lb (ctl lb n)
    have b3 := ctl_lt (b := nb lb) hp (nb_t.mpr hl)
    omega
  · exact q
theorem sgf_high {lb : Nat → Bool} {n i : Nat} (hi : i < n) (hl : lb i = true) (hc : ctl lb n ≤ i) : sgf lb n i < ctl lb n ∧ ¬ lb (sgf lb n i) = true ∧ ctl (nb lb) (sgf lb n i) + ctl lb i + 1 = ctl lb n := by
  have h1 := ctl_lt hi hl
  have h2 := nb_sum lb (ctl lb n)
  have h3 := (ctl_le lb hc).1
  have h4 := (ctl_le (nb lb) (ctl_n_le lb n)).1
  have h5 : ctl lb n - 1 - ctl lb i < ctl (nb lb) (ctl lb n) := by omega
  obtain ⟨a1, a2, a3⟩ := tus_at (lb := nb lb) (n := n) (p := ctl lb n - 1 - ctl lb i) (by omega)
  unfold sgf
  rw [if_neg (by omega)]
  refine ⟨?_, nb_t.mp a2, by omega⟩
  rcases Nat.lt_or_ge (tus (nb lb) n (ctl lb n - 1 - ctl lb i)) (ctl lb n) with q | q
  · exact q
  · exfalso
    have := (ctl_le (nb lb) q).1
    omega
theorem fing_plan {n F : Nat} {S : Nat → Nat} {lb : Nat → Bool} (hS : ∀ i, i < n → S i = F) : Plan n S lb (ctl lb n) (sgf lb n) (tuf lb n) := by
  have hc := ctl_n_le lb n
  have hsg : ∀ i, i < n → lb i = true → sgf lb n i < ctl lb n ∧ tuf lb n (sgf lb n i) = i := fun i hi hl => by
    by_cases e : i < ctl lb n
    · have e1 : sgf lb n i = i := if_pos e
      rw [e1]
      exact ⟨e, if_pos hl⟩
    · obtain ⟨a1, a2, a3⟩ := sgf_high hi hl (by omega)
      refine ⟨a1, ?_⟩
      obtain ⟨b1, b2, b3, b4, b5⟩ := tuf_gap a1 a2
      exact ctl_inj b4 hl (by omega)
  have htu : ∀ p, p < ctl lb n → tuf lb n p < n ∧ lb (tuf lb n p) = true ∧ sgf lb n (tuf lb n p) = p := fun p hp => by
    by_cases e : lb p = true
    · have e1 : tuf lb n p = p := if_pos e
      rw [e1]
      exact ⟨by omega, e, if_pos hp⟩
    · obtain ⟨b1, b2, b3, b4, b5⟩ := tuf_gap hp e
      obtain ⟨a1, a2, a3⟩ := sgf_high b3 b4 b2
      exact ⟨b3, b4, ctl_inj (b := nb lb) (nb_t.mpr a2) (nb_t.mpr e) (by omega)⟩
  refine ⟨hc, hsg, htu, fun i hi hl => ?_⟩
  have e1 : pf (fun p => S (tuf lb n p)) (sgf lb n i) = pf S (sgf lb n i) := pf_congr (n := ctl lb n) (fun p hp => by rw [hS p (by omega)]; exact hS _ (htu p hp).1) _ (by have := (hsg i hi hl).1; omega)
  rw [e1]
  have e2 : sgf lb n i ≤ i := by
    by_cases e : i < ctl lb n
    · have : sgf lb n i = i := if_pos e
      omega
    · have := (hsg i hi hl).1
      omega
  have := pf_le S e2
  omega
section FG
variable {n : Nat} {S : Nat → Nat} {Kd g : Nat → Nat → Nat} {nu : Nat → Nat → Int32} {se : Nat → Int32} {rt : Nat → Nat} {w r st : Nat → Int32} {tp cn : Int32} {lb : Nat → Bool} {na : Nat → Int32}
theorem x_planTwoFingers (h : CX n S Kd g nu se rt w r st tp cn) {F : Nat} (hS : ∀ i, i < n → S i = F) (hN : NM n S lb na) : ∃ na', fX0_planTwoFingers st na cn = some na' ∧ NA n S lb (sgf lb n) (tuf lb n) na' := by
  have hn := h.1
  have hp := fing_plan (lb := lb) hS
  have hcn := ctl_n_le lb n
  have e1 : ∀ i, i ≤ ctl lb n → pf (fun p => S (tuf lb n p)) i = pf S i := pf_congr (n := ctl lb n) (fun p hq => by rw [hS p (by omega)]; exact hS _ (hp.2.2.1 p hq).1)
  have aux : ∀ (fu low hi1 : Nat) (x2 : Int32) (na1 : Nat → Int32), low ≤ hi1 → hi1 ≤ n → hi1 - low < fu → (0 < hi1 → x2 = nI (hi1 - 1)) → (hi1 = 0 → x2 = (-1 : Int32)) → ctl (nb lb) low + ctl lb hi1 = ctl lb n → (∀ i, i < n → ¬ lb i = true → na1 (pf S i) = (-1 : Int32)) → (∀ i, i < hi1 → lb i = true → na1 (pf S i) = nI (pf S i)) → (∀ i, hi1 ≤ i → i < n → lb i = true → na1 (pf S i) = nI (pf S (sgf lb n i))) →
      ∃ (y1 y2 : Int32) (na' : Nat → Int32), fX0_planTwoFingers_L9 st fu (nI low) x2 na1 = some (y1, y2, na') ∧ NA n S lb (sgf lb n) (tuf lb n) na' := by
    intro fu
    induction fu with
    | zero => intro low hi1 x2 na1 q1 q2 q3; exact absurd q3 (by omega)
    | succ fu ih =>
      intro low hi1 x2 na1 q1 q2 q3 q4 q5 q6 d1 d2 d3
      rw [fX0_planTwoFingers_L9_s]
      have s1 := nb_sum lb low
      have s2 := (ctl_le lb q1)
      by_cases e : hi1 ≤ low + 1
      · refine ⟨nI low, x2, na1, ?_, fun i hi => ⟨fun hl => ?_, d1 i hi⟩⟩
        · rw [if_pos]
          by_cases z : hi1 = 0
          · rw [q5 z]
            have : low = 0 := by omega
            subst this; decide
          · rw [q4 (by omega)]; exact nI_le (by omega) (by omega)
        · have hsg := (hp.2.1 i hi hl).1
          rw [e1 _ (by omega)]
          by_cases z : hi1 ≤ i
          · exact d3 i z hi hl
          · have hic : i < ctl lb n := by
              by_cases z2 : i < low
              · omega
              · have : i = low := by omega
                subst this
                have := ctl_lt (b := lb) (i := i) (j := hi1) (by omega) hl
                omega
            have e2 : sgf lb n i = i := if_pos hic
            rw [e2]; exact d2 i (by omega) hl
      · have hlo : low < n := by omega
        have hst := h.2.2.2.2.2.1 low hlo
        have hat := h.at hlo
        have hhi : hi1 - 1 < n := by omega
        have hst2 := h.2.2.2.2.2.1 (hi1 - 1) hhi
        have hat2 := h.at hhi
        have hx2 := q4 (by omega)
        rw [hx2, if_neg (nI_ge (by omega) (by omega)), ld_k (by omega) (by omega), sb, hst, ld_k (by omega) (by omega), sb]
        by_cases l1 : lb low = true
        · rw [d2 low (by omega) l1, if_neg (m1_ne (by omega)), nI_1]
          refine ih (low + 1) hi1 (nI (hi1 - 1)) na1 (by omega) q2 (by omega) (fun _ => rfl) (fun z => absurd z (by omega)) ?_ d1 d2 d3
          rw [ctl_n (fun q => nb_t.mp q l1)]; exact q6
        · rw [d1 low hlo l1, if_pos rfl, ld_k (by omega) (by omega), sb, hst2, ld_k (by omega) (by omega), sb]
          have em1 : nI (hi1 - 1) + (-1 : Int32) = nI (hi1 - 1 - 1) := by
            have := pk_m1 (hi1 - 1 - 1)
            rw [show hi1 - 1 - 1 + 1 = hi1 - 1 by omega] at this
            exact this
          have eh : hi1 - 1 + 1 = hi1 := by omega
          by_cases l2 : lb (hi1 - 1) = true
          · have c1 := ctl_s (b := lb) (i := hi1 - 1) l2
            rw [eh] at c1
            have c2 := ctl_s (b := nb lb) (i := low) (nb_t.mpr l1)
            have hlc : ctl lb n ≤ hi1 - 1 := by
              have z1 := ctl_n (b := lb) l1
              have z2 := (ctl_le lb (i := low + 1) (j := hi1) (by omega)).2
              omega
            have hsg : sgf lb n (hi1 - 1) = low := by
              obtain ⟨a1, a2, a3⟩ := sgf_high hhi l2 hlc
              exact ctl_inj (b := nb lb) (nb_t.mpr a2) (nb_t.mpr l1) (by omega)
            rw [d2 (hi1 - 1) (by omega) l2, if_neg (m1_ne (by omega))]
            rw [sb, sb, st_k (by omega) (by omega), sb, nI_1, em1]
            refine ih (low + 1) (hi1 - 1) _ _ (by omega) (by omega) (by omega) (fun z => rfl) (fun z => absurd z (by omega)) (by omega) (fun i hi hl => ?_) (fun i hi hl => ?_) (fun i z1 hi hl => ?_)
            · rw [upd_n (fun z => by have := pf_inj S z; subst this; exact hl l2)]; exact d1 i hi hl
            · rw [upd_n (fun z => by have := pf_inj S z; omega)]; exact d2 i (by omega) hl
            · by_cases ei : i = hi1 - 1
              · subst ei; rw [upd_s, hsg]
              · rw [upd_n (fun z => ei (pf_inj S z))]; exact d3 i (by omega) hi hl
          · have c1 := ctl_n (b := lb) (i := hi1 - 1) l2
            rw [eh] at c1
            rw [d1 (hi1 - 1) hhi l2, if_pos rfl, em1]
            refine ih low (hi1 - 1) _ _ (by omega) (by omega) (by omega) (fun z => rfl) (fun z => absurd z (by omega)) (by omega) d1 (fun i hi hl => d2 i (by omega) hl) (fun i z1 hi hl => ?_)
            by_cases ei : i = hi1 - 1
            · subst ei; exact absurd hl l2
            · exact d3 i (by omega) hi hl
  obtain ⟨y1, y2, na', s1, s2⟩ := aux FU 0 n (cn - 1) na (by omega) (by omega) (by unfold FU; omega) (fun z => by
      rw [h.2.2.2.2.1]
      have := nI_pred (n - 1)
      rw [show n - 1 + 1 = n by omega] at this
      exact this) (fun z => by rw [h.2.2.2.2.1, z]; decide) (by show 0 + ctl lb n = _; omega) (fun i hi => (hN i hi).2) (fun i hi => (hN i hi).1) (fun i z1 z2 => absurd z1 (by omega))
  refine ⟨na', ?_, s2⟩
  unfold fX0_planTwoFingers
  rw [n0, s1, sb]
end FG
section FR
variable {n : Nat} {S : Nat → Nat} {Kd g : Nat → Nat → Nat} {nu : Nat → Nat → Int32} {se : Nat → Int32} {rt o : Nat → Nat} {us fi sE ki va : Nat → Int32} {ct : Int32} {od ro li : Nat → Int32}
/-- the reference looks downwards for the next object that is alive -/
theorem r_L48 (h : RX n S Kd g nu se rt o us fi sE ki va ct od ro) (hL : LI n o li) : ∀ (fu l1 : Nat), l1 ≤ n → l1 < fu → 0 < ctl (lvb o li) l1 → ∃ hh, hh < l1 ∧ lvb o li hh = true ∧ ctl (lvb o li) hh + 1 = ctl (lvb o li) l1 ∧ fX1_fillGaps_L48 li od fu (nI (l1 - 1)) = some (nI hh) := by
  intro fu
  induction fu with
  | zero => intro l1 q1 q2; exact absurd q2 (by omega)
  | succ fu ih =>
    intro l1 q1 q2 q3
    have hn := h.1
    cases l1 with
    | zero => exact absurd q3 (by simp [ctl])
    | succ l =>
      obtain ⟨o1, o2⟩ := h.2.2.1 l (by omega)
      rw [fX1_fillGaps_L48_s, Nat.add_sub_cancel, ld_k (by omega) (by omega), sb, o2, ld_k o1 (by omega), sb]
      rcases li_01 hL h.o128 (i := l) (by omega) with ⟨z1, z2⟩ | ⟨z1, z2⟩
      · rw [ctl_n z2] at q3
        have hl0 : 0 < l := by
          cases l with
          | zero => exact absurd q3 (by simp [ctl])
          | succ l => omega
        obtain ⟨hh, a1, a2, a3, a4⟩ := ih l (by omega) (by omega) q3
        refine ⟨hh, by omega, a2, by rw [ctl_n z2]; exact a3, ?_⟩
        have em1 := pk_m1 (l - 1)
        rw [show l - 1 + 1 = l by omega] at em1
        rw [if_pos z1, em1]; exact a4
      · exact ⟨l, by omega, z2, (ctl_s z2).symm, by rw [if_neg z1]⟩
theorem r_fillGaps (h : RX n S Kd g nu se rt o us fi sE ki va ct od ro) (hL : LI n o li) (ne : Nat → Int32) : ∃ ne', fX1_fillGaps li ct od ne = some ne' ∧ ∀ p, p < ctl (lvb o li) n → ne' p = nI (o (tuf (lvb o li) n p)) := by
  have hn := h.1
  have hcn := ctl_n_le (lvb o li) n
  have aux : ∀ (fu i l1 : Nat) (x2 : Int32) (ne1 : Nat → Int32), i ≤ ctl (lvb o li) n → ctl (lvb o li) n - i < fu → l1 ≤ n → (0 < l1 → x2 = nI (l1 - 1)) → ctl (nb (lvb o li)) i + ctl (lvb o li) l1 = ctl (lvb o li) n → (∀ p, p < i → ne1 p = nI (o (tuf (lvb o li) n p))) →
      ∃ (y1 y2 : Int32) (ne' : Nat → Int32), fX1_fillGaps_L14 (nI (ctl (lvb o li) n)) li od fu x2 (nI i) ne1 = some (y1, y2, ne') ∧ ∀ p, p < ctl (lvb o li) n → ne' p = nI (o (tuf (lvb o li) n p)) := by
    intro fu
    induction fu with
    | zero => intro i l1 x2 ne1 q1 q2; exact absurd q2 (by omega)
    | succ fu ih =>
      intro i l1 x2 ne1 q1 q2 q3 q4 q5 a1
      rw [fX1_fillGaps_L14_s]
      by_cases e : i = ctl (lvb o li) n
      · rw [e] at a1 ⊢
        exact ⟨_, _, ne1, by rw [if_pos (nI_le (Nat.le_refl _) (by omega))], a1⟩
      · obtain ⟨o1, o2⟩ := h.2.2.1 i (by omega)
        rw [if_neg (nI_ge (by omega) (by omega)), ld_k (by omega) (by omega), sb, o2, ld_k o1 (by omega), sb]
        rcases li_01 hL h.o128 (i := i) (by omega) with ⟨z1, z2⟩ | ⟨z1, z2⟩
        · have s1 := nb_sum (lvb o li) i
          obtain ⟨hh, b1, b2, b3, b4⟩ := r_L48 h hL FU l1 q3 (by unfold FU; omega) (by omega)
          obtain ⟨o3, o4⟩ := h.2.2.1 hh (by omega)
          obtain ⟨t1, t2, t3, t4, t5⟩ := tuf_gap (lb := lvb o li) (n := n) (p := i) (by omega) z2
          have ehh : tuf (lvb o li) n i = hh := ctl_inj t4 b2 (by omega)
          rw [if_pos z1, q4 (by omega), b4, sb, ld_k (by omega) (by omega), sb, o4, st_k (by omega) (by omega), sb, nI_1]
          refine ih (i + 1) hh _ _ (by omega) (by omega) (by omega) (fun z => ?_) ?_ (fun p hp => ?_)
          · have := pk_m1 (hh - 1)
            rw [show hh - 1 + 1 = hh by omega] at this
            exact this
          · rw [ctl_s (b := nb (lvb o li)) (nb_t.mpr z2)]; omega
          · by_cases ep : p = i
            · subst ep; rw [upd_s, ehh]
            · rw [upd_n ep]; exact a1 p (by omega)
        · rw [if_neg z1, sb, st_k (by omega) (by omega), sb, nI_1]
          refine ih (i + 1) l1 x2 _ (by omega) (by omega) q3 q4 ?_ (fun p hp => ?_)
          · rw [ctl_n (b := nb (lvb o li)) (fun q => nb_t.mp q z2)]; exact q5
          · by_cases ep : p = i
            · subst ep
              have : tuf (lvb o li) n p = p := if_pos z2
              rw [upd_s, this]
            · rw [upd_n ep]; exact a1 p (by omega)
  obtain ⟨y1, y2, ne', s1, s2⟩ := aux FU 0 n (ct - 1) ne (by omega) (by unfold FU; omega) (by omega) (fun z => by
      rw [h.2.1]
      have := nI_pred (n - 1)
      rw [show n - 1 + 1 = n by omega] at this
      exact this) (by show 0 + ctl _ n = _; omega) (fun p hp => absurd hp (by omega))
  refine ⟨ne', ?_, s2⟩
  unfold fX1_fillGaps
  rw [r_countAlive h hL, sb, n0, s1, sb]
end FR
