/-! moving the objects together, on the class's side: lb says who is alive, sg where it goes (a place), tu who comes there -/
def mv (lb : Nat → Bool) (sg : Nat → Nat) (j : Nat) : Nat := if j = 1000 then 1000 else if lb j = true then sg j else 1000
/-- a plan: c objects stay; sg and tu are each other's inverse; no object goes upwards -/
def Plan (n : Nat) (S : Nat → Nat) (lb : Nat → Bool) (c : Nat) (sg tu : Nat → Nat) : Prop :=
  c ≤ n ∧ (∀ i, i < n → lb i = true → sg i < c ∧ tu (sg i) = i) ∧ (∀ p, p < c → tu p < n ∧ lb (tu p) = true ∧ sg (tu p) = p) ∧ (∀ i, i < n → lb i = true → pf (fun p => S (tu p)) (sg i) ≤ pf S i)
/-- newAddress, as a plan wants it -/
def NA (n : Nat) (S : Nat → Nat) (lb : Nat → Bool) (sg tu : Nat → Nat) (na : Nat → Int32) : Prop :=
  ∀ i, i < n → (lb i = true → na (pf S i) = nI (pf (fun p => S (tu p)) (sg i))) ∧ (¬ lb i = true → na (pf S i) = (-1 : Int32))
section MV
variable {n : Nat} {S : Nat → Nat} {Kd g : Nat → Nat → Nat} {nu : Nat → Nat → Int32} {se : Nat → Int32} {rt : Nat → Nat} {w r st : Nat → Int32} {tp cn : Int32} {lb : Nat → Bool} {c : Nat} {sg tu : Nat → Nat} {na : Nat → Int32}
theorem mv_ok (hp : Plan n S lb c sg tu) {j : Nat} (hj : okj n j) : okj c (mv lb sg j) := by
  unfold mv
  by_cases e : j = 1000
  · rw [if_pos e]; exact Or.inl rfl
  · rw [if_neg e]
    by_cases e2 : lb j = true
    · rw [if_pos e2]; exact Or.inr (hp.2.1 j (hj.resolve_left e) e2).1
    · rw [if_neg e2]; exact Or.inl rfl
theorem x_aam (hn : n ≤ 128) (hlt : ∀ i, i < n → pf S i < 256) (hp : Plan n S lb c sg tu) (hN : NA n S lb sg tu na) {j : Nat} (hj : okj n j) : fX0_addressAfterMove na (adr (pf S) j) = some (adr (pf (fun p => S (tu p))) (mv lb sg j)) := by
  unfold fX0_addressAfterMove mv
  by_cases e : j = 1000
  · subst e
    rw [adr_no, if_pos rfl, if_pos rfl, adr_no]
  · have hjn := hj.resolve_left e
    have h1 := hlt j hjn
    rw [adr_at e, if_neg (m1_ne (by omega)), ld_k h1 (by omega), sb, if_neg e]
    by_cases e2 : lb j = true
    · have h2 := (hp.2.1 j hjn e2).1
      have h3 := hp.1
      rw [if_pos e2, (hN j hjn).1 e2, adr_at (by omega)]
    · rw [if_neg e2, (hN j hjn).2 e2, adr_no]
theorem x_redirectRoots (h : CX n S Kd g nu se rt w r st tp cn) (hp : Plan n S lb c sg tu) (hN : NA n S lb sg tu na) :
    ∃ r', fX0_redirectRoots r na = some r' ∧ ∀ q, q < 8 → r' q = adr (pf (fun p => S (tu p))) (mv lb sg (rt q)) := by
  have aux : ∀ (fu q : Nat) (r1 : Nat → Int32), q ≤ 8 → 8 - q < fu → (∀ q', q ≤ q' → q' < 8 → r1 q' = r q') → ∃ (y : Int32) (r' : Nat → Int32), fX0_redirectRoots_L2 na fu (nI q) r1 = some (y, r') ∧ (∀ q', q' < q → r' q' = r1 q') ∧ ∀ q', q ≤ q' → q' < 8 → r' q' = adr (pf (fun p => S (tu p))) (mv lb sg (rt q')) := by
    intro fu
    induction fu with
    | zero => intro q r1 h1 h2; exact absurd h2 (by omega)
    | succ fu ih =>
      intro q r1 h1 h2 hr
      rw [fX0_redirectRoots_L2_s, n8]
      by_cases e : q = 8
      · subst e
        exact ⟨_, r1, by rw [if_pos (nI_le (Nat.le_refl _) (by omega))], fun _ _ => rfl, fun q' q1 q2 => absurd q1 (by omega)⟩
      · have hq := h.2.2.2.2.2.2.1 q (by omega)
        obtain ⟨y, r', s1, s2, s3⟩ := ih (q + 1) (upd r1 q (adr (pf (fun p => S (tu p))) (mv lb sg (rt q)))) (by omega) (by omega) (fun q' q1 q2 => by rw [upd_n (by omega)]; exact hr q' (by omega) q2)
        refine ⟨y, r', ?_, fun q' q1 => ?_, fun q' q1 q2 => ?_⟩
        · rw [if_neg (nI_ge (by omega) (by omega)), ld_k (by omega) (by omega), sb, hr q (by omega) (by omega), hq.2, x_aam h.1 h.lt hp hN hq.1, sb, st_k (by omega) (by omega), sb, nI_1]; exact s1
        · rw [s2 q' (by omega), upd_n (by omega)]
        · by_cases e' : q' = q
          · subst e'; rw [s2 q' (by omega), upd_s]
          · exact s3 q' (by omega) q2
  obtain ⟨y, r', s1, s2, s3⟩ := aux FU 0 r (by omega) (by unfold FU; omega) (fun _ _ _ => rfl)
  refine ⟨r', ?_, fun q hq => s3 q (by omega) hq⟩
  unfold fX0_redirectRoots
  rw [n0, s1, sb]
/-- the words while references are changed: those of the objects in D are done, the others as they were -/
def RD (n : Nat) (S : Nat → Nat) (Kd g : Nat → Nat → Nat) (lb : Nat → Bool) (sg tu : Nat → Nat) (w : Nat → Int32) (D : Nat → Prop) (w1 : Nat → Int32) : Prop :=
  (∀ i, i < n → w1 (pf S i) = w (pf S i) ∧ w1 (pf S i + 1) = w (pf S i + 1) ∧ ∀ k, k < S i → (Kd i k = 0 → w1 (pf S i + 2 + k) = w (pf S i + 2 + k)) ∧ (¬ Kd i k = 0 → (D i → w1 (pf S i + 2 + k) = adr (pf (fun p => S (tu p))) (mv lb sg (g i k))) ∧ (¬ D i → w1 (pf S i + 2 + k) = w (pf S i + 2 + k)))) ∧ ∀ x, pf S n ≤ x → w1 x = w x
theorem far {S : Nat → Nat} {i j a b : Nat} (h : ¬ i = j) (ha : a < S i + 2) (hb : b < S j + 2) : ¬ pf S i + a = pf S j + b := by
  rcases Nat.lt_trichotomy i j with q | q | q
  · have := pf_lt S q; omega
  · exact absurd q h
  · have := pf_lt S q; omega
theorem x_redirectFields (h : CX n S Kd g nu se rt w r st tp cn) (hp : Plan n S lb c sg tu) (hN : NA n S lb sg tu na) {D : Nat → Prop} {w1 : Nat → Int32} (hD : RD n S Kd g lb sg tu w D w1) {i : Nat} (hi : i < n) (hDi : ¬ D i) :
    ∃ w2, fX0_redirectFields w1 na (nI (pf S i)) = some w2 ∧ RD n S Kd g lb sg tu w (fun j => D j ∨ j = i) w2 := by
  have hS := h.2.1 i hi
  have hat := h.at hi
  have hh : HD (w1 (pf S i)) (S i) (Kd i) := by rw [(hD.1 i hi).1]; exact (h.2.2.2.2.2.2.2.1 i hi).1
  have hk := h.2.2.2.2.2.2.2.2.1 i hi
  have aux : ∀ (fu k : Nat) (w2 : Nat → Int32), k ≤ S i → S i - k < fu → (∀ x, (∀ k', k' < k → ¬ x = pf S i + 2 + k') → w2 x = w1 x) → (∀ k', k' < k → (Kd i k' = 0 → w2 (pf S i + 2 + k') = w1 (pf S i + 2 + k')) ∧ (¬ Kd i k' = 0 → w2 (pf S i + 2 + k') = adr (pf (fun p => S (tu p))) (mv lb sg (g i k')))) →
      ∃ (y : Int32) (w3 : Nat → Int32), fX0_redirectFields_L8 (nI (pf S i)) (nI (S i)) na fu (nI k) w2 = some (y, w3) ∧ (∀ x, (∀ k', k' < S i → ¬ x = pf S i + 2 + k') → w3 x = w1 x) ∧ (∀ k', k' < S i → (Kd i k' = 0 → w3 (pf S i + 2 + k') = w1 (pf S i + 2 + k')) ∧ (¬ Kd i k' = 0 → w3 (pf S i + 2 + k') = adr (pf (fun p => S (tu p))) (mv lb sg (g i k')))) := by
    intro fu
    induction fu with
    | zero => intro k w2 h1 h2; exact absurd h2 (by omega)
    | succ fu ih =>
      intro k w2 h1 h2 a1 a2
      rw [fX0_redirectFields_L8_s]
      by_cases e : k = S i
      · rw [e] at a1 a2 ⊢
        exact ⟨_, w2, by rw [if_pos (nI_le (Nat.le_refl _) (by omega))], a1, a2⟩
      · have hk1 : k < S i := by omega
        have hh2 : HD (w2 (pf S i)) (S i) (Kd i) := by rw [a1 _ (fun k' _ => by omega)]; exact hh
        rw [if_neg (nI_ge hk1 (by omega)), x_fieldKind (by omega) hh2 hS hk1 (hk k hk1).1, sb]
        have same : w2 (pf S i + 2 + k) = w1 (pf S i + 2 + k) := a1 _ (fun k' q => by omega)
        by_cases k0 : Kd i k = 0
        · rw [k0, if_pos (show nI 0 = 0 from rfl), nI_1]
          refine ih (k + 1) w2 (by omega) (by omega) (fun x hx => a1 x (fun k' q => hx k' (by omega))) (fun k' q => ?_)
          by_cases ek : k' = k
          · subst ek; exact ⟨fun _ => same, fun z => absurd k0 z⟩
          · exact a2 k' (by omega)
        · have hg := (hk k hk1).2.2 k0
          have hw1 : w1 (pf S i + 2 + k) = adr (pf S) (g i k) := by
            rw [(((hD.1 i hi).2.2 k hk1).2 k0).2 hDi]; exact hg.2
          rw [if_neg (fun q => k0 (by rw [n0, nI_eq (by have := (hk k hk1).1; omega) (by omega)] at q; exact q)), x_fieldAddress, sb, ld_k (by omega) (by omega), sb, same, hw1, x_aam h.1 h.lt hp hN hg.1, sb, st_k (by omega) (by omega), sb, nI_1]
          refine ih (k + 1) _ (by omega) (by omega) (fun x hx => ?_) (fun k' q => ?_)
          · rw [upd_n (hx k (by omega))]; exact a1 x (fun k' q => hx k' (by omega))
          · by_cases ek : k' = k
            · subst ek; rw [upd_s]; exact ⟨fun z => absurd z k0, fun _ => rfl⟩
            · rw [upd_n (by omega)]; exact a2 k' (by omega)
  obtain ⟨y, w3, s1, s2, s3⟩ := aux FU 0 w1 (by omega) (by unfold FU; omega) (fun _ _ => rfl) (fun k' q => absurd q (by omega))
  refine ⟨w3, ?_, fun j hj => ⟨?_, ?_, fun k k1 => ?_⟩, fun x hx => ?_⟩
  · unfold fX0_redirectFields
    rw [x_fieldCount (by omega) hh hS, sb, n0, s1, sb]
  · rw [s2 _ (fun k' q => ?_)]
    · exact (hD.1 j hj).1
    · by_cases ej : j = i
      · subst ej; omega
      · exact fun z => far (S := S) (a := 0) (b := 2 + k') ej (by omega) (by omega) (by omega)
  · rw [s2 _ (fun k' q => ?_)]
    · exact (hD.1 j hj).2.1
    · by_cases ej : j = i
      · subst ej; omega
      · exact fun z => far (S := S) (a := 1) (b := 2 + k') ej (by omega) (by omega) (by omega)
  · by_cases ej : j = i
    · subst ej
      refine ⟨fun z => ?_, fun z => ⟨fun _ => (s3 k k1).2 z, fun q => absurd (Or.inr rfl) q⟩⟩
      rw [(s3 k k1).1 z]; exact ((hD.1 j hj).2.2 k k1).1 z
    · have e1 : w3 (pf S j + 2 + k) = w1 (pf S j + 2 + k) := s2 _ (fun k' q z => far (S := S) (a := 2 + k) (b := 2 + k') ej (by omega) (by omega) (by omega))
      rw [e1]
      refine ⟨((hD.1 j hj).2.2 k k1).1, fun z => ⟨fun q => (((hD.1 j hj).2.2 k k1).2 z).1 (q.resolve_right ej), fun q => (((hD.1 j hj).2.2 k k1).2 z).2 (fun q2 => q (Or.inl q2))⟩⟩
  · rw [s2 x (fun k' q => by have := pf_lt S hi; omega)]; exact hD.2 x hx
theorem x_redirectAll (h : CX n S Kd g nu se rt w r st tp cn) (hp : Plan n S lb c sg tu) (hN : NA n S lb sg tu na) {ρ : Nat → Nat} {m : Nat} {rc : Nat → Int32} (hm : m ≤ n) (h1 : ∀ j, j < m → ρ j < n ∧ rc j = nI (pf S (ρ j))) (h2 : ∀ i j, i < m → j < m → ρ i = ρ j → i = j) :
    ∃ (y : Int32) (w2 : Nat → Int32), fX0_moveTogether_L26 rc na (nI m) FU 0 w = some (y, w2) ∧ RD n S Kd g lb sg tu w (fun i => ∃ j, j < m ∧ ρ j = i) w2 := by
  have hn := h.1
  have aux : ∀ (fu j : Nat) (w1 : Nat → Int32), j ≤ m → m - j < fu → RD n S Kd g lb sg tu w (fun i => ∃ j', j' < j ∧ ρ j' = i) w1 → ∃ (y : Int32) (w2 : Nat → Int32), fX0_moveTogether_L26 rc na (nI m) fu (nI j) w1 = some (y, w2) ∧ RD n S Kd g lb sg tu w (fun i => ∃ j', j' < m ∧ ρ j' = i) w2 := by
    intro fu
    induction fu with
    | zero => intro j w1 q1 q2; exact absurd q2 (by omega)
    | succ fu ih =>
      intro j w1 q1 q2 hD
      rw [fX0_moveTogether_L26_s]
      by_cases e : j = m
      · subst e
        exact ⟨_, w1, by rw [if_pos (nI_le (Nat.le_refl _) (by omega))], hD⟩
      · obtain ⟨b1, b2⟩ := h1 j (by omega)
        obtain ⟨w2, s1, s2⟩ := x_redirectFields h hp hN hD b1 (fun ⟨j', z1, z2⟩ => by have := h2 j' j (by omega) (by omega) z2; omega)
        rw [if_neg (nI_ge (by omega) (by omega)), ld_k (by omega) (by omega), sb, b2, s1, sb, nI_1]
        refine ih (j + 1) w2 (by omega) (by omega) ?_
        have eD : (fun i => ∃ j', j' < j + 1 ∧ ρ j' = i) = (fun i => (∃ j', j' < j ∧ ρ j' = i) ∨ i = ρ j) := by
          funext i
          apply propext
          constructor
          · rintro ⟨j', z1, z2⟩
            by_cases ej : j' = j
            · subst ej; exact Or.inr z2.symm
            · exact Or.inl ⟨j', by omega, z2⟩
          · rintro (⟨j', z1, z2⟩ | z)
            · exact ⟨j', by omega, z2⟩
            · exact ⟨j, by omega, z.symm⟩
        rw [eD]; exact s2
  have h0 : RD n S Kd g lb sg tu w (fun i => ∃ j', j' < 0 ∧ ρ j' = i) w := ⟨fun i hi => ⟨rfl, rfl, fun k hk => ⟨fun _ => rfl, fun _ => ⟨fun ⟨j', z, _⟩ => absurd z (by omega), fun _ => rfl⟩⟩⟩, fun _ _ => rfl⟩
  exact aux FU 0 w (by omega) (by unfold FU; omega) h0
end MV
