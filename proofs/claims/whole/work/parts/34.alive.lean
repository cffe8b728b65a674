theorem nI_def (n : Nat) : Int32.ofNat n = nI n := rfl
theorem x_fill_L {k : Nat} {v : Int32} (hk : k ≤ 1000) : ∀ (fu i : Nat) (f : Nat → Int32), i ≤ k → k - i < fu → ∃ (y : Int32) (f' : Nat → Int32), fXA_fill_L5 k v (nI k) fu (nI i) f = some (y, f') ∧ ∀ j, f' j = if i ≤ j ∧ j < k then v else f j := by
  intro fu
  induction fu with
  | zero => intro i f h1 h2; exact absurd h2 (by omega)
  | succ fu ih =>
    intro i f h1 h2
    rw [fXA_fill_L5_s]
    by_cases e : i = k
    · subst e
      refine ⟨nI i, f, ?_, fun j => ?_⟩
      · rw [if_pos (nI_le (Nat.le_refl _) (by omega))]
      · rw [if_neg (by omega)]
    · rw [if_neg (nI_ge (by omega) (by omega)), st_k (by omega) (by omega), sb]
      obtain ⟨y, f', s1, s2⟩ := ih (i + 1) (upd f i v) (by omega) (by omega)
      refine ⟨y, f', by rw [nI_1]; exact s1, fun j => ?_⟩
      rw [s2 j]
      by_cases e1 : j = i
      · subst e1
        rw [if_neg (by omega), upd_s, if_pos (by omega)]
      · rw [upd_n e1]
        by_cases e2 : i + 1 ≤ j ∧ j < k
        · rw [if_pos e2, if_pos (by omega)]
        · rw [if_neg e2, if_neg (by omega)]
theorem x_fill {k : Nat} {v : Int32} {f : Nat → Int32} (hk : k ≤ 1000) : ∃ f', fXA_fill k f v = some f' ∧ ∀ j, f' j = if j < k then v else f j := by
  unfold fXA_fill
  obtain ⟨y, f', s1, s2⟩ := x_fill_L (v := v) hk FU 0 f (by omega) (by unfold FU; omega)
  refine ⟨f', ?_, fun j => ?_⟩
  · rw [nI_def, n0, s1, sb]
  · rw [s2 j]
    by_cases e : j < k
    · rw [if_pos e, if_pos (by omega)]
    · rw [if_neg e, if_neg (by omega)]
/-- Arrays.fill of a stretch -/
theorem x_fill4_L {k b : Nat} {v : Int32} (hk : k ≤ 1000) (hb : b ≤ k) : ∀ (fu i : Nat) (f : Nat → Int32), i ≤ b → b - i < fu → ∃ (y : Int32) (f' : Nat → Int32), fXB_fill_L10 k (nI b) v fu (nI i) f = some (y, f') ∧ ∀ j, f' j = if i ≤ j ∧ j < b then v else f j := by
  intro fu
  induction fu with
  | zero => intro i f h1 h2; exact absurd h2 (by omega)
  | succ fu ih =>
    intro i f h1 h2
    rw [fXB_fill_L10_s]
    by_cases e : i = b
    · subst e
      refine ⟨nI i, f, ?_, fun j => ?_⟩
      · rw [if_pos (nI_le (Nat.le_refl _) (by omega))]
      · rw [if_neg (by omega)]
    · rw [if_neg (nI_ge (by omega) (by omega)), st_k (by omega) (by omega), sb]
      obtain ⟨y, f', s1, s2⟩ := ih (i + 1) (upd f i v) (by omega) (by omega)
      refine ⟨y, f', by rw [nI_1]; exact s1, fun j => ?_⟩
      rw [s2 j]
      by_cases e1 : j = i
      · subst e1
        rw [if_neg (by omega), upd_s, if_pos (by omega)]
      · rw [upd_n e1]
        by_cases e2 : i + 1 ≤ j ∧ j < b
        · rw [if_pos e2, if_pos (by omega)]
        · rw [if_neg e2, if_neg (by omega)]
theorem x_fill4 {k a b : Nat} {v : Int32} {f : Nat → Int32} (hk : k ≤ 1000) (hb : b ≤ k) (ha : a ≤ b) : ∃ f', fXB_fill k f (nI a) (nI b) v = some f' ∧ ∀ j, f' j = if a ≤ j ∧ j < b then v else f j := by
  unfold fXB_fill fXA_rangeCheck
  obtain ⟨y, f', s1, s2⟩ := x_fill4_L (v := v) hk hb FU a f ha (by unfold FU; omega)
  refine ⟨f', ?_, s2⟩
  rw [nI_def, if_pos (nI_le ha (by omega)), if_pos (nI_pos' (by omega)), if_pos (nI_le hb (by omega)), sb, s1, sb]
/-! what is alive -/
def rootsZ (rt : Nat → Nat) (Z : Nat → Prop) : Prop := ∀ q, q < 8 → ¬ rt q = 1000 → Z (rt q)
def closedZ (n : Nat) (S : Nat → Nat) (Kd g : Nat → Nat → Nat) (Z : Nat → Prop) : Prop := ∀ i, i < n → Z i → ∀ k, k < S i → Kd i k = 1 → ¬ g i k = 1000 → Z (g i k)
/-- L is what is alive: it has the roots' objects, what they strongly reach, and nothing else -/
def Alv (n : Nat) (S : Nat → Nat) (Kd g : Nat → Nat → Nat) (rt : Nat → Nat) (L : Nat → Prop) : Prop := rootsZ rt L ∧ closedZ n S Kd g L ∧ ∀ Z, rootsZ rt Z → closedZ n S Kd g Z → ∀ i, L i → Z i
section FA
variable {n : Nat} {S : Nat → Nat} {Kd g : Nat → Nat → Nat} {nu : Nat → Nat → Int32} {se : Nat → Int32} {rt : Nat → Nat} {w r st : Nat → Int32} {tp cn : Int32}
theorem CX.at (h : CX n S Kd g nu se rt w r st tp cn) {i : Nat} (hi : i < n) : pf S i + 2 + S i ≤ 256 := by
  have h1 := pf_lt S hi
  have h2 := h.2.2.1
  omega
theorem CX.lt (h : CX n S Kd g nu se rt w r st tp cn) : ∀ i, i < n → pf S i < 256 := fun i hi => by have := h.at hi; omega
theorem x_reachFrom (h : CX n S Kd g nu se rt w r st tp cn) {i : Nat} (hi : i < n) {ρ : Nat → Nat} {m : Nat} {rc na : Nat → Int32} {rh : Int32} (hM : MK n (pf S) ρ m rc na rh) :
    ∃ (ρ' : Nat → Nat) (m' : Nat) (rc' na' : Nat → Int32) (rh' : Int32), fX0_reachFrom w rc na rh (nI (pf S i)) = some (rc', na', rh') ∧ MK n (pf S) ρ' m' rc' na' rh' ∧ Ext ρ m ρ' m' (fun y => ∃ k, k < S i ∧ Kd i k = 1 ∧ y = g i k ∧ ¬ y = 1000) ∧ (∀ k, k < S i → Kd i k = 1 → ¬ g i k = 1000 → ∃ j, j < m' ∧ ρ' j = g i k) := by
  have h1 := h.1
  have hS := h.2.1 i hi
  have hh := (h.2.2.2.2.2.2.2.1 i hi).1
  have hk := h.2.2.2.2.2.2.2.2.1 i hi
  have ha := h.at hi
  obtain ⟨y, ρ', m', rc', na', rh', s1, s2, s3, s4⟩ := x_reachFrom_L h1 h.lt (fun a b => pf_inj S) hh hS ha (fun k q => ⟨(hk k q).1, (hk k q).2.2⟩) FU 0 ρ m rc na rh (by omega) (by unfold FU; omega) hM
  refine ⟨ρ', m', rc', na', rh', ?_, s2, s3, fun k q1 q2 q3 => s4 k (by omega) q1 q2 q3⟩
  unfold fX0_reachFrom
  rw [x_fieldCount (by omega) hh hS, sb, n0, s1, sb]
theorem x_findAlive_1 (h : CX n S Kd g nu se rt w r st tp cn) : ∀ (fu q : Nat) (ρ : Nat → Nat) (m : Nat) (rc na : Nat → Int32) (rh : Int32), q ≤ 8 → 8 - q < fu → MK n (pf S) ρ m rc na rh →
    ∃ (y : Int32) (ρ' : Nat → Nat) (m' : Nat) (rc' na' : Nat → Int32) (rh' : Int32), fX0_findAlive_L15 r fu (nI q) rc na rh = some (y, rc', na', rh') ∧ MK n (pf S) ρ' m' rc' na' rh' ∧ Ext ρ m ρ' m' (fun y => ∃ q, q < 8 ∧ y = rt q ∧ ¬ y = 1000) ∧ (∀ q', q ≤ q' → q' < 8 → ¬ rt q' = 1000 → ∃ j, j < m' ∧ ρ' j = rt q') := by
  intro fu
  induction fu with
  | zero => intro q ρ m rc na rh h1 h2 _; exact absurd h2 (by omega)
  | succ fu ih =>
    intro q ρ m rc na rh h1 h2 hM
    rw [fX0_findAlive_L15_s, n8]
    by_cases e : q = 8
    · subst e
      refine ⟨nI 8, ρ, m, rc, na, rh, ?_, hM, Ext.rf, fun q' q1 q2 => absurd q1 (by omega)⟩
      rw [if_pos (nI_le (Nat.le_refl _) (by omega))]
    · have q8 : q < 8 := by omega
      have z1 : q + 1 ≤ 8 := by omega
      have z2 : 8 - (q + 1) < fu := by omega
      have hq := h.2.2.2.2.2.2.1 q q8
      rw [if_neg (nI_ge (by omega) (by omega)), ld_k (by omega) (by omega), sb, hq.2]
      obtain ⟨ρ1, m1, rc1, na1, rh1, r1, r2, r3, r4⟩ := x_reach h.1 h.lt (fun a b => pf_inj S) hM hq.1
      rw [r1, sb]
      obtain ⟨y, ρ2, m2, rc2, na2, rh2, s1, s2, s3, s4⟩ := ih (q + 1) ρ1 m1 rc1 na1 rh1 z1 z2 r2
      refine ⟨y, ρ2, m2, rc2, na2, rh2, ?_, s2, Ext.tr (r3.wk (fun y hy => ⟨q, q8, hy.1, by rw [hy.1]; exact hy.2⟩)) s3, fun q' q1 q2 q3 => ?_⟩
      · rw [nI_1]; exact s1
      · by_cases e' : q' = q
        · subst e'; exact s3.mem (r4 q3)
        · exact s4 q' (by omega) q2 q3
theorem x_findAlive_2 (h : CX n S Kd g nu se rt w r st tp cn) : ∀ (fu i : Nat) (ρ : Nat → Nat) (m : Nat) (rc na : Nat → Int32) (rh : Int32), i ≤ m → n - i < fu → MK n (pf S) ρ m rc na rh → (∀ j, j < i → ∀ k, k < S (ρ j) → Kd (ρ j) k = 1 → ¬ g (ρ j) k = 1000 → ∃ j', j' < m ∧ ρ j' = g (ρ j) k) → (∀ Z, rootsZ rt Z → closedZ n S Kd g Z → ∀ j, j < m → Z (ρ j)) →
    ∃ (y : Int32) (ρ' : Nat → Nat) (m' : Nat) (rc' na' : Nat → Int32) (rh' : Int32), fX0_findAlive_L39 w fu (nI i) rc na rh = some (y, rc', na', rh') ∧ MK n (pf S) ρ' m' rc' na' rh' ∧ Ext ρ m ρ' m' (fun _ => True) ∧ (∀ j, j < m' → ∀ k, k < S (ρ' j) → Kd (ρ' j) k = 1 → ¬ g (ρ' j) k = 1000 → ∃ j', j' < m' ∧ ρ' j' = g (ρ' j) k) ∧ (∀ Z, rootsZ rt Z → closedZ n S Kd g Z → ∀ j, j < m' → Z (ρ' j)) := by
  intro fu
  induction fu with
  | zero => intro i ρ m rc na rh h1 h2 _; exact absurd h2 (by omega)
  | succ fu ih =>
    intro i ρ m rc na rh h1 h2 hM hcl hmin
    have hmn := hM.le
    have hn := h.1
    rw [fX0_findAlive_L39_s, n128]
    by_cases e : i = m
    · subst e
      refine ⟨nI i, ρ, i, rc, na, rh, ?_, hM, Ext.rf, hcl, hmin⟩
      rw [hM.1, if_pos (nI_le (Nat.le_refl _) (by omega))]
    · obtain ⟨b1, b2⟩ := hM.2.1 i (by omega)
      have hrh := hM.1
      obtain ⟨ρ1, m1, rc1, na1, rh1, r1, r2, r3, r4⟩ := x_reachFrom h b1 hM
      obtain ⟨y, ρ2, m2, rc2, na2, rh2, s1, s2, s3, s4, s5⟩ := ih (i + 1) ρ1 m1 rc1 na1 rh1 (by have := r3.1; omega) (by omega) r2 (fun j hj k k1 k2 k3 => by
        have hjm : j < m := by omega
        rw [r3.2.1 j hjm] at k1 k2 k3 ⊢
        by_cases ej : j = i
        · subst ej; exact r4 k k1 k2 k3
        · exact r3.mem (hcl j (by omega) k k1 k2 k3)) (fun Z z1 z2 j hj => by
        by_cases ej : j < m
        · rw [r3.2.1 j ej]; exact hmin Z z1 z2 j ej
        · obtain ⟨k, k1, k2, k3, k4⟩ := r3.2.2 j (by omega) hj
          rw [k3]
          exact z2 (ρ i) b1 (hmin Z z1 z2 i (by omega)) k k1 k2 (by rw [← k3]; exact k4))
      refine ⟨y, ρ2, m2, rc2, na2, rh2, ?_, s2, Ext.tr (r3.wk (fun _ _ => trivial)) s3, s4, s5⟩
      rw [hrh, if_neg (nI_ge (by omega) (by omega)), if_neg (nI_ge (by omega) (by omega)), ld_k (by omega) (by omega), sb, b2]
      rw [hrh] at r1
      rw [r1, sb, nI_1]; exact s1
theorem x_findAlive (h : CX n S Kd g nu se rt w r st tp cn) (rc na : Nat → Int32) (rh : Int32) :
    ∃ (ρ : Nat → Nat) (m : Nat) (rc' na' : Nat → Int32) (rh' : Int32), fX0_findAlive w r rc na rh = some (rc', na', rh') ∧ MK n (pf S) ρ m rc' na' rh' ∧ Alv n S Kd g rt (fun i => ∃ j, j < m ∧ ρ j = i) := by
  have hn := h.1
  obtain ⟨na1, f1, f2⟩ := x_fill (k := 256) (v := (-1 : Int32)) (f := na) (by omega)
  have hM0 : MK n (pf S) (fun _ => 0) 0 rc na1 (nI 0) := ⟨rfl, fun j hj => absurd hj (by omega), fun i j hi => absurd hi (by omega), fun i hi => Or.inl ⟨by rw [f2, if_pos (h.lt i hi)], fun j hj => absurd hj (by omega)⟩⟩
  obtain ⟨y1, ρ1, m1, rc1, na2, rh1, r1, r2, r3, r4⟩ := x_findAlive_1 h FU 0 _ _ _ _ _ (by omega) (by unfold FU; omega) hM0
  obtain ⟨y2, ρ2, m2, rc2, na3, rh2, s1, s2, s3, s4, s5⟩ := x_findAlive_2 h FU 0 _ _ _ _ _ (by omega) (by unfold FU; omega) r2 (fun j hj => absurd hj (by omega)) (fun Z z1 z2 j hj => by
    obtain ⟨q, q1, q2, q3⟩ := r3.2.2 j (by omega) hj
    rw [q2]; exact z1 q q1 (by rw [← q2]; exact q3))
  refine ⟨ρ2, m2, rc2, na3, rh2, ?_, s2, fun q q1 q2 => s3.mem (r4 q (by omega) q1 q2), fun i hi hz k k1 k2 k3 => ?_, fun Z z1 z2 i hz => ?_⟩
  · unfold fX0_findAlive
    rw [n0]
    simp only [f1, r1, s1, sb]
  · obtain ⟨j, j1, j2⟩ := hz
    subst j2
    exact s4 j j1 k k1 k2 k3
  · obtain ⟨j, j1, j2⟩ := hz
    rw [← j2]; exact s5 Z z1 z2 j j1
end FA
