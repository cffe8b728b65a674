/-! counting -/
def ctl (b : Nat → Bool) : Nat → Nat
  | 0 => 0
  | i + 1 => ctl b i + (if b i = true then 1 else 0)
theorem ctl_le (b : Nat → Bool) {i j : Nat} (h : i ≤ j) : ctl b i ≤ ctl b j ∧ ctl b j ≤ ctl b i + (j - i) := by
  induction j with
  | zero => have : i = 0 := by omega
            subst this; exact ⟨Nat.le_refl _, by omega⟩
  | succ j ih =>
    by_cases e : i = j + 1
    · subst e; exact ⟨Nat.le_refl _, by omega⟩
    · have := ih (by omega)
      simp only [ctl]
      split <;> omega
theorem ctl_s {b : Nat → Bool} {i : Nat} (h : b i = true) : ctl b (i + 1) = ctl b i + 1 := by simp only [ctl, h, if_true]
theorem ctl_n {b : Nat → Bool} {i : Nat} (h : ¬ b i = true) : ctl b (i + 1) = ctl b i := by simp only [ctl]; rw [if_neg h]; rfl
theorem ctl_lt {b : Nat → Bool} {i j : Nat} (h : i < j) (hb : b i = true) : ctl b i < ctl b j := by
  have h1 := (ctl_le b (i := i + 1) (j := j) (by omega)).1
  rw [ctl_s hb] at h1
  omega
theorem ctl_inj {b : Nat → Bool} {i j : Nat} (hi : b i = true) (hj : b j = true) (h : ctl b i = ctl b j) : i = j := by
  rcases Nat.lt_trichotomy i j with q | q | q
  · have := ctl_lt q hi; omega
  · exact q
  · have := ctl_lt q hj; omega
theorem ctl_sur (b : Nat → Bool) : ∀ (n p : Nat), p < ctl b n → ∃ i, i < n ∧ b i = true ∧ ctl b i = p := by
  intro n
  induction n with
  | zero => intro p hp; exact absurd hp (by simp [ctl])
  | succ n ih =>
    intro p hp
    by_cases e : p < ctl b n
    · obtain ⟨i, h1, h2, h3⟩ := ih p e
      exact ⟨i, by omega, h2, h3⟩
    · by_cases hb : b n = true
      · rw [ctl_s hb] at hp
        exact ⟨n, by omega, hb, by omega⟩
      · rw [ctl_n hb] at hp
        exact absurd hp e
theorem ctl_congr {a b : Nat → Bool} {n : Nat} (h : ∀ i, i < n → a i = b i) : ∀ i, i ≤ n → ctl a i = ctl b i := by
  intro i
  induction i with
  | zero => intro _; rfl
  | succ i ih => intro hi; simp only [ctl]; rw [ih (by omega), h i (by omega)]
/-- a row that has each of them once is as long as their count -/
theorem ctl_enum {b : Nat → Bool} {n m : Nat} {ρ : Nat → Nat} (h1 : ∀ j, j < m → ρ j < n ∧ b (ρ j) = true) (h2 : ∀ i j, i < m → j < m → ρ i = ρ j → i = j) (h3 : ∀ i, i < n → b i = true → ∃ j, j < m ∧ ρ j = i) : m = ctl b n := by
  have a1 : m ≤ ctl b n := pigeon (ctl b n) m (fun j => ctl b (ρ j)) (fun j hj => ctl_lt (h1 j hj).1 (h1 j hj).2) (fun i j hi hj e => h2 i j hi hj (ctl_inj (h1 i hi).2 (h1 j hj).2 e))
  have ex : ∀ p, ∃ j, p < ctl b n → (j < m ∧ ctl b (ρ j) = p) := fun p => by
    by_cases hp : p < ctl b n
    · obtain ⟨i, q1, q2, q3⟩ := ctl_sur b n p hp
      obtain ⟨j, j1, j2⟩ := h3 i q1 q2
      exact ⟨j, fun _ => ⟨j1, by rw [j2]; exact q3⟩⟩
    · exact ⟨0, fun q => absurd q hp⟩
  have a2 : ctl b n ≤ m := pigeon m (ctl b n) (fun p => Classical.choose (ex p)) (fun p hp => (Classical.choose_spec (ex p) hp).1) (fun p q hp hq e => by
    have e1 := (Classical.choose_spec (ex p) hp).2
    have e2 := (Classical.choose_spec (ex q) hq).2
    have e' : Classical.choose (ex p) = Classical.choose (ex q) := e
    rw [e'] at e1
    exact e1.symm.trans e2)
  omega
section CN
variable {n : Nat} {S : Nat → Nat} {Kd g : Nat → Nat → Nat} {nu : Nat → Nat → Int32} {se : Nat → Int32} {rt o : Nat → Nat} {us fi sE ki va : Nat → Int32} {ct : Int32} {od ro : Nat → Int32}
def lvb (o : Nat → Nat) (li : Nat → Int32) : Nat → Bool := fun i => decide (li (o i) = 1)
theorem lvb_t {o : Nat → Nat} {li : Nat → Int32} {i : Nat} : lvb o li i = true ↔ li (o i) = 1 := by unfold lvb; exact decide_eq_true_iff
theorem li_01 {li : Nat → Int32} (h : LI n o li) (ho : ∀ i, i < n → o i < 128) {i : Nat} (hi : i < n) : (li (o i) = 0 ∧ ¬ lvb o li i = true) ∨ (¬ li (o i) = 0 ∧ lvb o li i = true) := by
  rcases h (o i) (ho i hi) with q | ⟨q, _⟩
  · exact Or.inl ⟨q, fun z => by rw [lvb_t, q] at z; exact one0 z.symm⟩
  · exact Or.inr ⟨by rw [q]; exact one0, lvb_t.mpr q⟩
theorem r_countAlive (h : RX n S Kd g nu se rt o us fi sE ki va ct od ro) {li : Nat → Int32} (hL : LI n o li) : fX1_countAlive li ct od = some (nI (ctl (lvb o li) n)) := by
  have aux : ∀ (fu i : Nat), i ≤ n → n - i < fu → ∃ y, fX1_countAlive_L4 li ct od fu (nI (ctl (lvb o li) i)) (nI i) = some (nI (ctl (lvb o li) n), y) := by
    intro fu
    induction fu with
    | zero => intro i h1 h2; exact absurd h2 (by omega)
    | succ fu ih =>
      intro i h1 h2
      have hn := h.1
      rw [fX1_countAlive_L4_s, h.2.1]
      by_cases e : i = n
      · subst e
        exact ⟨_, by rw [if_pos (nI_le (Nat.le_refl _) (by omega))]⟩
      · obtain ⟨o1, o2⟩ := h.2.2.1 i (by omega)
        obtain ⟨y, hy⟩ := ih (i + 1) (by omega) (by omega)
        refine ⟨y, ?_⟩
        rw [h.2.1] at hy
        rw [if_neg (nI_ge (by omega) (by omega)), ld_k (by omega) (by omega), sb, o2, ld_k o1 (by omega), sb]
        rcases li_01 hL h.o128 (i := i) (by omega) with ⟨q1, q2⟩ | ⟨q1, q2⟩
        · rw [if_pos q1, nI_1, ← ctl_n q2]; exact hy
        · rw [if_neg q1, nI_1, nI_1, ← ctl_s q2]; exact hy
  obtain ⟨y, hy⟩ := aux FU 0 (by omega) (by have := h.1; unfold FU; omega)
  unfold fX1_countAlive
  rw [n0]
  have hy' : fX1_countAlive_L4 li ct od FU (nI 0) (nI 0) = some (nI (ctl (lvb o li) n), y) := hy
  rw [hy', sb]
end CN
