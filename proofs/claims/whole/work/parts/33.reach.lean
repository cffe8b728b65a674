/-! what is alive: the class's search -/
theorem pigeon : ∀ (n m : Nat) (f : Nat → Nat), (∀ j, j < m → f j < n) → (∀ i j, i < m → j < m → f i = f j → i = j) → m ≤ n := by
  intro n
  induction n with
  | zero =>
    intro m f h _
    cases m with
    | zero => omega
    | succ m => exact absurd (h 0 (by omega)) (by omega)
  | succ n ih =>
    intro m f h hi
    cases m with
    | zero => omega
    | succ m =>
      by_cases hx : ∃ j0, j0 < m + 1 ∧ f j0 = n
      · obtain ⟨j0, hj0, e0⟩ := hx
        have key := ih m (fun j => if j = j0 then f m else f j) (fun j hj => by
          by_cases e : j = j0
          · have h1 := h m (by omega)
            have h2 : ¬ f m = n := fun e1 => by have := hi m j0 (by omega) hj0 (e1.trans e0.symm); omega
            simp only [if_pos e]
            omega
          · have h1 := h j (by omega)
            have h2 : ¬ f j = n := fun e1 => e (hi j j0 (by omega) hj0 (e1.trans e0.symm))
            simp only [if_neg e]
            omega) (fun i j hi1 hj1 e => by
          by_cases ei : i = j0
          · by_cases ej : j = j0
            · omega
            · simp only [if_pos ei, if_neg ej] at e
              have := hi m j (by omega) (by omega) e
              omega
          · by_cases ej : j = j0
            · simp only [if_neg ei, if_pos ej] at e
              have := hi i m (by omega) (by omega) e
              omega
            · simp only [if_neg ei, if_neg ej] at e
              exact hi i j (by omega) (by omega) e)
        omega
      · have := ih (m + 1) f (fun j hj => by
          have h1 := h j hj
          have h2 : ¬ f j = n := fun e => hx ⟨j, hj, e⟩
          omega) hi
        omega
/-- the class's row of what it reached: its first m places are the objects ρ, each once; newAddress marks just those -/
def MK (n : Nat) (P : Nat → Nat) (ρ : Nat → Nat) (m : Nat) (rc na : Nat → Int32) (rh : Int32) : Prop :=
  rh = nI m ∧ (∀ j, j < m → ρ j < n ∧ rc j = nI (P (ρ j))) ∧ (∀ i j, i < m → j < m → ρ i = ρ j → i = j) ∧
  ∀ i, i < n → (na (P i) = (-1 : Int32) ∧ ∀ j, j < m → ¬ ρ j = i) ∨ (na (P i) = nI (P i) ∧ ∃ j, j < m ∧ ρ j = i)
theorem MK.le {n : Nat} {P ρ : Nat → Nat} {m : Nat} {rc na : Nat → Int32} {rh : Int32} (h : MK n P ρ m rc na rh) : m ≤ n := pigeon n m ρ (fun j hj => (h.2.1 j hj).1) h.2.2.1
def Ext (ρ : Nat → Nat) (m : Nat) (ρ' : Nat → Nat) (m' : Nat) (X : Nat → Prop) : Prop := m ≤ m' ∧ (∀ j, j < m → ρ' j = ρ j) ∧ ∀ j, m ≤ j → j < m' → X (ρ' j)
theorem Ext.rf {ρ : Nat → Nat} {m : Nat} {X : Nat → Prop} : Ext ρ m ρ m X := ⟨by omega, fun _ _ => rfl, fun j h1 h2 => absurd h1 (by omega)⟩
theorem Ext.tr {a b c : Nat → Nat} {m k p : Nat} {X : Nat → Prop} (h1 : Ext a m b k X) (h2 : Ext b k c p X) : Ext a m c p X := by
  refine ⟨Nat.le_trans h1.1 h2.1, fun j hj => (h2.2.1 j (Nat.lt_of_lt_of_le hj h1.1)).trans (h1.2.1 j hj), fun j hj hp => ?_⟩
  by_cases e : j < k
  · rw [h2.2.1 j e]; exact h1.2.2 j hj e
  · exact h2.2.2 j (by omega) hp
theorem Ext.wk {a b : Nat → Nat} {m k : Nat} {X Y : Nat → Prop} (h : Ext a m b k X) (hXY : ∀ y, X y → Y y) : Ext a m b k Y := ⟨h.1, h.2.1, fun j h1 h2 => hXY _ (h.2.2 j h1 h2)⟩
theorem Ext.mem {a b : Nat → Nat} {m k : Nat} {X : Nat → Prop} (h : Ext a m b k X) {y : Nat} (hy : ∃ j, j < m ∧ a j = y) : ∃ j, j < k ∧ b j = y := by
  obtain ⟨j, hj, e⟩ := hy
  exact ⟨j, Nat.lt_of_lt_of_le hj h.1, (h.2.1 j hj).trans e⟩
theorem x_reach {n : Nat} {P ρ : Nat → Nat} {m x : Nat} {rc na : Nat → Int32} {rh : Int32} (hn : n ≤ 128) (hP : ∀ i, i < n → P i < 256) (hI : ∀ i j, P i = P j → i = j) (h : MK n P ρ m rc na rh) (hx : okj n x) :
    ∃ (ρ' : Nat → Nat) (m' : Nat) (rc' na' : Nat → Int32) (rh' : Int32), fX0_reach rc na rh (adr P x) = some (rc', na', rh') ∧ MK n P ρ' m' rc' na' rh' ∧ Ext ρ m ρ' m' (fun y => y = x ∧ ¬ x = 1000) ∧ (¬ x = 1000 → ∃ j, j < m' ∧ ρ' j = x) := by
  unfold fX0_reach
  by_cases h0 : x = 1000
  · subst h0
    refine ⟨ρ, m, rc, na, rh, ?_, h, Ext.rf, fun e => absurd rfl e⟩
    rw [adr_no, if_pos rfl]
  · have hxn : x < n := hx.resolve_left h0
    have hPx := hP x hxn
    obtain ⟨e1, e2, e3, e4⟩ := id h
    rw [adr_at h0, if_neg (m1_ne (by omega)), ld_k hPx (by omega), sb]
    rcases e4 x hxn with ⟨c1, c2⟩ | ⟨c1, c2⟩
    · have hm : m < n := by
        have hle := pigeon n (m + 1) (fun j => if j = m then x else ρ j) (fun j hj => by
          by_cases e : j = m
          · simp only [if_pos e]; exact hxn
          · simp only [if_neg e]; exact (e2 j (by omega)).1) (fun i j hi hj e => by
          by_cases ei : i = m
          · by_cases ej : j = m
            · omega
            · simp only [if_pos ei, if_neg ej] at e
              exact absurd e.symm (c2 j (by omega))
          · by_cases ej : j = m
            · simp only [if_neg ei, if_pos ej] at e
              exact absurd e (c2 i (by omega))
            · simp only [if_neg ei, if_neg ej] at e
              exact e3 i j (by omega) (by omega) e)
        omega
      refine ⟨fun j => if j = m then x else ρ j, m + 1, upd rc m (nI (P x)), upd na (P x) (nI (P x)), nI (m + 1), ?_, ⟨rfl, fun j hj => ?_, fun i j hi hj e => ?_, fun i hi => ?_⟩, ⟨by omega, fun j hj => if_neg (by omega), fun j h1 h2 => ?_⟩, fun _ => ⟨m, by omega, if_pos rfl⟩⟩
      · rw [c1, if_pos rfl, st_k hPx (by omega), sb, e1, st_k (by omega) (by omega), sb, nI_1]
      · by_cases e : j = m
        · subst e; rw [upd_s]; simp only [if_true]; exact ⟨hxn, trivial⟩
        · rw [upd_n e]; simp only [if_neg e]; exact e2 j (by omega)
      · by_cases ei : i = m
        · by_cases ej : j = m
          · omega
          · simp only [if_pos ei, if_neg ej] at e
            exact absurd e.symm (c2 j (by omega))
        · by_cases ej : j = m
          · simp only [if_neg ei, if_pos ej] at e
            exact absurd e (c2 i (by omega))
          · simp only [if_neg ei, if_neg ej] at e
            exact e3 i j (by omega) (by omega) e
      · by_cases ei : i = x
        · subst ei
          rw [upd_s]
          exact Or.inr ⟨rfl, m, by omega, if_pos rfl⟩
        · rw [upd_n (fun q => ei (hI _ _ q))]
          rcases e4 i hi with ⟨d1, d2⟩ | ⟨d1, j, d2, d3⟩
          · refine Or.inl ⟨d1, fun j hj => ?_⟩
            by_cases e : j = m
            · simp only [if_pos e]; exact fun q => ei q.symm
            · simp only [if_neg e]; exact d2 j (by omega)
          · refine Or.inr ⟨d1, j, by omega, ?_⟩
            show (if j = m then x else ρ j) = i
            rw [if_neg (by omega)]; exact d3
      · have : j = m := by omega
        show (if j = m then x else ρ j) = x ∧ _
        rw [if_pos this]
        exact ⟨rfl, h0⟩
    · refine ⟨ρ, m, rc, na, rh, ?_, h, Ext.rf, fun _ => c2⟩
      rw [c1, if_neg (m1_ne (by omega))]
theorem x_reachFrom_L {n : Nat} {P : Nat → Nat} {w : Nat → Int32} {a F : Nat} {K g : Nat → Nat} (hn : n ≤ 128) (hP : ∀ i, i < n → P i < 256) (hI : ∀ i j, P i = P j → i = j) (hh : HD (w a) F K) (hF : F ≤ 6) (ha : a + 2 + F ≤ 256)
    (hK : ∀ k, k < F → K k ≤ 2 ∧ (¬ K k = 0 → okj n (g k) ∧ w (a + 2 + k) = adr P (g k))) :
    ∀ (fu k : Nat) (ρ : Nat → Nat) (m : Nat) (rc na : Nat → Int32) (rh : Int32), k ≤ F → F - k < fu → MK n P ρ m rc na rh →
    ∃ (y : Int32) (ρ' : Nat → Nat) (m' : Nat) (rc' na' : Nat → Int32) (rh' : Int32), fX0_reachFrom_L8 (nI a) (nI F) w fu (nI k) rc na rh = some (y, rc', na', rh') ∧ MK n P ρ' m' rc' na' rh' ∧ Ext ρ m ρ' m' (fun y => ∃ k, k < F ∧ K k = 1 ∧ y = g k ∧ ¬ y = 1000) ∧ (∀ k', k ≤ k' → k' < F → K k' = 1 → ¬ g k' = 1000 → ∃ j, j < m' ∧ ρ' j = g k') := by
  intro fu
  induction fu with
  | zero => intro k ρ m rc na rh h1 h2 _; exact absurd h2 (by omega)
  | succ fu ih =>
    intro k ρ m rc na rh h1 h2 hM
    rw [fX0_reachFrom_L8_s]
    by_cases e : k = F
    · subst e
      refine ⟨nI k, ρ, m, rc, na, rh, ?_, hM, Ext.rf, fun k' q1 q2 => absurd q1 (by omega)⟩
      rw [if_pos (nI_le (Nat.le_refl _) (by omega))]
    · have hk : k < F := by omega
      rw [if_neg (nI_ge hk (by omega)), x_fieldKind (by omega) hh hF hk (hK k hk).1, sb]
      by_cases k1 : K k = 1
      · obtain ⟨g1, g2⟩ := (hK k hk).2 (by omega)
        rw [k1, if_pos (show nI 1 = 1 from rfl), x_fieldAddress, sb, ld_k (by omega) (by omega), sb, g2]
        obtain ⟨ρ1, m1, rc1, na1, rh1, r1, r2, r3, r4⟩ := x_reach hn hP hI hM g1
        rw [r1, sb]
        obtain ⟨y, ρ2, m2, rc2, na2, rh2, s1, s2, s3, s4⟩ := ih (k + 1) ρ1 m1 rc1 na1 rh1 (by omega) (by omega) r2
        refine ⟨y, ρ2, m2, rc2, na2, rh2, ?_, s2, Ext.tr (r3.wk (fun y hy => ⟨k, hk, k1, hy.1, by rw [hy.1]; exact hy.2⟩)) s3, fun k' q1 q2 q3 q4 => ?_⟩
        · rw [nI_1]; exact s1
        · by_cases e' : k' = k
          · subst e'; exact s3.mem (r4 q4)
          · exact s4 k' (by omega) q2 q3 q4
      · rw [if_neg (fun q => k1 (by rw [n1, nI_eq (by have := (hK k hk).1; omega) (by omega)] at q; exact q))]
        obtain ⟨y, ρ2, m2, rc2, na2, rh2, s1, s2, s3, s4⟩ := ih (k + 1) ρ m rc na rh (by omega) (by omega) hM
        refine ⟨y, ρ2, m2, rc2, na2, rh2, ?_, s2, s3, fun k' q1 q2 q3 q4 => ?_⟩
        · rw [nI_1]; exact s1
        · by_cases e' : k' = k
          · subst e'; exact absurd q3 k1
          · exact s4 k' (by omega) q2 q3 q4
