theorem sb {α β : Type} (v : α) (f : α → Option β) : (some v).bind f = f v := rfl
theorem n2 : (2 : Int32) = nI 2 := rfl
theorem n1 : (1 : Int32) = nI 1 := rfl
theorem n0 : (0 : Int32) = nI 0 := rfl
theorem n6 : (6 : Int32) = nI 6 := rfl
theorem n8 : (8 : Int32) = nI 8 := rfl
theorem n128 : (128 : Int32) = nI 128 := rfl
theorem n256 : (256 : Int32) = nI 256 := rfl
/-- the class's cells hold the picture -/
def CX (n : Nat) (S : Nat → Nat) (Kd g : Nat → Nat → Nat) (nu : Nat → Nat → Int32) (se : Nat → Int32) (rt : Nat → Nat) (w r st : Nat → Int32) (tp cn : Int32) : Prop :=
  n ≤ 128 ∧ (∀ i, i < n → S i ≤ 6) ∧ pf S n ≤ 256 ∧ tp = nI (pf S n) ∧ cn = nI n ∧ (∀ i, i < n → st i = nI (pf S i)) ∧ (∀ q, q < 8 → okj n (rt q) ∧ r q = adr (pf S) (rt q)) ∧
  (∀ i, i < n → HD (w (pf S i)) (S i) (Kd i) ∧ w (pf S i + 1) = se i) ∧
  (∀ i, i < n → ∀ k, k < S i → Kd i k ≤ 2 ∧ (Kd i k = 0 → w (pf S i + 2 + k) = nu i k) ∧ (¬ Kd i k = 0 → okj n (g i k) ∧ w (pf S i + 2 + k) = adr (pf S) (g i k))) ∧
  (∀ j, pf S n ≤ j → j < 256 → w j = 0)
/-- the reference's cells hold it: the i-th object is the token o i -/
def RX (n : Nat) (S : Nat → Nat) (Kd g : Nat → Nat → Nat) (nu : Nat → Nat → Int32) (se : Nat → Int32) (rt : Nat → Nat) (o : Nat → Nat) (us fi sE ki va : Nat → Int32) (ct : Int32) (od ro : Nat → Int32) : Prop :=
  n ≤ 128 ∧ ct = nI n ∧ (∀ i, i < n → o i < 128 ∧ od i = nI (o i)) ∧ (∀ i j, i < n → j < n → o i = o j → i = j) ∧
  (∀ t, t < 128 → (us t = 0 ∧ ∀ i, i < n → ¬ o i = t) ∨ (us t = 1 ∧ ∃ i, i < n ∧ o i = t)) ∧
  (∀ t, t < 128 → ∃ F, F ≤ 6 ∧ fi t = nI F) ∧
  (∀ i, i < n → S i ≤ 6 ∧ fi (o i) = nI (S i) ∧ sE (o i) = se i) ∧
  (∀ i, i < n → ∀ k, k < S i → Kd i k ≤ 2 ∧ ki (6 * o i + k) = nI (Kd i k) ∧ (Kd i k = 0 → va (6 * o i + k) = nu i k) ∧ (¬ Kd i k = 0 → okj n (g i k) ∧ va (6 * o i + k) = adr o (g i k))) ∧
  (∀ q, q < 8 → okj n (rt q) ∧ ro q = adr o (rt q))
/-! the class's small methods -/
theorem x_fieldAddress (a k : Nat) : fX0_fieldAddress (nI a) (nI k) = some (nI (a + 2 + k)) := by
  unfold fX0_fieldAddress
  rw [n2, nI_add, nI_add]
theorem x_fieldCount {w : Nat → Int32} {a F : Nat} {K : Nat → Nat} (ha : a < 256) (h : HD (w a) F K) (hF : F ≤ 6) : fX0_fieldCount w (nI a) = some (nI F) := by
  unfold fX0_fieldCount
  rw [ld_k ha (by omega), sb, h.cnt hF]
theorem x_sizeOf {w : Nat → Int32} {a F : Nat} {K : Nat → Nat} (ha : a < 256) (h : HD (w a) F K) (hF : F ≤ 6) : fX0_sizeOf w (nI a) = some (nI (F + 2)) := by
  unfold fX0_sizeOf
  rw [x_fieldCount ha h hF, sb, n2, nI_add, Nat.add_comm]
theorem x_fieldKind {w : Nat → Int32} {a F k : Nat} {K : Nat → Nat} (ha : a < 256) (h : HD (w a) F K) (hF : F ≤ 6) (hk : k < F) (h2 : K k ≤ 2) : fX0_fieldKind w (nI a) (nI k) = some (nI (K k)) := by
  unfold fX0_fieldKind
  rw [ld_k ha (by omega), sb]
  by_cases h1 : K k = 1
  · rw [if_neg (fun e => (h.strong hF hk).mp e h1), h1]; rfl
  · rw [if_pos ((h.strong hF hk).mpr h1)]
    by_cases h3 : K k = 2
    · rw [if_neg (fun e => (h.weak hF hk).mp e h3), h3]; rfl
    · rw [if_pos ((h.weak hF hk).mpr h3), show K k = 0 by omega]; rfl
theorem x_hasRoom {a f : Nat} (ha : a ≤ 256) (hf : f ≤ 6) : fX0_hasRoom (nI a) (nI f) = some (if a + 2 + f ≤ 256 then 1 else 0) := by
  unfold fX0_hasRoom
  rw [n2, nI_add, nI_add, n256]
  by_cases h : a + 2 + f ≤ 256
  · rw [if_neg (by rw [nI_ltI (by omega) (by omega)]; omega), if_pos h]
  · rw [if_pos (by rw [nI_ltI (by omega) (by omega)]; omega), if_neg h]
theorem root_in {q : Nat} (h : q < 8) : fX0_requireRoot (nI q) = some 0 ∧ fX1_isRoot (nI q) = some 1 := by
  unfold fX0_requireRoot fX1_isRoot
  rw [if_neg (nI_pos (by omega)), if_neg (nI_pos (by omega)), n8, if_pos ((nI_ltI (by omega) (by omega)).mpr h), show (7 : Int32) = nI 7 from rfl, if_neg (fun e => by rw [nI_ltI (by omega) (by omega)] at e; omega)]
  exact ⟨rfl, rfl⟩
theorem root_out {x : Int32} (h : x < 0 ∨ nI 8 ≤ x) : fX0_requireRoot x = some 1 ∧ fX1_isRoot x = some 0 := by
  unfold fX0_requireRoot fX1_isRoot
  by_cases h0 : x < 0
  · rw [if_pos h0, if_pos h0]; exact ⟨rfl, rfl⟩
  · have h1 : nI 8 ≤ x := h.resolve_left h0
    have h2 : (nI 8).toInt ≤ x.toInt := Int32.le_iff_toInt_le.mp h1
    rw [nI_toInt (by omega)] at h2
    rw [if_neg h0, if_neg h0, if_neg (fun e => by have := Int32.lt_iff_toInt_lt.mp e; rw [n8, nI_toInt (by omega)] at this; omega),
      if_pos (Int32.lt_iff_toInt_lt.mpr (by rw [show (7 : Int32) = nI 7 from rfl, nI_toInt (by omega)]; omega))]
    exact ⟨rfl, rfl⟩
theorem upd_s {f : Nat → Int32} {k : Nat} {x : Int32} : upd f k x k = x := pk_us
theorem upd_n {f : Nat → Int32} {k j : Nat} {x : Int32} (h : ¬ j = k) : upd f k x j = f j := pk_un h
/-! copy, clear -/
theorem CX.root {n : Nat} {S : Nat → Nat} {Kd g : Nat → Nat → Nat} {nu : Nat → Nat → Int32} {se : Nat → Int32} {rt : Nat → Nat} {w r st : Nat → Int32} {tp cn : Int32} (h : CX n S Kd g nu se rt w r st tp cn) {q : Nat} (hq : q < 8) {j : Nat} (hj : okj n j) :
    CX n S Kd g nu se (fun p => if p = q then j else rt p) w (upd r q (adr (pf S) j)) st tp cn := by
  obtain ⟨h1, h2, h3, h4, h5, h6, h7, h8, h9, h10⟩ := h
  refine ⟨h1, h2, h3, h4, h5, h6, fun p hp => ?_, h8, h9, h10⟩
  by_cases e : p = q
  · subst e
    rw [upd_s]
    simp only [if_true]
    exact ⟨hj, trivial⟩
  · rw [upd_n e]
    simp only [if_neg e]
    exact h7 p hp
theorem RX.root {n : Nat} {S : Nat → Nat} {Kd g : Nat → Nat → Nat} {nu : Nat → Nat → Int32} {se : Nat → Int32} {rt o : Nat → Nat} {us fi sE ki va : Nat → Int32} {ct : Int32} {od ro : Nat → Int32} (h : RX n S Kd g nu se rt o us fi sE ki va ct od ro) {q : Nat} (hq : q < 8) {j : Nat} (hj : okj n j) :
    RX n S Kd g nu se (fun p => if p = q then j else rt p) o us fi sE ki va ct od (upd ro q (adr o j)) := by
  obtain ⟨h1, h2, h3, h4, h5, h6, h7, h8, h9⟩ := h
  refine ⟨h1, h2, h3, h4, h5, h6, h7, h8, fun p hp => ?_⟩
  by_cases e : p = q
  · subst e
    rw [upd_s]
    simp only [if_true]
    exact ⟨hj, trivial⟩
  · rw [upd_n e]
    simp only [if_neg e]
    exact h9 p hp
