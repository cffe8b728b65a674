/-! Int32 by its bits (begun from the kit's laws/BITS.to-paste, first family), then what a head is -/
def bt (x : Int32) (i : Nat) : Bool := x.toBitVec.getLsbD i
theorem b_ext {x y : Int32} (h : ∀ i, i < 32 → bt x i = bt y i) : x = y := Int32.toBitVec_inj.mp (BitVec.eq_of_getLsbD_eq (fun i hi => h i hi))
theorem b_or (x y : Int32) (i : Nat) : bt (x ||| y) i = (bt x i || bt y i) := by unfold bt; rw [Int32.toBitVec_or, BitVec.getLsbD_or]
theorem b_and (x y : Int32) (i : Nat) : bt (x &&& y) i = (bt x i && bt y i) := by unfold bt; rw [Int32.toBitVec_and, BitVec.getLsbD_and]
theorem b_xor (x y : Int32) (i : Nat) : bt (x ^^^ y) i = (bt x i ^^ bt y i) := by unfold bt; rw [Int32.toBitVec_xor, BitVec.getLsbD_xor]
theorem b_m1 : ∀ i, i < 32 → bt (-1) i = true := by decide +kernel
theorem b_0 (i : Nat) : bt 0 i = false := BitVec.getLsbD_zero
theorem b_15 : ∀ i, i < 32 → bt 15 i = decide (i < 4) := by decide +kernel
theorem b_nI {F : Nat} {i : Nat} (hi : i < 32) : bt (nI F) i = F.testBit i := by
  show (BitVec.ofNat 32 F).getLsbD i = _
  rw [BitVec.getLsbD_ofNat]
  simp [hi]
theorem b_s16 : ∀ k, k < 6 → ∀ i, i < 32 → bt ((16 : Int32) <<< (nI k &&& 31)) i = decide (i = 4 + k) := by decide +kernel
theorem b_s1024 : ∀ k, k < 6 → ∀ i, i < 32 → bt ((1024 : Int32) <<< (nI k &&& 31)) i = decide (i = 10 + k) := by decide +kernel
theorem b_one {x m : Int32} {j : Nat} (hj : j < 32) (hm : ∀ i, i < 32 → bt m i = decide (i = j)) : (x &&& m) = 0 ↔ bt x j = false := by
  constructor
  · intro h
    have h1 := congrArg (fun z => bt z j) h
    simp only [b_and, b_0, hm j hj] at h1
    simpa using h1
  · intro h
    apply b_ext
    intro i hi
    rw [b_and, b_0, hm i hi]
    by_cases e : i = j
    · subst e; simp [h]
    · simp [e]
def hbit (F : Nat) (K : Nat → Nat) (i : Nat) : Bool :=
  if i < 4 then F.testBit i else if i < 10 then decide (i - 4 < F ∧ K (i - 4) = 1) else if i < 16 then decide (i - 10 < F ∧ K (i - 10) = 2) else false
/-- a head: the field count in the low four bits, then the strong bits, then the weak ones -/
def HD (x : Int32) (F : Nat) (K : Nat → Nat) : Prop := ∀ i, i < 32 → bt x i = hbit F K i
theorem HD.uniq {x y : Int32} {F : Nat} {K : Nat → Nat} (h1 : HD x F K) (h2 : HD y F K) : x = y := b_ext (fun i hi => (h1 i hi).trans (h2 i hi).symm)
theorem tb_small : ∀ F, F < 16 → ∀ i, i < 32 → 4 ≤ i → F.testBit i = false := by decide +kernel
theorem HD.cnt {x : Int32} {F : Nat} {K : Nat → Nat} (h : HD x F K) (hF : F ≤ 6) : x &&& 15 = nI F := by
  apply b_ext
  intro i hi
  rw [b_and, h i hi, b_15 i hi, b_nI hi]
  unfold hbit
  by_cases e : i < 4
  · simp [e]
  · rw [tb_small F (by omega) i hi (by omega)]
    simp [e]
theorem HD.strong {x : Int32} {F : Nat} {K : Nat → Nat} (h : HD x F K) (hF : F ≤ 6) {k : Nat} (hk : k < F) : (x &&& ((16 : Int32) <<< (nI k &&& 31))) = 0 ↔ ¬ K k = 1 := by
  rw [b_one (j := 4 + k) (by omega) (b_s16 k (by omega)), h (4 + k) (by omega)]
  unfold hbit
  rw [if_neg (by omega), if_pos (by omega), show 4 + k - 4 = k by omega]
  simp [hk]
theorem HD.weak {x : Int32} {F : Nat} {K : Nat → Nat} (h : HD x F K) (hF : F ≤ 6) {k : Nat} (hk : k < F) : (x &&& ((1024 : Int32) <<< (nI k &&& 31))) = 0 ↔ ¬ K k = 2 := by
  rw [b_one (j := 10 + k) (by omega) (b_s1024 k (by omega)), h (10 + k) (by omega)]
  unfold hbit
  rw [if_neg (by omega), if_neg (by omega), if_pos (by omega), show 10 + k - 10 = k by omega]
  simp [hk]
theorem HD.new {F : Nat} (hF : F ≤ 6) : HD (nI F) F (fun _ => 0) := by
  intro i hi
  rw [b_nI hi]
  unfold hbit
  by_cases e : i < 4
  · rw [if_pos e]
  · rw [if_neg e, tb_small F (by omega) i hi (by omega)]
    simp
theorem HD.congr {x : Int32} {F : Nat} {K K' : Nat → Nat} (h : HD x F K) (hK : ∀ k, k < F → K' k = K k) : HD x F K' := by
  intro i hi
  rw [h i hi]
  unfold hbit
  by_cases e : i < 4
  · simp [e]
  · by_cases e2 : i < 10
    · by_cases e3 : i - 4 < F
      · simp [e, e2, hK _ e3]
      · simp [e, e2, e3]
    · by_cases e4 : i < 16
      · by_cases e3 : i - 10 < F
        · simp [e, e2, e4, hK _ e3]
        · simp [e, e2, e4, e3]
      · simp [e, e2, e4]
/-- a field's kind set to a: its two bits cleared, then the one set -/
theorem HD.set {x y : Int32} {F : Nat} {K : Nat → Nat} (h : HD x F K) (hF : F ≤ 6) {k a : Nat} (hk : k < F) (ha : a ≤ 2)
    (hy : y = if a = 1 then (x &&& ((((16 : Int32) <<< (nI k &&& 31)) ||| ((1024 : Int32) <<< (nI k &&& 31))) ^^^ (-1 : Int32))) ||| ((16 : Int32) <<< (nI k &&& 31)) else if a = 2 then (x &&& ((((16 : Int32) <<< (nI k &&& 31)) ||| ((1024 : Int32) <<< (nI k &&& 31))) ^^^ (-1 : Int32))) ||| ((1024 : Int32) <<< (nI k &&& 31)) else (x &&& ((((16 : Int32) <<< (nI k &&& 31)) ||| ((1024 : Int32) <<< (nI k &&& 31))) ^^^ (-1 : Int32)))) :
    HD y F (fun j => if j = k then a else K j) := by
  have hc : ∀ i, i < 32 → bt (x &&& ((((16 : Int32) <<< (nI k &&& 31)) ||| ((1024 : Int32) <<< (nI k &&& 31))) ^^^ (-1 : Int32))) i = (hbit F K i && !(decide (i = 4 + k) || decide (i = 10 + k))) := by
    intro i hi
    rw [b_and, b_xor, b_or, b_m1 i hi, b_s16 k (by omega) i hi, b_s1024 k (by omega) i hi, h i hi]
    simp
  intro i hi
  have hcase : bt y i = ((hbit F K i && !(decide (i = 4 + k) || decide (i = 10 + k))) || (decide (a = 1) && decide (i = 4 + k)) || (decide (a = 2) && decide (i = 10 + k))) := by
    rw [hy]
    by_cases h1 : a = 1
    · rw [if_pos h1, b_or, hc i hi, b_s16 k (by omega) i hi]; simp [h1]
    · rw [if_neg h1]
      by_cases h2 : a = 2
      · rw [if_pos h2, b_or, hc i hi, b_s1024 k (by omega) i hi]; simp [h2]
      · rw [if_neg h2, hc i hi]; simp [h1, h2]
  rw [hcase]
  unfold hbit
  by_cases e : i < 4
  · have n1 : ¬ i = 4 + k := by omega
    have n2 : ¬ i = 10 + k := by omega
    simp [e, n1, n2]
  · by_cases e2 : i < 10
    · have n2 : ¬ i = 10 + k := by omega
      by_cases e3 : i = 4 + k
      · subst e3
        simp [hk, show 4 + k - 4 = k by omega, show (4 + k < 10) by omega, show ¬ (4 + k < 4) by omega, n2]
      · have n3 : ¬ i - 4 = k := by omega
        simp [e, e2, e3, n2, n3]
    · by_cases e4 : i < 16
      · have n1 : ¬ i = 4 + k := by omega
        by_cases e3 : i = 10 + k
        · subst e3
          simp [hk, show 10 + k - 10 = k by omega, show ¬ (10 + k < 10) by omega, show (10 + k < 16) by omega, show ¬ (10 + k < 4) by omega, n1]
        · have n3 : ¬ i - 10 = k := by omega
          simp [e, e2, e4, e3, n1, n3]
      · have n1 : ¬ i = 4 + k := by omega
        have n2 : ¬ i = 10 + k := by omega
        simp [e, e2, e4, n1, n2]
theorem add_or {x m : Int32} (h : x &&& m = 0) : x + m = x ||| m := Int32.toBitVec_inj.1 (by
  rw [Int32.toBitVec_add, Int32.toBitVec_or]
  exact BitVec.add_eq_or_of_and_eq_zero _ _ (by rw [← Int32.toBitVec_and, h]; rfl))
/-- the reference's way: a bit that is not there is added -/
theorem HD.addS {x : Int32} {F : Nat} {K : Nat → Nat} (h : HD x F K) (hF : F ≤ 6) {k : Nat} (hk : k < F) (h0 : K k = 0) : HD (x + ((16 : Int32) <<< (nI k &&& 31))) F (fun j => if j = k then 1 else K j) := by
  rw [add_or ((h.strong hF hk).mpr (by omega))]
  intro i hi
  rw [b_or, h i hi, b_s16 k (by omega) i hi]
  unfold hbit
  by_cases e : i < 4
  · have n1 : ¬ i = 4 + k := by omega
    simp [e, n1]
  · by_cases e2 : i < 10
    · by_cases e3 : i = 4 + k
      · subst e3
        simp [hk, show 4 + k - 4 = k by omega, show (4 + k < 10) by omega, show ¬ (4 + k < 4) by omega]
      · have n3 : ¬ i - 4 = k := by omega
        simp [e, e2, e3, n3]
    · have n1 : ¬ i = 4 + k := by omega
      by_cases e4 : i < 16
      · by_cases e5 : i - 10 = k
        · simp [e, e2, e4, e5, n1, h0]
        · simp [e, e2, e4, e5, n1]
      · simp [e, e2, e4, n1]
theorem HD.addW {x : Int32} {F : Nat} {K : Nat → Nat} (h : HD x F K) (hF : F ≤ 6) {k : Nat} (hk : k < F) (h0 : K k = 0) : HD (x + ((1024 : Int32) <<< (nI k &&& 31))) F (fun j => if j = k then 2 else K j) := by
  rw [add_or ((h.weak hF hk).mpr (by omega))]
  intro i hi
  rw [b_or, h i hi, b_s1024 k (by omega) i hi]
  unfold hbit
  by_cases e : i < 4
  · have n1 : ¬ i = 10 + k := by omega
    simp [e, n1]
  · by_cases e2 : i < 10
    · have n1 : ¬ i = 10 + k := by omega
      by_cases e5 : i - 4 = k
      · simp [e, e2, e5, n1, h0]
      · simp [e, e2, e5, n1]
    · by_cases e4 : i < 16
      · by_cases e3 : i = 10 + k
        · subst e3
          simp [hk, show 10 + k - 10 = k by omega, show (10 + k < 16) by omega, show ¬ (10 + k < 10) by omega, show ¬ (10 + k < 4) by omega]
        · have n3 : ¬ i - 10 = k := by omega
          simp [e, e2, e4, e3, n3]
      · have n1 : ¬ i = 10 + k := by omega
        simp [e, e2, e4, n1]
theorem mul16 : ∀ k, k < 6 → (16 : Int32) * ((1 : Int32) <<< (nI k &&& 31)) = (16 : Int32) <<< (nI k &&& 31) := by decide +kernel
theorem mul1024 : ∀ k, k < 6 → (1024 : Int32) * ((1 : Int32) <<< (nI k &&& 31)) = (1024 : Int32) <<< (nI k &&& 31) := by decide +kernel
