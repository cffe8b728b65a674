/-! The mathematics: both heaps tied to one picture in the space of places: n objects; the i-th has S i fields, kinds Kd i k (0 number, 1 strong, 2 weak), target g i k (1000: none), number nu i k, serial se i; root q at rt q (1000: none). -/
theorem m1_ne {k : Nat} (h : k < 2 ^ 31) : ¬ nI k = (-1 : Int32) := fun e => by
  have h1 := nI_toInt h
  rw [e] at h1
  have h2 : ((-1 : Int32)).toInt = -1 := by decide
  omega
theorem ld_k {n k : Nat} {f : Nat → Int32} (h : k < n) (hn : n ≤ 1024) : ldI n f (nI k) = some (f k) := by
  have h1 : k < 2 ^ 31 := by omega
  unfold ldI
  rw [nI_clamp h1, if_neg]
  intro hh
  rcases hh with hh | hh
  · exact nI_pos h1 hh
  · omega
theorem st_k {n k : Nat} {f : Nat → Int32} {x : Int32} (h : k < n) (hn : n ≤ 1024) : stI n f (nI k) x = some (upd f k x) := by
  have h1 : k < 2 ^ 31 := by omega
  unfold stI
  rw [nI_clamp h1, if_neg]
  intro hh
  rcases hh with hh | hh
  · exact nI_pos h1 hh
  · omega
theorem stz_k {n k : Nat} {f : Nat → Int32} {x : Int32} (h : k < n) (hn : n ≤ 1024) : stZ n f (nI k) x = some (upd f k (vp_nar .boolean x)) := by
  have h1 : k < 2 ^ 31 := by omega
  unfold stZ
  rw [nI_clamp h1, if_neg]
  intro hh
  rcases hh with hh | hh
  · exact nI_pos h1 hh
  · omega
theorem nar0 : vp_nar .boolean 0 = 0 := rfl
theorem nar1 : vp_nar .boolean 1 = 1 := rfl
/-- where the objects begin -/
def pf (S : Nat → Nat) : Nat → Nat
  | 0 => 0
  | i + 1 => pf S i + S i + 2
theorem pf_le (S : Nat → Nat) {i j : Nat} (h : i ≤ j) : pf S i + 2 * (j - i) ≤ pf S j := by
  induction j with
  | zero => have : i = 0 := by omega
            subst this; simp [pf]
  | succ j ih =>
    by_cases e : i = j + 1
    · subst e; simp
    · have := ih (by omega)
      simp only [pf]
      omega
theorem pf_lt (S : Nat → Nat) {i j : Nat} (h : i < j) : pf S i + S i + 2 ≤ pf S j := pf_le S (i := i + 1) (j := j) (by omega) |> fun q => by simp only [pf] at q; omega
theorem pf_inj (S : Nat → Nat) {i j : Nat} (h : pf S i = pf S j) : i = j := by
  rcases Nat.lt_trichotomy i j with h1 | h1 | h1
  · have := pf_lt S h1; omega
  · exact h1
  · have := pf_lt S h1; omega
theorem pf_congr {S T : Nat → Nat} {n : Nat} (h : ∀ i, i < n → S i = T i) : ∀ i, i ≤ n → pf S i = pf T i := by
  intro i
  induction i with
  | zero => intro _; rfl
  | succ i ih => intro hi; simp only [pf]; rw [ih (by omega), h i (by omega)]
def okj (n j : Nat) : Prop := j = 1000 ∨ j < n
def adr (P : Nat → Nat) (j : Nat) : Int32 := if j = 1000 then (-1 : Int32) else nI (P j)
theorem adr_no (P : Nat → Nat) : adr P 1000 = (-1 : Int32) := if_pos rfl
theorem adr_at {P : Nat → Nat} {j : Nat} (h : ¬ j = 1000) : adr P j = nI (P j) := if_neg h
