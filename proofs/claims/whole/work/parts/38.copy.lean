theorem cp_k {f : Nat → Int32} {a b l : Nat} (h1 : a + l ≤ 256) (h2 : b + l ≤ 256) : cpI 256 f (nI a) (nI b) (nI l) = some (va_cpy f f a b l) := by
  unfold cpI
  rw [nI_clamp (by omega), nI_clamp (by omega), nI_clamp (by omega), if_neg]
  rintro (q | q | q | q | q)
  · exact nI_pos (by omega) q
  · exact nI_pos (by omega) q
  · exact nI_pos (by omega) q
  · omega
  · omega
section CP
variable {n : Nat} {S : Nat → Nat} {Kd g : Nat → Nat → Nat} {nu : Nat → Nat → Int32} {se : Nat → Int32} {rt : Nat → Nat} {w r st : Nat → Int32} {tp cn : Int32} {lb : Nat → Bool} {c : Nat} {sg tu : Nat → Nat} {na : Nat → Int32}
theorem x_moveObjects (h : CX n S Kd g nu se rt w r st tp cn) (hp : Plan n S lb c sg tu) (hN : NA n S lb sg tu na) {D : Nat → Prop} {w1 : Nat → Int32} (hD : RD n S Kd g lb sg tu w D w1) :
    ∃ w2, fX0_moveObjects w1 st na cn = some w2 ∧ (∀ i, i < n → lb i = true → ∀ d, d < S i + 2 → w2 (pf (fun p => S (tu p)) (sg i) + d) = w1 (pf S i + d)) ∧ ∀ x, pf S n ≤ x → w2 x = w1 x := by
  have hn := h.1
  have aux : ∀ (fu i : Nat) (w2 : Nat → Int32), i ≤ n → n - i < fu → (∀ x, pf S i ≤ x → w2 x = w1 x) → (∀ i', i' < i → lb i' = true → ∀ d, d < S i' + 2 → w2 (pf (fun p => S (tu p)) (sg i') + d) = w1 (pf S i' + d)) →
      ∃ (y : Int32) (w3 : Nat → Int32), fX0_moveObjects_L2 st na (nI n) fu (nI i) w2 = some (y, w3) ∧ (∀ i, i < n → lb i = true → ∀ d, d < S i + 2 → w3 (pf (fun p => S (tu p)) (sg i) + d) = w1 (pf S i + d)) ∧ ∀ x, pf S n ≤ x → w3 x = w1 x := by
    intro fu
    induction fu with
    | zero => intro i w2 q1 q2; exact absurd q2 (by omega)
    | succ fu ih =>
      intro i w2 q1 q2 a1 a2
      rw [fX0_moveObjects_L2_s]
      by_cases e : i = n
      · subst e
        exact ⟨_, w2, by rw [if_pos (nI_le (Nat.le_refl _) (by omega))], fun i' hi' => a2 i' hi', a1⟩
      · have hi : i < n := by omega
        have hat := h.at hi
        have hst := h.2.2.2.2.2.1 i hi
        have hS := h.2.1 i hi
        have hpf : pf S (i + 1) = pf S i + S i + 2 := rfl
        rw [if_neg (nI_ge (by omega) (by omega)), ld_k (by omega) (by omega), sb, hst, ld_k (by omega) (by omega), sb]
        by_cases hl : lb i = true
        · obtain ⟨c1, c2⟩ := hp.2.1 i hi hl
          have hle := hp.2.2.2 i hi hl
          have hh : HD (w2 (pf S i)) (S i) (Kd i) := by rw [a1 _ (Nat.le_refl _), (hD.1 i hi).1]; exact (h.2.2.2.2.2.2.2.1 i hi).1
          rw [(hN i hi).1 hl, if_neg (m1_ne (by omega)), sb, x_sizeOf (by omega) hh hS, sb, cp_k (by omega) (by omega), sb, nI_1]
          refine ih (i + 1) _ (by omega) (by omega) (fun x hx => ?_) (fun i' hi' hl' d hd => ?_)
          · rw [pk_cpy_out (by omega)]; exact a1 x (by omega)
          · by_cases ei : i' = i
            · subst ei
              rw [pk_cpy_in (by omega) (by omega)]
              rw [show pf S i' + (pf (fun p => S (tu p)) (sg i') + d - pf (fun p => S (tu p)) (sg i')) = pf S i' + d by omega]
              exact a1 _ (by omega)
            · obtain ⟨c3, c4⟩ := hp.2.1 i' (by omega) hl'
              have ne : ¬ sg i' = sg i := fun z => ei (by rw [← c4, z, c2])
              have e1 : (fun p => S (tu p)) (sg i') = S i' := by show S (tu (sg i')) = _; rw [c4]
              have e2 : (fun p => S (tu p)) (sg i) = S i := by show S (tu (sg i)) = _; rw [c2]
              rw [pk_cpy_out ?_]
              · exact a2 i' (by omega) hl' d hd
              · rcases Nat.lt_or_gt_of_ne ne with q | q
                · have := pf_lt (fun p => S (tu p)) q
                  rw [c4] at this
                  omega
                · have := pf_lt (fun p => S (tu p)) q
                  rw [c2] at this
                  omega
        · rw [(hN i hi).2 hl, if_pos rfl, nI_1]
          refine ih (i + 1) _ (by omega) (by omega) (fun x hx => a1 x (by omega)) (fun i' hi' hl' => ?_)
          by_cases ei : i' = i
          · subst ei; exact absurd hl' hl
          · exact a2 i' (by omega) hl'
  obtain ⟨y, w3, s1, s2, s3⟩ := aux FU 0 w1 (by omega) (by unfold FU; omega) (fun _ _ => rfl) (fun i' q => absurd q (by omega))
  refine ⟨w3, ?_, s2, s3⟩
  unfold fX0_moveObjects
  rw [h.2.2.2.2.1, n0, s1, sb]
theorem Plan.top (hp : Plan n S lb c sg tu) : pf (fun p => S (tu p)) c ≤ pf S n := by
  cases c with
  | zero => exact Nat.zero_le _
  | succ k =>
    obtain ⟨a1, a2, a3⟩ := hp.2.2.1 k (by omega)
    have h1 := hp.2.2.2 (tu k) a1 a2
    rw [a3] at h1
    have h2 := pf_lt S a1
    show pf (fun p => S (tu p)) k + S (tu k) + 2 ≤ pf S n
    omega
theorem x_listObjects (h : CX n S Kd g nu se rt w r st tp cn) (hp : Plan n S lb c sg tu) {w2 : Nat → Int32} (hw : ∀ p, p < c → HD (w2 (pf (fun p => S (tu p)) p)) (S (tu p)) (Kd (tu p))) (cn1 : Int32) :
    ∃ w3 st', fX0_listObjects w2 st tp cn1 (nI c) = some (w3, st', nI (pf (fun p => S (tu p)) c), nI c) ∧ (∀ p, p < c → st' p = nI (pf (fun p => S (tu p)) p)) ∧ ∀ j, w3 j = if pf (fun p => S (tu p)) c ≤ j ∧ j < pf S n then 0 else w2 j := by
  have hn := h.1
  have hc := hp.1
  have htop := hp.top
  have h256 := h.2.2.1
  have aux : ∀ (fu p : Nat) (st1 : Nat → Int32), p ≤ c → c - p < fu → (∀ p', p' < p → st1 p' = nI (pf (fun p => S (tu p)) p')) → ∃ (y : Int32) (st' : Nat → Int32), fX0_listObjects_L4 w2 (nI c) fu (nI (pf (fun p => S (tu p)) p)) (nI p) st1 = some (nI (pf (fun p => S (tu p)) c), y, st') ∧ ∀ p', p' < c → st' p' = nI (pf (fun p => S (tu p)) p') := by
    intro fu
    induction fu with
    | zero => intro p st1 q1 q2; exact absurd q2 (by omega)
    | succ fu ih =>
      intro p st1 q1 q2 a1
      rw [fX0_listObjects_L4_s]
      by_cases e : p = c
      · subst e
        exact ⟨_, st1, by rw [if_pos (nI_le (Nat.le_refl _) (by omega))], a1⟩
      · have hpc : p < c := by omega
        have hlt := pf_lt (fun p => S (tu p)) hpc
        have hS : S (tu p) ≤ 6 := h.2.1 _ (hp.2.2.1 p hpc).1
        rw [if_neg (nI_ge (by omega) (by omega)), st_k (by omega) (by omega), sb, x_sizeOf (by omega) (hw p hpc) hS, sb, nI_add, nI_1]
        refine ih (p + 1) _ (by omega) (by omega) (fun p' hp' => ?_)
        by_cases ep : p' = p
        · subst ep; rw [upd_s]
        · rw [upd_n ep]; exact a1 p' (by omega)
  obtain ⟨y, st', s1, s2⟩ := aux FU 0 st (by omega) (by unfold FU; omega) (fun p' q => absurd q (by omega))
  obtain ⟨w3, t1, t2⟩ := x_fill4 (k := 256) (a := pf (fun p => S (tu p)) c) (b := pf S n) (v := 0) (f := w2) (by omega) h256 htop
  refine ⟨w3, st', ?_, s2, t2⟩
  unfold fX0_listObjects
  rw [n0]
  have s1' : fX0_listObjects_L4 w2 (nI c) FU (nI 0) (nI 0) st = some (nI (pf (fun p => S (tu p)) c), y, st') := s1
  rw [s1', sb, h.2.2.2.1]
  dsimp only
  rw [show fXB_fill 256 w2 (nI (pf (fun p => S (tu p)) c)) (nI (pf S n)) (nI 0) = some w3 from t1, sb]
/-- the new picture, of the class -/
theorem x_pressed (h : CX n S Kd g nu se rt w r st tp cn) (hp : Plan n S lb c sg tu) {D : Nat → Prop} {w1 w2 w3 r' st' : Nat → Int32} (hD : RD n S Kd g lb sg tu w D w1) (hDl : ∀ i, i < n → lb i = true → D i)
    (hw : ∀ i, i < n → lb i = true → ∀ d, d < S i + 2 → w2 (pf (fun p => S (tu p)) (sg i) + d) = w1 (pf S i + d)) (hw2 : ∀ x, pf S n ≤ x → w2 x = w1 x) (hw3 : ∀ j, w3 j = if pf (fun p => S (tu p)) c ≤ j ∧ j < pf S n then 0 else w2 j)
    (hr : ∀ q, q < 8 → r' q = adr (pf (fun p => S (tu p))) (mv lb sg (rt q))) (hst : ∀ p, p < c → st' p = nI (pf (fun p => S (tu p)) p)) :
    CX c (fun p => S (tu p)) (fun p => Kd (tu p)) (fun p k => mv lb sg (g (tu p) k)) (fun p => nu (tu p)) (fun p => se (tu p)) (fun q => mv lb sg (rt q)) w3 r' st' (nI (pf (fun p => S (tu p)) c)) (nI c) := by
  obtain ⟨h1, h2, h3, h4, h5, h6, h7, h8, h9, h10⟩ := id h
  have htop := hp.top
  have low : ∀ p, p < c → ∀ d, d < S (tu p) + 2 → w3 (pf (fun p => S (tu p)) p + d) = w1 (pf S (tu p) + d) := fun p hpc d hd => by
    obtain ⟨a1, a2, a3⟩ := hp.2.2.1 p hpc
    have e := hw (tu p) a1 a2 d hd
    rw [a3] at e
    rw [hw3, if_neg, e]
    have := pf_lt (fun p => S (tu p)) hpc
    omega
  refine ⟨by have := hp.1; omega, fun p hpc => h2 _ (hp.2.2.1 p hpc).1, by omega, rfl, rfl, hst, fun q hq => ⟨mv_ok hp (h7 q hq).1, hr q hq⟩, fun p hpc => ?_, fun p hpc k hk => ?_, fun j hj1 hj2 => ?_⟩
  · obtain ⟨a1, a2, a3⟩ := hp.2.2.1 p hpc
    have e0 := low p hpc 0 (by omega)
    have e1 := low p hpc 1 (by omega)
    rw [Nat.add_zero, Nat.add_zero] at e0
    exact ⟨by rw [e0, (hD.1 _ a1).1]; exact (h8 _ a1).1, by rw [e1, (hD.1 _ a1).2.1]; exact (h8 _ a1).2⟩
  · obtain ⟨a1, a2, a3⟩ := hp.2.2.1 p hpc
    have hk : k < S (tu p) := hk
    have e0 := low p hpc (2 + k) (by omega)
    have e1 : w3 (pf (fun p => S (tu p)) p + 2 + k) = w1 (pf S (tu p) + 2 + k) := by rw [Nat.add_assoc, e0, Nat.add_assoc]
    obtain ⟨b1, b2, b3⟩ := h9 (tu p) a1 k hk
    obtain ⟨d1, d2⟩ := (hD.1 (tu p) a1).2.2 k hk
    refine ⟨b1, fun z => ?_, fun z => ⟨mv_ok hp (b3 z).1, ?_⟩⟩
    · rw [e1, d1 z]; exact b2 z
    · rw [e1]; exact (d2 z).1 (hDl _ a1 a2)
  · rw [hw3]
    by_cases e : j < pf S n
    · rw [if_pos ⟨hj1, e⟩]
    · rw [if_neg (by omega), hw2 j (by omega), hD.2 j (by omega)]
      exact h10 j (by omega) hj2
end CP
