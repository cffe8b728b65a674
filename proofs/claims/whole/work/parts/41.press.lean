/-! the reference's press, and both presses side by side -/
theorem ix6 (t k : Nat) : (6 : Int32) * nI t + nI k = nI (6 * t + k) := by rw [n6, pk_mul, nI_add]
theorem two_ne0 : ¬ (2 : Int32) = 0 := by decide
section PR
variable {n : Nat} {S : Nat → Nat} {Kd g : Nat → Nat → Nat} {nu : Nat → Nat → Int32} {se : Nat → Int32} {rt o : Nat → Nat} {us fi sE ki va : Nat → Int32} {ct : Int32} {od ro li : Nat → Int32}
/-- a value behind the press: a weak reference to what is not alive has gone -/
def wkv (Kd g : Nat → Nat → Nat) (o : Nat → Nat) (va li : Nat → Int32) (i k : Nat) : Int32 := if Kd i k = 2 ∧ ¬ g i k = 1000 ∧ ¬ lvb o li (g i k) = true then (-1 : Int32) else va (6 * o i + k)
theorem r_weak1 (h : RX n S Kd g nu se rt o us fi sE ki va ct od ro) (hL : LI n o li) {t : Nat} (ht : t < 128) (vs : Nat → Int32) (hvs : ∀ x, 6 * t ≤ x → vs x = va x) :
    ∃ (y : Int32) (v2 : Nat → Int32), fX1_press_L21 (nI t) us fi ki li FU (nI 0) vs = some (y, v2) ∧ (∀ x, x < 6 * t → v2 x = vs x) ∧ (∀ x, 6 * t + 6 ≤ x → v2 x = va x) ∧ (∀ i, i < n → o i = t → ∀ k, k < S i → v2 (6 * t + k) = wkv Kd g o va li i k) := by
  obtain ⟨F, f1, f2⟩ := h.2.2.2.2.2.1 t ht
  rcases h.2.2.2.2.1 t ht with ⟨u1, u2⟩ | ⟨u1, i, hi, hoi⟩
  · refine ⟨nI 0, vs, ?_, fun _ _ => rfl, fun x hx => hvs x (by omega), fun i hi hoi => absurd hoi (u2 i hi)⟩
    show fX1_press_L21 (nI t) us fi ki li (1023 + 1) (nI 0) vs = _
    rw [fX1_press_L21_s, ld_k ht (by omega), sb, f2]
    by_cases e : F = 0
    · subst e; rw [if_pos (nI_le (Nat.le_refl _) (by omega))]
    · rw [if_neg (nI_ge (by omega) (by omega)), ld_k ht (by omega), sb, u1, if_pos rfl]
  · have hs := (h.2.2.2.2.2.2.1 i hi).2.1
    rw [hoi, f2, nI_eq (by omega) (by have := (h.2.2.2.2.2.2.1 i hi).1; omega)] at hs
    subst hs
    have inj : ∀ i', i' < n → o i' = t → i' = i := fun i' q1 q2 => h.2.2.2.1 i' i q1 hi (q2.trans hoi.symm)
    have aux : ∀ (fu k : Nat) (v1 : Nat → Int32), k ≤ S i → S i - k < fu → (∀ x, x < 6 * t → v1 x = vs x) → (∀ x, 6 * t + k ≤ x → v1 x = va x) → (∀ k', k' < k → v1 (6 * t + k') = wkv Kd g o va li i k') →
        ∃ (y : Int32) (v2 : Nat → Int32), fX1_press_L21 (nI t) us fi ki li fu (nI k) v1 = some (y, v2) ∧ (∀ x, x < 6 * t → v2 x = vs x) ∧ (∀ x, 6 * t + S i ≤ x → v2 x = va x) ∧ (∀ k', k' < S i → v2 (6 * t + k') = wkv Kd g o va li i k') := by
      intro fu
      induction fu with
      | zero => intro k v1 q1 q2; exact absurd q2 (by omega)
      | succ fu ih =>
        intro k v1 q1 q2 a1 a2 a3
        rw [fX1_press_L21_s, ld_k ht (by omega), sb, f2]
        by_cases e : k = S i
        · rw [e] at a2 a3 ⊢
          exact ⟨_, v1, by rw [if_pos (nI_le (Nat.le_refl _) (by omega))], a1, a2, a3⟩
        · have hk : k < S i := by omega
          obtain ⟨d1, d2, d3, d4⟩ := h.2.2.2.2.2.2.2.1 i hi k hk
          rw [hoi] at d2 d3 d4
          have hv : v1 (6 * t + k) = va (6 * t + k) := a2 _ (by omega)
          rw [if_neg (nI_ge hk (by omega)), ld_k ht (by omega), sb, u1, if_neg one0, ix6, ld_k (by omega) (by omega), sb, d2]
          have stay : wkv Kd g o va li i k = va (6 * t + k) → ∃ (y : Int32) (v2 : Nat → Int32), fX1_press_L21 (nI t) us fi ki li fu (nI k + 1) v1 = some (y, v2) ∧ (∀ x, x < 6 * t → v2 x = vs x) ∧ (∀ x, 6 * t + S i ≤ x → v2 x = va x) ∧ (∀ k', k' < S i → v2 (6 * t + k') = wkv Kd g o va li i k') := fun hw => by
            rw [nI_1]
            refine ih (k + 1) v1 (by omega) (by omega) a1 (fun x hx => a2 x (by omega)) (fun k' q => ?_)
            by_cases ek : k' = k
            · subst ek; rw [hv, hw]
            · exact a3 k' (by omega)
          by_cases k2 : Kd i k = 2
          · obtain ⟨g1, g2⟩ := d4 (by omega)
            rw [k2, if_pos (show nI 2 = 2 from rfl), ld_k (by omega) (by omega), sb, hv, g2]
            by_cases g0 : g i k = 1000
            · rw [g0, adr_no, if_pos m1_lt]
              exact stay (by unfold wkv; rw [if_neg (fun z => z.2.1 g0), hoi])
            · have hg := g1.resolve_left g0
              have hog := h.o128 _ hg
              rw [adr_at g0, if_neg (nI_pos (by omega)), sb, ld_k hog (by omega), sb]
              rcases li_01 hL h.o128 hg with ⟨z1, z2⟩ | ⟨z1, z2⟩
              · rw [if_pos z1, st_k (by omega) (by omega), sb, nI_1]
                refine ih (k + 1) _ (by omega) (by omega) (fun x hx => ?_) (fun x hx => ?_) (fun k' q => ?_)
                · rw [upd_n (by omega)]; exact a1 x hx
                · rw [upd_n (by omega)]; exact a2 x (by omega)
                · by_cases ek : k' = k
                  · subst ek; rw [upd_s]; unfold wkv; rw [if_pos ⟨k2, g0, z2⟩]
                  · rw [upd_n (by omega)]; exact a3 k' (by omega)
              · rw [if_neg z1]
                exact stay (by unfold wkv; rw [if_neg (fun z => z.2.2 z2), hoi])
          · rw [if_neg (fun q => k2 (by rw [n2, nI_eq (by omega) (by omega)] at q; exact q))]
            exact stay (by unfold wkv; rw [if_neg (fun z => k2 z.1), hoi])
    have hS6 := (h.2.2.2.2.2.2.1 i hi).1
    obtain ⟨y, v2, s1, s2, s3, s4⟩ := aux FU 0 vs (by omega) (by unfold FU; omega) (fun _ _ => rfl) (fun x hx => hvs x (by omega)) (fun k' q => absurd q (by omega))
    refine ⟨y, v2, s1, s2, fun x hx => s3 x (by omega), fun i' hi' hoi' k hk => ?_⟩
    have := inj i' hi' hoi'
    subst this
    exact s4 k hk
theorem r_weak (h : RX n S Kd g nu se rt o us fi sE ki va ct od ro) (hL : LI n o li) :
    ∃ (y : Int32) (v2 : Nat → Int32), fX1_press_L11 us fi ki li FU 0 va = some (y, v2) ∧ ∀ i, i < n → ∀ k, k < S i → v2 (6 * o i + k) = wkv Kd g o va li i k := by
  have aux : ∀ (fu t : Nat) (v1 : Nat → Int32), t ≤ 128 → 128 - t < fu → (∀ x, 6 * t ≤ x → v1 x = va x) → (∀ i, i < n → o i < t → ∀ k, k < S i → v1 (6 * o i + k) = wkv Kd g o va li i k) →
      ∃ (y : Int32) (v2 : Nat → Int32), fX1_press_L11 us fi ki li fu (nI t) v1 = some (y, v2) ∧ ∀ i, i < n → ∀ k, k < S i → v2 (6 * o i + k) = wkv Kd g o va li i k := by
    intro fu
    induction fu with
    | zero => intro t v1 q1 q2; exact absurd q2 (by omega)
    | succ fu ih =>
      intro t v1 q1 q2 a1 a2
      rw [fX1_press_L11_s, n128]
      by_cases e : t = 128
      · subst e
        exact ⟨_, v1, by rw [if_pos (nI_le (Nat.le_refl _) (by omega))], fun i hi => a2 i hi (h.o128 i hi)⟩
      · obtain ⟨y, v2, s1, s2, s3, s4⟩ := r_weak1 h hL (t := t) (by omega) v1 a1
        rw [if_neg (nI_ge (by omega) (by omega)), n0, s1, sb, nI_1]
        refine ih (t + 1) v2 (by omega) (by omega) (fun x hx => s3 x (by omega)) (fun i hi hoi k hk => ?_)
        have hS6 := (h.2.2.2.2.2.2.1 i hi).1
        by_cases et : o i = t
        · rw [et]; exact s4 i hi et k hk
        · rw [s2 _ (by omega)]; exact a2 i hi (by omega) k hk
  exact aux FU 0 va (by omega) (by unfold FU; omega) (fun _ _ => rfl) (fun i hi q => absurd q (by omega))
theorem r_used (h : RX n S Kd g nu se rt o us fi sE ki va ct od ro) (hL : LI n o li) : ∃ (y : Int32) (u2 : Nat → Int32), fX1_press_L124 li FU 0 us = some (y, u2) ∧ ∀ t, t < 128 → u2 t = if us t = 1 ∧ li t = 1 then 1 else 0 := by
  have aux : ∀ (fu t : Nat) (u1 : Nat → Int32), t ≤ 128 → 128 - t < fu → (∀ x, t ≤ x → u1 x = us x) → (∀ x, x < t → u1 x = if us x = 1 ∧ li x = 1 then 1 else 0) →
      ∃ (y : Int32) (u2 : Nat → Int32), fX1_press_L124 li fu (nI t) u1 = some (y, u2) ∧ ∀ t, t < 128 → u2 t = if us t = 1 ∧ li t = 1 then 1 else 0 := by
    intro fu
    induction fu with
    | zero => intro t u1 q1 q2; exact absurd q2 (by omega)
    | succ fu ih =>
      intro t u1 q1 q2 a1 a2
      rw [fX1_press_L124_s, n128]
      by_cases e : t = 128
      · subst e
        exact ⟨_, u1, by rw [if_pos (nI_le (Nat.le_refl _) (by omega))], a2⟩
      · have ht : t < 128 := by omega
        have go : ∀ z : Int32, (z = if us t = 1 ∧ li t = 1 then 1 else 0) → ∃ (y : Int32) (u2 : Nat → Int32), fX1_press_L124 li fu (nI t + 1) (upd u1 t z) = some (y, u2) ∧ ∀ t, t < 128 → u2 t = if us t = 1 ∧ li t = 1 then 1 else 0 := fun z hz => by
          rw [nI_1]
          refine ih (t + 1) _ (by omega) (by omega) (fun x hx => ?_) (fun x hx => ?_)
          · rw [upd_n (by omega)]; exact a1 x (by omega)
          · by_cases ex : x = t
            · subst ex; rw [upd_s]; exact hz
            · rw [upd_n ex]; exact a2 x (by omega)
        rw [if_neg (nI_ge (by omega) (by omega)), ld_k ht (by omega), sb, a1 t (by omega)]
        rcases h.2.2.2.2.1 t ht with ⟨u1', _⟩ | ⟨u1', _⟩
        · rw [u1', if_pos rfl, stz_k ht (by omega), sb, nar0]
          exact go 0 (by rw [if_neg (fun z => one0 (by rw [← z.1, u1']))])
        · rw [u1', if_neg one0, ld_k ht (by omega), sb]
          rcases hL t ht with l0 | ⟨l1, _⟩
          · rw [l0, if_pos rfl, stz_k ht (by omega), sb, nar0]
            exact go 0 (by rw [if_neg (fun z => one0 (by rw [← z.2, l0]))])
          · rw [l1, if_neg one0, stz_k ht (by omega), sb, nar1]
            exact go 1 (by rw [if_pos ⟨u1', l1⟩])
  exact aux FU 0 us (by omega) (by unfold FU; omega) (fun _ _ => rfl) (fun x hx => absurd hx (by omega))
theorem r_order {c : Nat} (hc : c ≤ 128) {ne od : Nat → Int32} : ∃ (y : Int32) (d2 : Nat → Int32), fX1_press_L173 (nI c) ne FU 0 od = some (y, d2) ∧ ∀ p, p < c → d2 p = ne p := by
  have aux : ∀ (fu p : Nat) (d1 : Nat → Int32), p ≤ c → c - p < fu → (∀ p', p' < p → d1 p' = ne p') → ∃ (y : Int32) (d2 : Nat → Int32), fX1_press_L173 (nI c) ne fu (nI p) d1 = some (y, d2) ∧ ∀ p, p < c → d2 p = ne p := by
    intro fu
    induction fu with
    | zero => intro p d1 q1 q2; exact absurd q2 (by omega)
    | succ fu ih =>
      intro p d1 q1 q2 a1
      rw [fX1_press_L173_s]
      by_cases e : p = c
      · subst e
        exact ⟨_, d1, by rw [if_pos (nI_le (Nat.le_refl _) (by omega))], a1⟩
      · rw [if_neg (nI_ge (by omega) (by omega)), ld_k (by omega) (by omega), sb, st_k (by omega) (by omega), sb, nI_1]
        refine ih (p + 1) _ (by omega) (by omega) (fun p' hp' => ?_)
        by_cases ep : p' = p
        · subst ep; rw [upd_s]
        · rw [upd_n ep]; exact a1 p' (by omega)
  exact aux FU 0 od (by omega) (by unfold FU; omega) (fun p' q => absurd q (by omega))
/-- the new picture, of the reference -/
theorem r_pressed (h : RX n S Kd g nu se rt o us fi sE ki va ct od ro) (hL : LI n o li) (hA : Alv n S Kd g rt (fun i => i < n ∧ li (o i) = 1)) {c : Nat} {sg tu : Nat → Nat} (hp : Plan n S (lvb o li) c sg tu) {v2 u2 d2 : Nat → Int32}
    (hv : ∀ i, i < n → ∀ k, k < S i → v2 (6 * o i + k) = wkv Kd g o va li i k) (hu : ∀ t, t < 128 → u2 t = if us t = 1 ∧ li t = 1 then 1 else 0) (hd : ∀ p, p < c → d2 p = nI (o (tu p))) :
    RX c (fun p => S (tu p)) (fun p => Kd (tu p)) (fun p k => mv (lvb o li) sg (g (tu p) k)) (fun p => nu (tu p)) (fun p => se (tu p)) (fun q => mv (lvb o li) sg (rt q)) (fun p => o (tu p)) u2 fi sE ki v2 (nI c) d2 ro := by
  obtain ⟨h1, h2, h3, h4, h5, h6, h7, h8, h9⟩ := id h
  have hcn := hp.1
  have mvl : ∀ j, j < n → lvb o li j = true → mv (lvb o li) sg j = sg j ∧ adr (fun p => o (tu p)) (sg j) = nI (o j) := fun j hj hl => by
    obtain ⟨a1, a2⟩ := hp.2.1 j hj hl
    refine ⟨?_, ?_⟩
    · unfold mv; rw [if_neg (by omega), if_pos hl]
    · rw [adr_at (by omega)]; show nI (o (tu (sg j))) = _; rw [a2]
  refine ⟨by omega, rfl, fun p hpc => ⟨(h3 _ (hp.2.2.1 p hpc).1).1, hd p hpc⟩, fun p q hpc hqc e => ?_, fun t ht => ?_, h6, fun p hpc => h7 _ (hp.2.2.1 p hpc).1, fun p hpc k hk => ?_, fun q hq => ?_⟩
  · obtain ⟨a1, a2, a3⟩ := hp.2.2.1 p hpc
    obtain ⟨b1, b2, b3⟩ := hp.2.2.1 q hqc
    have := h4 _ _ a1 b1 e
    rw [← a3, this, b3]
  · rw [hu t ht]
    by_cases e : us t = 1 ∧ li t = 1
    · rw [if_pos e]
      rcases h5 t ht with ⟨z, _⟩ | ⟨_, i, hi, hoi⟩
      · rw [e.1] at z; exact absurd z one0
      · refine Or.inr ⟨rfl, sg i, ?_, ?_⟩
        · exact (hp.2.1 i hi (lvb_t.mpr (by rw [hoi]; exact e.2))).1
        · show o (tu (sg i)) = t
          rw [(hp.2.1 i hi (lvb_t.mpr (by rw [hoi]; exact e.2))).2]; exact hoi
    · rw [if_neg e]
      refine Or.inl ⟨rfl, fun p hpc z => e ?_⟩
      obtain ⟨a1, a2, a3⟩ := hp.2.2.1 p hpc
      have z' : o (tu p) = t := z
      rw [lvb_t, z'] at a2
      refine ⟨?_, a2⟩
      rcases h5 t ht with ⟨_, q⟩ | ⟨q, _⟩
      · exact absurd z' (q _ a1)
      · exact q
  · obtain ⟨a1, a2, a3⟩ := hp.2.2.1 p hpc
    obtain ⟨d1, d2', d3, d4⟩ := h8 (tu p) a1 k hk
    have hvp := hv (tu p) a1 k hk
    refine ⟨d1, d2', fun z => ?_, fun z => ⟨mv_ok hp (d4 z).1, ?_⟩⟩
    · have z : Kd (tu p) k = 0 := z
      show v2 (6 * o (tu p) + k) = _
      rw [hvp]; unfold wkv; rw [if_neg (fun q => by omega)]; exact d3 z
    · have z : ¬ Kd (tu p) k = 0 := z
      show v2 (6 * o (tu p) + k) = adr (fun p => o (tu p)) (mv (lvb o li) sg (g (tu p) k))
      obtain ⟨g1, g2⟩ := d4 z
      rw [hvp]
      by_cases g0 : g (tu p) k = 1000
      · unfold wkv; rw [if_neg (fun q => q.2.1 g0), g2, g0]
        unfold mv; rw [if_pos rfl, adr_no, adr_no]
      · have hg := g1.resolve_left g0
        by_cases hl : lvb o li (g (tu p) k) = true
        · unfold wkv
          rw [if_neg (fun q => q.2.2 hl), g2, (mvl _ hg hl).1, (mvl _ hg hl).2, adr_at g0]
        · have k2 : Kd (tu p) k = 2 := by
            have hk1 : ¬ Kd (tu p) k = 1 := fun q => hl (lvb_t.mpr (hA.2.1 (tu p) a1 ⟨a1, lvb_t.mp a2⟩ k hk q g0).2)
            omega
          unfold wkv mv
          rw [if_pos ⟨k2, g0, hl⟩, if_neg g0, if_neg hl, adr_no]
  · obtain ⟨b1, b2⟩ := h9 q hq
    refine ⟨mv_ok hp b1, ?_⟩
    rw [b2]
    show adr o (rt q) = adr (fun p => o (tu p)) (mv (lvb o li) sg (rt q))
    by_cases e : rt q = 1000
    · rw [e]; unfold mv; rw [if_pos rfl, adr_no, adr_no]
    · have hl := lvb_t.mpr (hA.1 q hq e).2
      have hq2 := b1.resolve_left e
      rw [(mvl _ hq2 hl).1, (mvl _ hq2 hl).2, adr_at e]
end PR
