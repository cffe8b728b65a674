/-! what is alive: the reference's search -/
theorem m1_lt : (-1 : Int32) < 0 := by decide
def LI (n : Nat) (o : Nat → Nat) (li : Nat → Int32) : Prop := ∀ t, t < 128 → li t = 0 ∨ (li t = 1 ∧ ∃ i, i < n ∧ o i = t)
def Grow (li li' : Nat → Int32) : Prop := ∀ t, t < 128 → li t = 1 → li' t = 1
def More (li li' : Nat → Int32) : Prop := ∃ t, t < 128 ∧ li t = 0 ∧ li' t = 1
theorem one0 : ¬ (1 : Int32) = 0 := by decide
theorem More.r {a b c : Nat → Int32} (h : More a b) (h2 : Grow b c) : More a c := by
  obtain ⟨t, t1, t2, t3⟩ := h
  exact ⟨t, t1, t2, h2 t t1 t3⟩
theorem More.l {n : Nat} {o : Nat → Nat} {a b c : Nat → Int32} (ha : LI n o a) (h : Grow a b) (h2 : More b c) : More a c := by
  obtain ⟨t, t1, t2, t3⟩ := h2
  refine ⟨t, t1, ?_, t3⟩
  rcases ha t t1 with e | ⟨e, _⟩
  · exact e
  · have := h t t1 e
    rw [t2] at this
    exact absurd this.symm one0
/-- how many are not alive -/
def zc (li : Nat → Int32) : Nat → Nat
  | 0 => 0
  | t + 1 => zc li t + (if li t = 0 then 1 else 0)
theorem zc_le (li : Nat → Int32) : ∀ t, zc li t ≤ t
  | 0 => Nat.le_refl _
  | t + 1 => by
    have := zc_le li t
    simp only [zc]
    split <;> omega
theorem zc_mono {a b : Nat → Int32} (h : ∀ t, t < 128 → b t = 0 → a t = 0) : ∀ t, t ≤ 128 → zc b t ≤ zc a t := by
  intro t
  induction t with
  | zero => intro _; exact Nat.le_refl _
  | succ t ih =>
    intro ht
    have := ih (by omega)
    simp only [zc]
    by_cases e : b t = 0
    · rw [if_pos e, if_pos (h t (by omega) e)]; omega
    · rw [if_neg e]; omega
theorem zc_lt {a b : Nat → Int32} (h : ∀ t, t < 128 → b t = 0 → a t = 0) {t0 : Nat} (h0 : t0 < 128) (h1 : a t0 = 0) (h2 : ¬ b t0 = 0) : ∀ t, t ≤ 128 → t0 < t → zc b t < zc a t := by
  intro t
  induction t with
  | zero => intro _ q; exact absurd q (by omega)
  | succ t ih =>
    intro ht hq
    simp only [zc]
    by_cases e : t = t0
    · subst e
      have := zc_mono h t (by omega)
      rw [if_neg h2, if_pos h1]; omega
    · have := ih (by omega) (by omega)
      by_cases e2 : b t = 0
      · rw [if_pos e2, if_pos (h t (by omega) e2)]; omega
      · rw [if_neg e2]; omega
theorem zc_more {n : Nat} {o : Nat → Nat} {a b : Nat → Int32} (ha : LI n o a) (hg : Grow a b) (hm : More a b) : zc b 128 < zc a 128 := by
  obtain ⟨t, t1, t2, t3⟩ := hm
  refine zc_lt (fun t ht e => ?_) t1 t2 (by rw [t3]; exact one0) 128 (by omega) t1
  rcases ha t ht with q | ⟨q, _⟩
  · exact q
  · have := hg t ht q
    rw [e] at this
    exact absurd this.symm one0
section RA
variable {n : Nat} {S : Nat → Nat} {Kd g : Nat → Nat → Nat} {nu : Nat → Nat → Int32} {se : Nat → Int32} {rt o : Nat → Nat} {us fi sE ki va : Nat → Int32} {ct : Int32} {od ro : Nat → Int32}
theorem r_enliven {li : Nat → Int32} {x : Nat} (ho : ∀ i, i < n → o i < 128) (h : LI n o li) (hx : okj n x) :
    ∃ (b : Nat) (li' : Nat → Int32), fX1_enliven li (adr o x) = some (nI b, li') ∧ (b = 0 ∨ b = 1) ∧ LI n o li' ∧ Grow li li' ∧ (∀ t, t < 128 → li' t = 1 → li t = 1 ∨ (¬ x = 1000 ∧ t = o x)) ∧ (¬ x = 1000 → li' (o x) = 1) ∧ (b = 0 → li' = li) ∧ (¬ b = 0 → More li li') := by
  unfold fX1_enliven
  by_cases h0 : x = 1000
  · subst h0
    refine ⟨0, li, ?_, Or.inl rfl, h, fun _ _ q => q, fun t _ q => Or.inl q, fun q => absurd rfl q, fun _ => rfl, fun q => absurd rfl q⟩
    rw [adr_no, if_pos m1_lt]; rfl
  · have hxn : x < n := hx.resolve_left h0
    have hox := ho x hxn
    rw [adr_at h0, if_neg (nI_pos (by omega)), ld_k hox (by omega), sb]
    by_cases e : li (o x) = 0
    · refine ⟨1, upd li (o x) 1, ?_, Or.inr rfl, fun t ht => ?_, fun t ht q => ?_, fun t ht q => ?_, fun _ => upd_s, fun q => absurd q (by decide), fun _ => ⟨o x, hox, e, upd_s⟩⟩
      · rw [if_pos e, stz_k hox (by omega), sb, nar1]; rfl
      · by_cases et : t = o x
        · subst et; rw [upd_s]; exact Or.inr ⟨rfl, x, hxn, rfl⟩
        · rw [upd_n et]; exact h t ht
      · by_cases et : t = o x
        · subst et; rw [upd_s]
        · rw [upd_n et]; exact q
      · by_cases et : t = o x
        · exact Or.inr ⟨h0, et⟩
        · rw [upd_n et] at q; exact Or.inl q
    · refine ⟨0, li, ?_, Or.inl rfl, h, fun _ _ q => q, fun t _ q => Or.inl q, fun _ => ?_, fun _ => rfl, fun q => absurd rfl q⟩
      · rw [if_neg e]; rfl
      · rcases h (o x) hox with q | q
        · exact absurd q e
        · exact q.1
def Snd (n : Nat) (S : Nat → Nat) (Kd g : Nat → Nat → Nat) (rt o : Nat → Nat) (li : Nat → Int32) : Prop := ∀ Z, rootsZ rt Z → closedZ n S Kd g Z → ∀ i, i < n → li (o i) = 1 → Z i
def ClAt (n : Nat) (S : Nat → Nat) (Kd g : Nat → Nat → Nat) (o : Nat → Nat) (li : Nat → Int32) (t k : Nat) : Prop := li t = 1 → ∀ i, i < n → o i = t → ∀ k', k ≤ k' → k' < S i → Kd i k' = 1 → ¬ g i k' = 1000 → li (o (g i k')) = 1
theorem RX.o128 (h : RX n S Kd g nu se rt o us fi sE ki va ct od ro) : ∀ i, i < n → o i < 128 := fun i hi => (h.2.2.1 i hi).1
theorem r_L80 (h : RX n S Kd g nu se rt o us fi sE ki va ct od ro) {t F : Nat} (ht : t < 128) (hF : F ≤ 6) (hf : fi t = nI F) :
    ∀ (fu k b : Nat) (li : Nat → Int32), k ≤ F → F - k < fu → LI n o li → Snd n S Kd g rt o li → (b = 0 ∨ b = 1) →
    ∃ (b' : Nat) (y : Int32) (li' : Nat → Int32), fX1_findAlive_L80 (nI t) fi ki va fu (nI b) (nI k) li = some (nI b', y, li') ∧ (b' = 0 ∨ b' = 1) ∧ LI n o li' ∧ Snd n S Kd g rt o li' ∧ Grow li li' ∧ (b' = 0 → b = 0 ∧ li' = li ∧ ClAt n S Kd g o li t k) ∧ (¬ b' = 0 → ¬ b = 0 ∨ More li li') := by
  intro fu
  induction fu with
  | zero => intro k b li h1 h2; exact absurd h2 (by omega)
  | succ fu ih =>
    intro k b li h1 h2 hL hS hb
    rw [fX1_findAlive_L80_s, ld_k ht (by omega), sb, hf]
    by_cases e : k = F
    · subst e
      refine ⟨b, nI k, li, ?_, hb, hL, hS, fun _ _ q => q, fun q => ⟨q, rfl, fun _ i hi hoi k' q1 q2 => ?_⟩, fun q => Or.inl q⟩
      · rw [if_pos (nI_le (Nat.le_refl _) (by omega))]
      · have hs := (h.2.2.2.2.2.2.1 i hi).2.1
        rw [hoi, hf, nI_eq (by omega) (by have := (h.2.2.2.2.2.2.1 i hi).1; omega)] at hs
        exact absurd q2 (by omega)
    · have hk : k < F := by omega
      rw [if_neg (nI_ge hk (by omega)), ld_k ht (by omega), sb]
      by_cases e0 : li t = 0
      · refine ⟨b, nI k, li, ?_, hb, hL, hS, fun _ _ q => q, fun q => ⟨q, rfl, fun q1 => ?_⟩, fun q => Or.inl q⟩
        · rw [if_pos e0]
        · rw [e0] at q1; exact absurd q1.symm one0
      · obtain ⟨l1, i, hi, hoi⟩ := (hL t ht).resolve_left e0
        have hs := (h.2.2.2.2.2.2.1 i hi).2.1
        rw [hoi, hf, nI_eq (by omega) (by have := (h.2.2.2.2.2.2.1 i hi).1; omega)] at hs
        subst hs
        obtain ⟨d1, d2, d3, d4⟩ := h.2.2.2.2.2.2.2.1 i hi k hk
        rw [hoi] at d2 d3 d4
        have hix : (6 : Int32) * nI t + nI k = nI (6 * t + k) := by rw [n6, pk_mul, nI_add]
        rw [if_neg e0, hix, ld_k (by omega) (by omega), sb, d2]
        have inj : ∀ i', i' < n → o i' = t → i' = i := fun i' q1 q2 => h.2.2.2.1 i' i q1 hi (q2.trans hoi.symm)
        by_cases k1 : Kd i k = 1
        · obtain ⟨g1, g2⟩ := d4 (by omega)
          rw [k1, if_pos (show nI 1 = 1 from rfl), ld_k (by omega) (by omega), sb, g2]
          obtain ⟨c, li1, r1, r2, r3, r4, r5, r6, r7, r8⟩ := r_enliven h.o128 hL g1
          have hS1 : Snd n S Kd g rt o li1 := fun Z z1 z2 i' hi' q => by
            rcases r5 (o i') (h.o128 i' hi') q with q1 | ⟨q1, q2⟩
            · exact hS Z z1 z2 i' hi' q1
            · have hg : g i k < n := g1.resolve_left q1
              rw [h.2.2.2.1 i' (g i k) hi' hg q2]
              exact z2 i hi (hS Z z1 z2 i hi (by rw [hoi]; exact l1)) k hk k1 q1
          rw [r1, sb]
          dsimp only
          have key : ∀ bb : Nat, (bb = 0 ∨ bb = 1) → (bb = 0 → b = 0 ∧ c = 0) → (¬ bb = 0 → ¬ b = 0 ∨ ¬ c = 0) → ∃ (b' : Nat) (y : Int32) (li' : Nat → Int32), fX1_findAlive_L80 (nI t) fi ki va fu (nI bb) (nI k + 1) li1 = some (nI b', y, li') ∧ (b' = 0 ∨ b' = 1) ∧ LI n o li' ∧ Snd n S Kd g rt o li' ∧ Grow li li' ∧ (b' = 0 → b = 0 ∧ li' = li ∧ ClAt n S Kd g o li t k) ∧ (¬ b' = 0 → ¬ b = 0 ∨ More li li') := by
            intro bb hbb hb0 hb1
            obtain ⟨b', y, li', s1, s2, s3, s4, s5, s6, s7⟩ := ih (k + 1) bb li1 (by omega) (by omega) r3 hS1 hbb
            refine ⟨b', y, li', by rw [nI_1]; exact s1, s2, s3, s4, fun t' q1 q2 => s5 t' q1 (r4 t' q1 q2), fun q => ?_, fun q => ?_⟩
            · obtain ⟨q1, q2, q3⟩ := s6 q
              obtain ⟨q4, q5⟩ := hb0 q1
              have q6 := r7 q5
              refine ⟨q4, q2.trans q6, fun z i' hi' ho' k' z1 z2 z3 z4 => ?_⟩
              by_cases ek : k' = k
              · subst ek
                have := inj i' hi' ho'
                subst this
                rw [← q6]; exact r6 z4
              · rw [q6] at q3
                exact q3 z i' hi' ho' k' (by omega) z2 z3 z4
            · rcases s7 q with q1 | q1
              · rcases hb1 q1 with q2 | q2
                · exact Or.inl q2
                · exact Or.inr ((r8 q2).r s5)
              · exact Or.inr (More.l hL r4 q1)
          rcases r2 with rfl | rfl
          · rw [show nI 0 = 0 from rfl, if_pos rfl]
            rcases hb with rfl | rfl
            · rw [show nI 0 = 0 from rfl, if_pos rfl]
              exact key 0 (Or.inl rfl) (fun _ => ⟨rfl, rfl⟩) (fun q => absurd rfl q)
            · rw [show nI 1 = 1 from rfl, if_neg one0]
              exact key 1 (Or.inr rfl) (fun q => absurd q (by decide)) (fun _ => Or.inl (by decide))
          · rw [show nI 1 = 1 from rfl, if_neg one0]
            rcases hb with rfl | rfl
            · rw [show nI 0 = 0 from rfl, if_pos rfl]
              exact key 1 (Or.inr rfl) (fun q => absurd q (by decide)) (fun _ => Or.inr (by decide))
            · rw [show nI 1 = 1 from rfl, if_neg one0]
              exact key 1 (Or.inr rfl) (fun q => absurd q (by decide)) (fun _ => Or.inl (by decide))
        · rw [if_neg (fun q => k1 (by rw [n1, nI_eq (by omega) (by omega)] at q; exact q))]
          obtain ⟨b', y, li', s1, s2, s3, s4, s5, s6, s7⟩ := ih (k + 1) b li (by omega) (by omega) hL hS hb
          refine ⟨b', y, li', ?_, s2, s3, s4, s5, fun q => ?_, s7⟩
          · rcases hb with rfl | rfl
            · rw [show nI 0 = 0 from rfl, if_pos rfl, nI_1]; exact s1
            · rw [show nI 1 = 1 from rfl, if_neg one0, nI_1]; exact s1
          · obtain ⟨q1, q2, q3⟩ := s6 q
            refine ⟨q1, q2, fun z i' hi' ho' k' z1 z2 z3 z4 => ?_⟩
            by_cases ek : k' = k
            · subst ek
              have := inj i' hi' ho'
              subst this
              exact absurd z3 k1
            · exact q3 z i' hi' ho' k' (by omega) z2 z3 z4
theorem r_L71 (h : RX n S Kd g nu se rt o us fi sE ki va ct od ro) : ∀ (fu t b : Nat) (li : Nat → Int32), t ≤ 128 → 128 - t < fu → LI n o li → Snd n S Kd g rt o li → (b = 0 ∨ b = 1) →
    ∃ (b' : Nat) (y : Int32) (li' : Nat → Int32), fX1_findAlive_L71 fi ki va fu (nI b) (nI t) li = some (nI b', y, li') ∧ (b' = 0 ∨ b' = 1) ∧ LI n o li' ∧ Snd n S Kd g rt o li' ∧ Grow li li' ∧ (b' = 0 → b = 0 ∧ li' = li ∧ ∀ t', t ≤ t' → t' < 128 → ClAt n S Kd g o li t' 0) ∧ (¬ b' = 0 → ¬ b = 0 ∨ More li li') := by
  intro fu
  induction fu with
  | zero => intro t b li h1 h2; exact absurd h2 (by omega)
  | succ fu ih =>
    intro t b li h1 h2 hL hS hb
    rw [fX1_findAlive_L71_s, n128]
    by_cases e : t = 128
    · subst e
      refine ⟨b, nI 128, li, ?_, hb, hL, hS, fun _ _ q => q, fun q => ⟨q, rfl, fun t' q1 q2 => absurd q1 (by omega)⟩, fun q => Or.inl q⟩
      rw [if_pos (nI_le (Nat.le_refl _) (by omega))]
    · obtain ⟨F, f1, f2⟩ := h.2.2.2.2.2.1 t (by omega)
      obtain ⟨b1, y1, li1, r1, r2, r3, r4, r5, r6, r7⟩ := r_L80 h (t := t) (by omega) f1 f2 FU 0 b li (by omega) (by unfold FU; omega) hL hS hb
      obtain ⟨b2, y2, li2, s1, s2, s3, s4, s5, s6, s7⟩ := ih (t + 1) b1 li1 (by omega) (by omega) r3 r4 r2
      refine ⟨b2, y2, li2, ?_, s2, s3, s4, fun t' q1 q2 => s5 t' q1 (r5 t' q1 q2), fun q => ?_, fun q => ?_⟩
      · rw [if_neg (nI_ge (by omega) (by omega)), n0, r1, sb, nI_1]; exact s1
      · obtain ⟨q1, q2, q3⟩ := s6 q
        obtain ⟨q4, q5, q6⟩ := r6 q1
        refine ⟨q4, q2.trans q5, fun t' z1 z2 => ?_⟩
        by_cases et : t' = t
        · subst et; exact q6
        · rw [q5] at q3; exact q3 t' (by omega) z2
      · rcases s7 q with q1 | q1
        · rcases r7 q1 with q2 | q2
          · exact Or.inl q2
          · exact Or.inr (q2.r s5)
        · exact Or.inr (More.l hL r5 q1)
theorem r_L63 (h : RX n S Kd g nu se rt o us fi sE ki va ct od ro) : ∀ (fu b : Nat) (x : Int32) (li : Nat → Int32), zc li 128 + b < fu → LI n o li → Snd n S Kd g rt o li → (b = 0 ∨ b = 1) → (b = 0 → ∀ t', t' < 128 → ClAt n S Kd g o li t' 0) →
    ∃ (y1 y2 : Int32) (li' : Nat → Int32), fX1_findAlive_L63 fi ki va fu (nI b) x li = some (y1, y2, li') ∧ LI n o li' ∧ Snd n S Kd g rt o li' ∧ Grow li li' ∧ (∀ t', t' < 128 → ClAt n S Kd g o li' t' 0) := by
  intro fu
  induction fu with
  | zero => intro b x li h2; exact absurd h2 (by omega)
  | succ fu ih =>
    intro b x li h2 hL hS hb hc
    rw [fX1_findAlive_L63_s]
    rcases hb with rfl | rfl
    · refine ⟨nI 0, x, li, ?_, hL, hS, fun _ _ q => q, hc rfl⟩
      rw [show nI 0 = 0 from rfl, if_pos rfl]
    · rw [show nI 1 = 1 from rfl, if_neg one0]
      obtain ⟨b1, y1, li1, r1, r2, r3, r4, r5, r6, r7⟩ := r_L71 h FU 0 0 li (by omega) (by unfold FU; omega) hL hS (Or.inl rfl)
      rw [show nI 0 = 0 from rfl] at r1
      rw [r1, sb]
      have hz : zc li1 128 + b1 < fu := by
        rcases r2 with rfl | rfl
        · have := (r6 rfl).2.1
          rw [this]; omega
        · have hm := (r7 (by decide)).resolve_left (fun q => q rfl)
          have := zc_more hL r5 hm
          omega
      obtain ⟨z1, z2, li2, s1, s2, s3, s4, s5⟩ := ih b1 y1 li1 hz r3 r4 r2 (fun q t' ht' => by
        obtain ⟨q1, q2, q3⟩ := r6 q
        rw [q2]; exact q3 t' (by omega) ht')
      exact ⟨z1, z2, li2, s1, s2, s3, fun t' q1 q2 => s4 t' q1 (r5 t' q1 q2), s5⟩
theorem r_L26 (h : RX n S Kd g nu se rt o us fi sE ki va ct od ro) : ∀ (fu q b : Nat) (li : Nat → Int32), q ≤ 8 → 8 - q < fu → LI n o li → Snd n S Kd g rt o li → (b = 0 ∨ b = 1) →
    ∃ (b' : Nat) (y : Int32) (li' : Nat → Int32), fX1_findAlive_L26 ro fu (nI b) (nI q) li = some (nI b', y, li') ∧ (b' = 0 ∨ b' = 1) ∧ LI n o li' ∧ Snd n S Kd g rt o li' ∧ Grow li li' ∧ (b' = 0 → b = 0 ∧ li' = li) ∧ (∀ q', q ≤ q' → q' < 8 → ¬ rt q' = 1000 → li' (o (rt q')) = 1) := by
  intro fu
  induction fu with
  | zero => intro q b li h1 h2; exact absurd h2 (by omega)
  | succ fu ih =>
    intro q b li h1 h2 hL hS hb
    rw [fX1_findAlive_L26_s, n8]
    by_cases e : q = 8
    · subst e
      refine ⟨b, nI 8, li, ?_, hb, hL, hS, fun _ _ z => z, fun z => ⟨z, rfl⟩, fun q' q1 q2 => absurd q1 (by omega)⟩
      rw [if_pos (nI_le (Nat.le_refl _) (by omega))]
    · have hq := h.2.2.2.2.2.2.2.2 q (by omega)
      rw [if_neg (nI_ge (by omega) (by omega)), ld_k (by omega) (by omega), sb, hq.2]
      obtain ⟨c, li1, r1, r2, r3, r4, r5, r6, r7, r8⟩ := r_enliven h.o128 hL hq.1
      have hS1 : Snd n S Kd g rt o li1 := fun Z z1 z2 i' hi' z => by
        rcases r5 (o i') (h.o128 i' hi') z with q1 | ⟨q1, q2⟩
        · exact hS Z z1 z2 i' hi' q1
        · have hg : rt q < n := hq.1.resolve_left q1
          rw [h.2.2.2.1 i' (rt q) hi' hg q2]
          exact z1 q (by omega) q1
      rw [r1, sb]
      dsimp only
      have key : ∀ bb : Nat, (bb = 0 ∨ bb = 1) → (bb = 0 → b = 0 ∧ c = 0) → ∃ (b' : Nat) (y : Int32) (li' : Nat → Int32), fX1_findAlive_L26 ro fu (nI bb) (nI q + 1) li1 = some (nI b', y, li') ∧ (b' = 0 ∨ b' = 1) ∧ LI n o li' ∧ Snd n S Kd g rt o li' ∧ Grow li li' ∧ (b' = 0 → b = 0 ∧ li' = li) ∧ (∀ q', q ≤ q' → q' < 8 → ¬ rt q' = 1000 → li' (o (rt q')) = 1) := by
        intro bb hbb hb0
        obtain ⟨b', y, li', s1, s2, s3, s4, s5, s6, s7⟩ := ih (q + 1) bb li1 (by omega) (by omega) r3 hS1 hbb
        refine ⟨b', y, li', by rw [nI_1]; exact s1, s2, s3, s4, fun t' q1 q2 => s5 t' q1 (r4 t' q1 q2), fun z => ?_, fun q' q1 q2 q3 => ?_⟩
        · obtain ⟨q1, q2⟩ := s6 z
          obtain ⟨q3, q4⟩ := hb0 q1
          exact ⟨q3, q2.trans (r7 q4)⟩
        · by_cases eq : q' = q
          · subst eq
            exact s5 _ (h.o128 _ (hq.1.resolve_left q3)) (r6 q3)
          · exact s7 q' (by omega) q2 q3
      rcases hb with rfl | rfl
      · rw [show nI 0 = 0 from rfl, if_pos rfl]
        rcases r2 with rfl | rfl
        · rw [show nI 0 = 0 from rfl, if_pos rfl]
          exact key 0 (Or.inl rfl) (fun _ => ⟨rfl, rfl⟩)
        · rw [show nI 1 = 1 from rfl, if_neg one0]
          exact key 1 (Or.inr rfl) (fun z => absurd z (by decide))
      · rw [show nI 1 = 1 from rfl, if_neg one0]
        exact key 1 (Or.inr rfl) (fun z => absurd z (by decide))
theorem r_L2 : ∀ (fu t : Nat) (li : Nat → Int32), t ≤ 128 → 128 - t < fu → ∃ (y : Int32) (li' : Nat → Int32), fX1_findAlive_L2 fu (nI t) li = some (y, li') ∧ ∀ t', t ≤ t' → t' < 128 → li' t' = 0 := by
    intro fu t li h1 h2
    have aux : ∀ (fu t : Nat) (li : Nat → Int32), t ≤ 128 → 128 - t < fu → ∃ (y : Int32) (li' : Nat → Int32), fX1_findAlive_L2 fu (nI t) li = some (y, li') ∧ (∀ t', t' < t → li' t' = li t') ∧ ∀ t', t ≤ t' → t' < 128 → li' t' = 0 := by
      intro fu
      induction fu with
      | zero => intro t li h1 h2; exact absurd h2 (by omega)
      | succ fu ih =>
        intro t li h1 h2
        rw [fX1_findAlive_L2_s, n128]
        by_cases e : t = 128
        · subst e
          exact ⟨nI 128, li, by rw [if_pos (nI_le (Nat.le_refl _) (by omega))], fun _ _ => rfl, fun t' q1 q2 => absurd q1 (by omega)⟩
        · obtain ⟨y, li', s1, s2, s3⟩ := ih (t + 1) (upd li t 0) (by omega) (by omega)
          refine ⟨y, li', ?_, fun t' q => ?_, fun t' q1 q2 => ?_⟩
          · rw [if_neg (nI_ge (by omega) (by omega)), stz_k (by omega) (by omega), sb, nar0, nI_1]; exact s1
          · rw [s2 t' (by omega), upd_n (by omega)]
          · by_cases et : t' = t
            · subst et; rw [s2 t' (by omega), upd_s]
            · exact s3 t' (by omega) q2
    obtain ⟨y, li', s1, s2, s3⟩ := aux fu t li h1 h2
    exact ⟨y, li', s1, s3⟩
theorem r_findAlive (h : RX n S Kd g nu se rt o us fi sE ki va ct od ro) (li : Nat → Int32) :
    ∃ li', fX1_findAlive fi ki va li ro = some li' ∧ LI n o li' ∧ Alv n S Kd g rt (fun i => i < n ∧ li' (o i) = 1) := by
  obtain ⟨y0, li0, a1, a2⟩ := r_L2 FU 0 li (by omega) (by unfold FU; omega)
  have hL0 : LI n o li0 := fun t ht => Or.inl (a2 t (by omega) ht)
  have hS0 : Snd n S Kd g rt o li0 := fun Z z1 z2 i hi q => by
    rw [a2 _ (by omega) (h.o128 i hi)] at q; exact absurd q.symm one0
  obtain ⟨b1, y1, li1, r1, r2, r3, r4, r5, r6, r7⟩ := r_L26 h FU 0 0 li0 (by omega) (by unfold FU; omega) hL0 hS0 (Or.inl rfl)
  obtain ⟨z1, z2, li2, s1, s2, s3, s4, s5⟩ := r_L63 h FU b1 y1 li1 (by have := zc_le li1 128; unfold FU; omega) r3 r4 r2 (fun q t' ht' z => by
    rw [(r6 q).2, a2 t' (by omega) ht'] at z; exact absurd z.symm one0)
  refine ⟨li2, ?_, s2, fun q q1 q2 => ?_, fun i hi hz k k1 k2 k3 => ?_, fun Z w1 w2 i hz => s3 Z w1 w2 i hz.1 hz.2⟩
  · unfold fX1_findAlive
    rw [n0]
    simp only [a1, r1, s1, sb]
  · have hq := (h.2.2.2.2.2.2.2.2 q q1).1.resolve_left q2
    exact ⟨hq, s4 _ (h.o128 _ hq) (r7 q (by omega) q1 q2)⟩
  · have hg := ((h.2.2.2.2.2.2.2.1 i hi k k1).2.2.2 (by omega)).1.resolve_left k3
    exact ⟨hg, s5 (o i) (h.o128 i hi) hz.2 i hi rfl k (by omega) k1 k2 k3⟩
end RA
theorem Alv.iff {n : Nat} {S : Nat → Nat} {Kd g : Nat → Nat → Nat} {rt : Nat → Nat} {A B : Nat → Prop} (ha : Alv n S Kd g rt A) (hb : Alv n S Kd g rt B) (i : Nat) : A i ↔ B i := ⟨ha.2.2 B hb.1 hb.2.1 i, hb.2.2 A ha.1 ha.2.1 i⟩
