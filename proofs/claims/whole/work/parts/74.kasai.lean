/-! where each end stands; how much neighbours have in common -/
/-- the order, and what is read off it -/
def zBt (len : Int) (T od sd al : Int → Int) : Prop := sSa len (zbf len T) od ∧ (∀ i, 0 ≤ i → i < len → sd (od i) = i) ∧ (∀ i, 0 ≤ i → i < len → 0 ≤ sd i ∧ sd i < len) ∧ (∀ i, 1 ≤ i → i < len → al i = zcc len T od i) ∧ (1 ≤ len → al 0 = 0)
theorem lvSa_sSa {n ts : Int} {T od : Int → Int} (hn : 0 ≤ n) (hT : ∀ i, 0 ≤ i → i < n → 0 ≤ T i) (h : lvSa (n, ts, T) od) : sSa n (zbf n T) od := by
  obtain ⟨h1, h2, h3⟩ := h
  have h1 : ∀ x, x < n.toNat → ∃ s : Nat, s < n.toNat ∧ od s = (x : Int) := h1
  have h2 : ∀ s : Nat, s < n.toNat → ∃ x : Nat, x < n.toNat ∧ od s = (x : Int) := h2
  have h3 : ∀ s s' x y : Nat, s < s' → s' < n.toNat → od s = (x : Int) → od s' = (y : Int) → sx_lt n.toNat (zt T) x y := h3
  refine ⟨⟨?_, ?_⟩, ?_⟩
  · intro i i0 i1
    obtain ⟨x, x1, x2⟩ := h2 i.toNat (by omega)
    rw [Int.toNat_of_nonneg i0] at x2
    omega
  · intro v v0 v1
    obtain ⟨s, s1, s2⟩ := h1 v.toNat (by omega)
    exact ⟨s, by omega, by omega, by omega⟩
  · intro x y x0 xy yn
    obtain ⟨u, u1, u2⟩ := h2 x.toNat (by omega)
    obtain ⟨v, v1, v2⟩ := h2 y.toNat (by omega)
    have := h3 x.toNat y.toNat u v (by omega) (by omega) u2 v2
    rw [Int.toNat_of_nonneg (by omega)] at u2 v2
    rw [zbf_iff hT (by omega) (by omega) (by omega) (by omega), u2, v2, Int.toNat_natCast, Int.toNat_natCast]
    exact this
theorem stK_at {nS : Nat} {len : Int} {od sd : Int → Int} (hS : len ≤ (nS : Int)) (hs : sSur len od) : ∀ k : Nat, k ≤ len.toNat → ∀ i : Int, 0 ≤ i → i < k → zit (stK nS od) k sd (od i) = i := by
  intro k
  induction k with
  | zero => intro _ i h0 h1; omega
  | succ k ih =>
    intro hk i h0 h1
    have g1 := hs.1 k (by omega) (by omega)
    rw [zit, stK, zput_in g1.1 (by omega)]
    by_cases e : i = k
    · rw [e, zup_eq]
    · have := ih (by omega) i h0 (by omega)
      rw [zup_ne (fun z => e (sSur_inj hs h0 (by omega) (by omega) (by omega) z))]; exact this
theorem stK_S {nS : Nat} {od sd : Int → Int} (h : zS sd) (k : Nat) (hk : k ≤ 1000000) : zS (zit (stK nS od) k sd) := by
  induction k with
  | zero => exact h
  | succ k ih => rw [zit, stK]; exact zS_put (ih (by omega)) (by omega)
/-- as many letters as both have: from further on too -/
theorem zcm_from {len : Int} {T : Int → Int} {a b k : Int} (ha : 0 ≤ a) (hb : 0 ≤ b) (h0 : 0 ≤ k) (hk : k ≤ zcm len T a b 0) (h1 : a ≤ len) (h2 : b ≤ len) : zcm len T a b k = zcm len T a b 0 := by
  obtain ⟨s0, s1, s2, s3, s4⟩ := zcm_spec (sz := len) (T := T) ha hb h1 h2
  have key : ∀ j : Nat, (j : Int) ≤ zcm len T a b 0 → zcm len T a b j = zcm len T a b 0 := by
    intro j
    induction j with
    | zero => intro _; rfl
    | succ j ih =>
      intro hj
      rw [← ih (by omega), show ((j + 1 : Nat) : Int) = (j : Int) + 1 by omega]
      refine zcm_eq ?_ (s3 j (by omega) (by omega))
      have := zmax_or (a := a) (b := b)
      omega
  have := key k.toNat (by omega)
  rw [Int.toNat_of_nonneg h0] at this
  exact this
/-- as many letters in common as are seen to be alike -/
theorem zcm_ge {len : Int} {T : Int → Int} {a b k : Int} (ha : 0 ≤ a) (hb : 0 ≤ b) (h0 : 0 ≤ k) (h1 : a + k ≤ len) (h2 : b + k ≤ len) (h : ∀ j, 0 ≤ j → j < k → T (a + j) = T (b + j)) : k ≤ zcm len T a b 0 := by
  obtain ⟨s0, s1, s2, s3, s4⟩ := zcm_spec (sz := len) (T := T) ha hb (by omega) (by omega)
  refine Classical.byContradiction fun hn => ?_
  rcases s4 with q | q | q
  · omega
  · omega
  · exact q (h _ s0 (by omega))
section
variable {len : Int} {T : Int → Int}
/-- between two ends that have k letters in common, all have -/
theorem mid_com (hT : ∀ i, 0 ≤ i → i < len → 0 ≤ T i) {x r y k : Int} (x0 : 0 ≤ x) (r0 : 0 ≤ r) (y0 : 0 ≤ y) (x1 : x < len) (r1 : r < len) (y1 : y < len) (hxr : x = r ∨ zbf len T x r = true) (hry : zbf len T r y = true) (hk : 0 ≤ k) (hc : k ≤ zcm len T x y 0) : k ≤ zcm len T r y 0 := by
  rcases hxr with e | hxr
  · rw [← e]; exact hc
  · obtain ⟨s0, s1, s2, s3, -⟩ := zcm_spec (sz := len) (T := T) x0 y0 (by omega) (by omega)
    rw [zbf_iff hT x0 r0 (by omega) (by omega)] at hxr
    rw [zbf_iff hT r0 y0 (by omega) (by omega)] at hry
    obtain ⟨p, p1, p2⟩ := hxr
    obtain ⟨q, q1, q2⟩ := hry
    have le : ∀ z : Int, 0 ≤ z → ∀ j : Nat, sx_le len.toNat (fun j => (T (j : Int)).toNat) (z.toNat + j) = zla len T (z + j) := by
      intro z hz j
      rw [zla_le hT (by omega), show (z + (j : Int)).toNat = z.toNat + j by omega]
    -- r and y agree on the first k letters
    have hq : k ≤ q := by
      refine Classical.byContradiction fun hn => ?_
      have hqk : (q : Int) < k := by omega
      rw [le r r0, le y y0] at q2
      have e1 : zla len T (x + q) = zla len T (y + q) := by
        rw [zla_in (by omega) (by omega), zla_in (by omega) (by omega)]; exact s3 q (by omega) (by omega)
      rcases Nat.lt_trichotomy p q with l | l | l
      · -- x and r differ earlier
        rw [le x x0, le r r0] at p2
        have e2 := q1 p l
        rw [le r r0, le y y0] at e2
        have e3 : zla len T (x + p) = zla len T (y + p) := by
          rw [zla_in (by omega) (by omega), zla_in (by omega) (by omega)]; exact s3 p (by omega) (by omega)
        omega
      · rw [l] at p2
        rw [le x x0, le r r0] at p2
        omega
      · have e2 := p1 q l
        rw [le x x0, le r r0] at e2
        omega
    have hrl : r + k ≤ len := by
      refine Classical.byContradiction fun hn => ?_
      have e2 := q1 (len - r).toNat (by omega)
      rw [le r r0, le y y0, zla_out (by omega), zla_in (by omega) (by omega)] at e2
      have := hT (y + (len - r).toNat) (by omega) (by omega)
      omega
    refine zcm_ge r0 y0 hk hrl (by omega) ?_
    intro j j0 j1
    have e2 := q1 j.toNat (by omega)
    rw [le r r0, le y y0, Int.toNat_of_nonneg j0, zla_in (by omega) (by omega), zla_in (by omega) (by omega)] at e2
    exact e2
theorem zbf_tail (hT : ∀ i, 0 ≤ i → i < len → 0 ≤ T i) {x y : Int} (x0 : 0 ≤ x) (y0 : 0 ≤ y) (x1 : x < len) (y1 : y < len) (e : T x = T y) (h : zbf len T x y = true) : zbf len T (x + 1) (y + 1) = true := by
  rw [zbf_iff hT x0 y0 (by omega) (by omega)] at h
  rw [zbf_iff hT (by omega) (by omega) (by omega) (by omega), show (x + 1).toNat = x.toNat + 1 by omega, show (y + 1).toNat = y.toNat + 1 by omega]
  refine (sx_lt_s ?_).mp h
  have a := zla_le (len := len) (lt := T) hT x0
  have b := zla_le (len := len) (lt := T) hT y0
  rw [← a, ← b, zla_in x0 x1, zla_in y0 y1, e]
/-- as much as an end has in common with the one before it; 0 for the first -/
def kLc (len : Int) (T od sd : Int → Int) (p : Int) : Int := if 0 < sd p then zcm len T (od (sd p - 1)) p 0 else 0
theorem kas {od sd : Int → Int} (hT : ∀ i, 0 ≤ i → i < len → 0 ≤ T i) (hsa : sSa len (zbf len T) od) (h1 : ∀ i, 0 ≤ i → i < len → sd (od i) = i) (h2 : ∀ i, 0 ≤ i → i < len → 0 ≤ sd i ∧ sd i < len) (h3 : ∀ i, 0 ≤ i → i < len → od (sd i) = i) {p : Int} (p0 : 0 ≤ p) (p1 : p + 1 < len) : kLc len T od sd p - 1 ≤ kLc len T od sd (p + 1) := by
  have hnn : 0 ≤ kLc len T od sd (p + 1) := by
    unfold kLc
    have g := h2 (p + 1) (by omega) p1
    split
    · have r := hsa.1.1 (sd (p + 1) - 1) (by omega) (by omega)
      exact (zcm_spec (sz := len) (T := T) r.1 (show 0 ≤ p + 1 by omega) (by omega) (by omega)).1
    · omega
  rcases Int.lt_or_le (kLc len T od sd p) 2 with l | l
  · omega
  · have hp := h2 p p0 (by omega)
    unfold kLc at l ⊢
    by_cases q : 0 < sd p
    · rw [if_pos q] at l ⊢
      have g := hsa.1.1 (sd p - 1) (by omega) (by omega)
      generalize hx : od (sd p - 1) = x at l g ⊢
      obtain ⟨s0, s1, s2, s3, s4⟩ := zcm_spec (sz := len) (T := T) g.1 p0 (by omega) (by omega)
      have hlt : zbf len T x p = true := by
        have := hsa.2 (sd p - 1) (sd p) (by omega) (by omega) hp.2
        rw [hx, h3 p p0 (by omega)] at this
        exact this
      have ht := zbf_tail hT g.1 p0 g.2 (by omega) (by have := s3 0 (by omega) (by omega); rw [Int.add_zero, Int.add_zero] at this; exact this) hlt
      have hx1 := h2 (x + 1) (by omega) (by omega)
      have hp1 := h2 (p + 1) (by omega) p1
      have hpos : sd (x + 1) < sd (p + 1) := by
        rcases Int.lt_trichotomy (sd (x + 1)) (sd (p + 1)) with a | a | a
        · exact a
        · have e1 := h3 (x + 1) (by omega) (by omega)
          have e2 := h3 (p + 1) (by omega) p1
          rw [a, e2] at e1
          rw [← e1] at ht
          have := (zbf_ord hT).1 (p + 1) (by omega) p1
          rw [this] at ht; cases ht
        · have := hsa.2 _ _ hp1.1 a hx1.2
          rw [h3 (x + 1) (by omega) (by omega), h3 (p + 1) (by omega) p1] at this
          have h5 := (zbf_ord hT).2.2 (x + 1) (p + 1) (x + 1) (by omega) (by omega) (by omega) p1 (by omega) (by omega) ht this
          rw [(zbf_ord hT).1 (x + 1) (by omega) (by omega)] at h5; cases h5
      rw [if_pos (by omega)]
      have r := hsa.1.1 (sd (p + 1) - 1) (by omega) (by omega)
      refine mid_com hT (x := x + 1) (by omega) r.1 (by omega) (by omega) r.2 p1 ?_ ?_ (by omega) ?_
      · rcases Int.lt_or_eq_of_le (show sd (x + 1) ≤ sd (p + 1) - 1 by omega) with a | a
        · right
          have := hsa.2 _ _ hx1.1 a (by omega)
          rw [h3 (x + 1) (by omega) (by omega)] at this
          exact this
        · left; rw [← a, h3 (x + 1) (by omega) (by omega)]
      · have := hsa.2 (sd (p + 1) - 1) (sd (p + 1)) (by omega) (by omega) hp1.2
        rw [h3 (p + 1) (by omega) p1] at this
        exact this
      · refine zcm_ge (by omega) (by omega) (by omega) (by omega) (by omega) ?_
        intro j j0 j1
        have := s3 (j + 1) (by omega) (by omega)
        rw [show x + 1 + j = x + (j + 1) by omega, show p + 1 + j = p + (j + 1) by omega]; exact this
    · rw [if_neg q] at l; omega
/-- measureNeighbours -/
theorem mn_all {nO nA : Nat} {od sd al : Int → Int} (hlO : len ≤ (nO : Int)) (hlA : len ≤ (nA : Int)) (hT : ∀ i, 0 ≤ i → i < len → 0 ≤ T i) (hsa : sSa len (zbf len T) od) (h1 : ∀ i, 0 ≤ i → i < len → sd (od i) = i) (h2 : ∀ i, 0 ≤ i → i < len → 0 ≤ sd i ∧ sd i < len) (h3 : ∀ i, 0 ≤ i → i < len → od (sd i) = i) (hal : zS al) (hl6 : len ≤ 1000000) : ∀ k : Nat, k ≤ len.toNat →
    (0 ≤ (zit (stMN nO nA len T od sd) k (0, al)).1 ∧ (k < len.toNat → (zit (stMN nO nA len T od sd) k (0, al)).1 ≤ kLc len T od sd k)) ∧ (∀ p : Int, 0 ≤ p → p < k → (zit (stMN nO nA len T od sd) k (0, al)).2 (sd p) = kLc len T od sd p) ∧ zS (zit (stMN nO nA len T od sd) k (0, al)).2 := by
  have hnn : ∀ p, 0 ≤ p → p < len → 0 ≤ kLc len T od sd p ∧ kLc len T od sd p ≤ len := by
    intro p p0 p1
    unfold kLc
    have g := h2 p p0 p1
    split
    · have r := hsa.1.1 (sd p - 1) (by omega) (by omega)
      have z := zcm_spec (sz := len) (T := T) r.1 p0 (by omega) (by omega)
      omega
    · omega
  intro k
  induction k with
  | zero =>
    intro _
    refine ⟨⟨by show (0 : Int) ≤ 0; omega, fun h => (hnn 0 (by omega) (by omega)).1⟩, fun p a b => by omega, hal⟩
  | succ k ih =>
    intro hk
    obtain ⟨⟨a1, a2⟩, a3, a4⟩ := ih (by omega)
    have a2 := a2 (by omega)
    rw [zit]
    generalize zit (stMN nO nA len T od sd) k (0, al) = q at a1 a2 a3 a4
    have gk := h2 k (by omega) (by omega)
    have hm : mnk nO len T od sd k q.1 = kLc len T od sd k := by
      unfold mnk kLc
      unfold kLc at a2
      by_cases z : 0 < sd k
      · rw [if_pos z] at a2 ⊢
        rw [if_pos z]
        have r := hsa.1.1 (sd k - 1) (by omega) (by omega)
        rw [zat_in (by omega) (by omega)]
        exact zcm_from r.1 (by omega) a1 a2 (by omega) (by omega)
      · rw [if_neg z, if_neg z]
    have hb := hnn k (by omega) (by omega)
    unfold stMN
    rw [hm]
    refine ⟨⟨?_, ?_⟩, ?_, ?_⟩
    · show 0 ≤ zmax 0 (kLc len T od sd k - 1)
      exact zmax_ge.1
    · intro hk2
      show zmax 0 (kLc len T od sd k - 1) ≤ _
      have := kas hT hsa h1 h2 h3 (p := k) (by omega) (by omega)
      have h4 := hnn (k + 1) (by omega) (by omega)
      rw [show ((k + 1 : Nat) : Int) = (k : Int) + 1 by omega]
      exact zmax_le h4.1 this
    · intro p p0 p1
      show zput nA q.2 (sd k) _ (sd p) = _
      rw [zput_in gk.1 (by omega)]
      by_cases e : p = k
      · rw [e, zup_eq]
      · have hne : sd p ≠ sd k := fun z => e (by have e1 := h3 p p0 (by omega); have e2 := h3 k (by omega) (by omega); rw [z, e2] at e1; exact e1.symm)
        rw [zup_ne hne]; exact a3 p p0 (by omega)
    · exact zS_put a4 (by omega)
/-- build(): all that is read off the order -/
theorem bt_all {nO nS nA : Nat} {od sd al : Int → Int} (hlO : len ≤ (nO : Int)) (hlS : len ≤ (nS : Int)) (hlA : len ≤ (nA : Int)) (h0 : 0 ≤ len) (hl6 : len ≤ 1000000) (hT : ∀ i, 0 ≤ i → i < len → 0 ≤ T i) (hsa : sSa len (zbf len T) od) (hal : zS al) :
    (∀ i, 0 ≤ i → i < len → 0 ≤ zit (stK nS od) len.toNat sd i ∧ zit (stK nS od) len.toNat sd i < len) ∧ zBt len T od (zit (stK nS od) len.toNat sd) (zit (stMN nO nA len T od (zit (stK nS od) len.toNat sd)) len.toNat (0, al)).2 ∧ zS (zit (stMN nO nA len T od (zit (stK nS od) len.toNat sd)) len.toNat (0, al)).2 := by
  have k1 : ∀ i, 0 ≤ i → i < len → zit (stK nS od) len.toNat sd (od i) = i := fun i a b => stK_at hlS hsa.1 len.toNat (Nat.le_refl _) i a (by omega)
  generalize zit (stK nS od) len.toNat sd = st at k1
  have k2 : ∀ i, 0 ≤ i → i < len → 0 ≤ st i ∧ st i < len := by
    intro i a b
    obtain ⟨x, x0, x1, ex⟩ := hsa.1.2 i a b
    rw [← ex, k1 x x0 x1]; exact ⟨x0, x1⟩
  have k3 : ∀ i, 0 ≤ i → i < len → od (st i) = i := by
    intro i a b
    obtain ⟨x, x0, x1, ex⟩ := hsa.1.2 i a b
    rw [← ex, k1 x x0 x1]
  obtain ⟨-, m2, m3⟩ := mn_all (nO := nO) (nA := nA) hlO hlA hT hsa k1 k2 k3 hal hl6 len.toNat (Nat.le_refl _)
  refine ⟨k2, ⟨hsa, k1, k2, ?_, ?_⟩, m3⟩
  · intro i i0 i1
    have g := hsa.1.1 i (by omega) i1
    have := m2 (od i) g.1 (by omega)
    rw [k1 i (by omega) i1] at this
    rw [this, kLc, k1 i (by omega) i1, if_pos (by omega)]; rfl
  · intro hl
    have g := hsa.1.1 0 (by omega) (by omega)
    have := m2 (od 0) g.1 (by omega)
    rw [k1 0 (by omega) (by omega)] at this
    rw [this, kLc, k1 0 (by omega) (by omega), if_neg (by omega)]
end
