/-! gatherValleys, nameValleys, takeOrderFromBelow: what they leave -/
theorem te_ct_nth {P : Nat → Bool} {n k : Nat} (h : k < te_ct P n) : ∃ v, v < n ∧ P v = true ∧ te_ct P v = k := by
  induction n with
  | zero => simp [te_ct] at h
  | succ n ih =>
    rw [te_ct] at h
    by_cases q : P n = true
    · rw [if_pos q] at h
      rcases Nat.lt_or_ge k (te_ct P n) with l | l
      · obtain ⟨v, a, b, c⟩ := ih l
        exact ⟨v, by omega, b, c⟩
      · exact ⟨n, by omega, q, by omega⟩
    · rw [if_neg q] at h
      obtain ⟨v, a, b, c⟩ := ih (by omega)
      exact ⟨v, by omega, b, c⟩
theorem te_ct_one {P : Nat → Bool} {x y : Nat} (hx : P x = true) (hy : P y = true) (e : te_ct P x = te_ct P y) : x = y := by
  rcases Nat.lt_trichotomy x y with l | l | l
  · have := te_ct_lt l hx; omega
  · exact l
  · have := te_ct_lt l hy; omega
section
variable {len sg : Int} {lt : Int → Int} {rs : Int → Bool} {vl vn ff rf : Int → Int} {vc : Int}
/-- the valleys by their numbers -/
theorem zEn_V (E : zEn len sg lt rs vl vn vc ff rf) : ∀ k : Nat, k < te_ct (sx_val len.toNat (zt lt)) len.toNat → ∃ v : Nat, vl k = (v : Int) ∧ sx_val len.toNat (zt lt) v = true ∧ te_ct (sx_val len.toNat (zt lt)) v = k := by
  intro k hk
  obtain ⟨v, a, b, c⟩ := te_ct_nth hk
  refine ⟨v, ?_, b, c⟩
  have := E.2.2.2.1 v b
  rw [c] at this
  exact this
theorem zEn_V2 (E : zEn len sg lt rs vl vn vc ff rf) {m : Nat} (hm : vc = m) : (∀ j, j < m → sx_val len.toNat (zt lt) (vl (j : Nat)).toNat = true) ∧ (∀ j j', j < j' → j' < m → (vl (j : Nat)).toNat < (vl (j' : Nat)).toNat) ∧ (∀ v, sx_val len.toNat (zt lt) v = true → te_ct (sx_val len.toNat (zt lt)) v < m ∧ (vl (te_ct (sx_val len.toNat (zt lt)) v : Nat)).toNat = v) ∧ (∀ j, j < m → te_ct (sx_val len.toNat (zt lt)) (vl (j : Nat)).toNat = j) := by
  have hm2 : m = te_ct (sx_val len.toNat (zt lt)) len.toNat := by have := E.2.1; omega
  refine ⟨?_, ?_, ?_, ?_⟩
  · intro j hj
    obtain ⟨v, a, b, c⟩ := zEn_V E j (by omega)
    rw [a, Int.toNat_natCast]; exact b
  · intro j j' h1 h2
    obtain ⟨v, a, b, c⟩ := zEn_V E j (by omega)
    obtain ⟨v', a', b', c'⟩ := zEn_V E j' (by omega)
    rw [a, a', Int.toNat_natCast, Int.toNat_natCast]
    rcases Nat.lt_or_ge v v' with l | l
    · exact l
    · have := te_ct_mono (sx_val len.toNat (zt lt)) l; omega
  · intro v hv
    refine ⟨by rw [hm2]; exact te_ct_lt (sx_val_in hv) hv, ?_⟩
    rw [E.2.2.2.1 v hv, Int.toNat_natCast]
  · intro j hj
    obtain ⟨v, a, b, c⟩ := zEn_V E j (by omega)
    rw [a, Int.toNat_natCast]; exact c
theorem zEn_sd (E : zEn len sg lt rs vl vn vc ff rf) {m : Nat} (hm : vc = m) : sdS len.toNat (zt lt) (fun j => (vl (j : Nat)).toNat) m := by
  obtain ⟨a, b, c, d⟩ := zEn_V2 E hm
  refine ⟨a, ?_, ?_⟩
  · intro k l hk hl e
    rw [← d k hk, ← d l hl]
    exact congrArg _ e
  · intro v hv
    exact ⟨_, (c v hv).1, (c v hv).2⟩
/-- gatherValleys -/
theorem gat_all (hl : 0 ≤ len ∧ len ≤ 1000000) {nM nW : Nat} (hM : len ≤ (nM : Int)) (E : zEn len sg lt rs vl vn vc ff rf) {m : Nat} (hm : vc = m) (hW : (m : Int) ≤ nW) {S : Nat → Nat} {od sv : Int → Int} (hS : sdS len.toNat (zt lt) S m) (I : ipI len.toNat (zt lt) S m od) (hsv : zS sv) :
    zS (zit (stG nM nW vn od) len.toNat (0, sv)).2 ∧ ∃ SV : Nat → Nat, (∀ k : Nat, k < m → (zit (stG nM nW vn od) len.toNat (0, sv)).2 k = (SV k : Int)) ∧ sPo len.toNat (zt lt) SV m := by
  obtain ⟨i1, i2, i3, i4, i5, i6⟩ := id I
  have hm2 : m = te_ct (sx_val len.toNat (zt lt)) len.toNat := by have := E.2.1; omega
  have hE3 := E.2.2.1
  -- at a place of the order
  have hat : ∀ s : Nat, s < len.toNat → ∃ x : Nat, x < len.toNat ∧ od s = (x : Int) ∧ (zat nM vn (od s) = -1 ↔ sx_val len.toNat (zt lt) x = false) := by
    intro s hs
    obtain ⟨x, h1, h2⟩ := i3 s hs
    refine ⟨x, h1, h2, ?_⟩
    rw [h2, zat_in (by omega) (by omega), hE3 x h1]
    cases q : sx_val len.toNat (zt lt) x with
    | true => rw [if_pos rfl]; simp
    | false => rw [if_neg (by decide)]; simp
  let P : Nat → Bool := fun s => sx_val len.toNat (zt lt) (od (s : Int)).toNat
  have hodn : ∀ s : Nat, s < len.toNat → (od (s : Int)).toNat < len.toNat ∧ od s = ((od (s : Int)).toNat : Int) := by
    intro s hs
    obtain ⟨x, h1, h2, -⟩ := hat s hs
    rw [h2, Int.toNat_natCast]; exact ⟨h1, rfl⟩
  have hle : te_ct P len.toNat ≤ m := by
    rw [hm2]
    refine te_ct_inj (fun s => (od (s : Int)).toNat) (fun s hs hP => ⟨(hodn s hs).1, hP⟩) ?_
    intro s s' hs hs' _ _ e
    exact i4 s s' (od (s : Int)).toNat hs hs' (hodn s hs).2 (by rw [(hodn s' hs').2]; exact congrArg _ e.symm)
  have hge : m ≤ te_ct P len.toNat := by
    rw [hm2]
    have hpos : ∀ x, ∃ s : Nat, x < len.toNat → s < len.toNat ∧ od s = (x : Int) := by
      intro x
      by_cases q : x < len.toNat
      · obtain ⟨s, a, b⟩ := i1 x q
        exact ⟨s, fun _ => ⟨a, b⟩⟩
      · exact ⟨0, fun h => absurd h q⟩
    refine te_ct_inj (fun x => Classical.choose (hpos x)) ?_ ?_
    · intro x hx hv
      have := Classical.choose_spec (hpos x) hx
      refine ⟨this.1, ?_⟩
      show sx_val len.toNat (zt lt) (od _).toNat = true
      rw [this.2, Int.toNat_natCast]; exact hv
    · intro x x' hx hx' _ _ e
      have h1 := Classical.choose_spec (hpos x) hx
      have h2 := Classical.choose_spec (hpos x') hx'
      have e' : Classical.choose (hpos x) = Classical.choose (hpos x') := e
      rw [e'] at h1
      have := h1.2.symm.trans h2.2
      omega
  have inv : ∀ k : Nat, k ≤ len.toNat → (zit (stG nM nW vn od) k (0, sv)).1 = (te_ct P k : Nat) ∧ (∀ s : Nat, s < k → P s = true → (zit (stG nM nW vn od) k (0, sv)).2 (te_ct P s : Nat) = od s) ∧ zS (zit (stG nM nW vn od) k (0, sv)).2 := by
    intro k
    induction k with
    | zero => intro _; exact ⟨rfl, fun s h => absurd h (by omega), hsv⟩
    | succ k ih =>
      intro hk
      obtain ⟨a1, a2, a3⟩ := ih (by omega)
      rw [zit]
      generalize zit (stG nM nW vn od) k (0, sv) = q at a1 a2 a3
      obtain ⟨x, x1, x2, x3⟩ := hat k (by omega)
      have hPk : P k = sx_val len.toNat (zt lt) x := by show sx_val len.toNat (zt lt) (od (k : Int)).toNat = _; rw [x2, Int.toNat_natCast]
      unfold stG
      by_cases z : zat nM vn (od k) = -1
      · rw [if_pos z]
        have hf := x3.mp z
        refine ⟨by rw [te_ct, hPk, hf, a1]; rfl, ?_, a3⟩
        intro s hs hPs
        rcases Nat.lt_or_ge s k with l | l
        · exact a2 s l hPs
        · rw [show s = k by omega, hPk, hf] at hPs; cases hPs
      · rw [if_neg z]
        have ht : P k = true := by
          rw [hPk]
          cases w : sx_val len.toNat (zt lt) x with
          | true => rfl
          | false => exact absurd (x3.mpr w) z
        have hk2 := te_ct_lt (P := P) (show k < len.toNat by omega) ht
        refine ⟨?_, ?_, ?_⟩
        · show q.1 + 1 = _
          rw [te_ct, if_pos ht, a1]; rfl
        · intro s hs hPs
          show zput nW q.2 q.1 (od k) _ = _
          rw [zput_in (by omega) (by omega)]
          rcases Nat.lt_or_ge s k with l | l
          · have := te_ct_lt (P := P) l hPs
            rw [zup_ne (by rw [a1]; omega)]; exact a2 s l hPs
          · rw [show s = k by omega, ← a1, zup_eq]
        · exact zS_put a3 (by rw [x2]; omega)
  obtain ⟨b1, b2, b3⟩ := inv len.toNat (Nat.le_refl _)
  refine ⟨b3, fun k => ((zit (stG nM nW vn od) len.toNat (0, sv)).2 (k : Int)).toNat, ?_, ?_⟩
  · intro k hk
    obtain ⟨s, s1, s2, s3⟩ := te_ct_nth (P := P) (n := len.toNat) (k := k) (by omega)
    have := b2 s s1 s2
    rw [s3] at this
    show (zit (stG nM nW vn od) len.toNat (0, sv)).2 (k : Int) = ((((zit (stG nM nW vn od) len.toNat (0, sv)).2 (k : Int)).toNat : Nat) : Int)
    rw [this]
    exact (hodn s s1).2
  · have hg : ∀ k, k < m → ∃ s : Nat, s < len.toNat ∧ P s = true ∧ te_ct P s = k ∧ od s = (((zit (stG nM nW vn od) len.toNat (0, sv)).2 (k : Int)).toNat : Int) := by
      intro k hk
      obtain ⟨s, s1, s2, s3⟩ := te_ct_nth (P := P) (n := len.toNat) (k := k) (by omega)
      refine ⟨s, s1, s2, s3, ?_⟩
      have h1 := b2 s s1 s2
      rw [s3] at h1
      rw [h1]
      exact (hodn s s1).2
    have hvv : ∀ k, k < m → sx_val len.toNat (zt lt) ((zit (stG nM nW vn od) len.toNat (0, sv)).2 (k : Int)).toNat = true := by
      intro k hk
      obtain ⟨s, s1, s2, s3, s4⟩ := hg k hk
      have : sx_val len.toNat (zt lt) (od (s : Int)).toNat = true := s2
      rw [s4, Int.toNat_natCast] at this
      exact this
    refine ⟨⟨hvv, ?_, ?_⟩, ?_⟩
    · intro k l hk hl e
      obtain ⟨s, s1, s2, s3, s4⟩ := hg k hk
      obtain ⟨r, r1, r2, r3, r4⟩ := hg l hl
      have e' : ((zit (stG nM nW vn od) len.toNat (0, sv)).2 (k : Int)).toNat = ((zit (stG nM nW vn od) len.toNat (0, sv)).2 (l : Int)).toNat := e
      have := i4 s r _ s1 r1 s4 (by rw [e']; exact r4)
      rw [← s3, ← r3, this]
    · intro v hv
      obtain ⟨s, s1, s2⟩ := i1 v (sx_val_in hv)
      have hPs : P s = true := by show sx_val len.toNat (zt lt) (od (s : Int)).toNat = true; rw [s2, Int.toNat_natCast]; exact hv
      have h2 := te_ct_lt (P := P) s1 hPs
      refine ⟨te_ct P s, by omega, ?_⟩
      show ((zit (stG nM nW vn od) len.toNat (0, sv)).2 ((te_ct P s : Nat) : Int)).toNat = v
      rw [b2 s s1 hPs, s2, Int.toNat_natCast]
    · intro k l hkl hl
      obtain ⟨s, s1, s2, s3, s4⟩ := hg k (by omega)
      obtain ⟨r, r1, r2, r3, r4⟩ := hg l hl
      have hsr : s < r := by
        rcases Nat.lt_or_ge s r with q | q
        · exact q
        · have := te_ct_mono P q; omega
      have hk1 := hvv k (by omega)
      have hl1 := hvv l hl
      have hne : ((zit (stG nM nW vn od) len.toNat (0, sv)).2 (k : Int)).toNat ≠ ((zit (stG nM nW vn od) len.toNat (0, sv)).2 (l : Int)).toNat := by
        intro e
        have := i4 s r _ s1 r1 s4 (by rw [e]; exact r4)
        omega
      rcases sx_lt_tot (t := zt lt) (Nat.le_of_lt (sx_val_in hk1)) (Nat.le_of_lt (sx_val_in hl1)) hne with q | q
      · exact Or.inl q
      · right
        refine Classical.byContradiction fun hn => ?_
        have := ipI_al hS I r1 s1 r4 s4 q (fun z => hn (sAl_symm z))
        omega
/-- areAlike -/
theorem zal_sAl (hl : 0 ≤ len) (hlp : ∀ i, 0 ≤ i → i < len → 0 ≤ lt i) {nM nV : Nat} (hM : len ≤ (nM : Int)) (E : zEn len sg lt rs vl vn vc ff rf) {m : Nat} (hm : vc = m) (hV : (m : Int) ≤ nV) {x y : Nat} (hx : sx_val len.toNat (zt lt) x = true) (hy : sx_val len.toNat (zt lt) y = true) (hne : x ≠ y) : zal nM nV len vc lt vn vl x y = true ↔ sAl len.toNat (zt lt) x y := by
  obtain ⟨va, vb, vd, ve⟩ := zEn_V2 E hm
  -- the steps to the next valley
  have st : ∀ z : Nat, sx_val len.toNat (zt lt) z = true → (∃ k : Nat, 1 ≤ k ∧ zst nM nV len vc vn vl z = k ∧ sx_val len.toNat (zt lt) (z + k) = true ∧ ∀ j, 0 < j → j < k → sx_val len.toNat (zt lt) (z + j) = false) ∨ (zst nM nV len vc vn vl z = len - z ∧ ∀ j, z < j → sx_val len.toNat (zt lt) j = false) := by
    intro z hz
    have hzn := sx_val_in hz
    obtain ⟨c1, c2⟩ := vd z hz
    have e1 : zat nM vn z = (te_ct (sx_val len.toNat (zt lt)) z : Nat) := by
      rw [zat_in (by omega) (by omega), E.2.2.1 z hzn, if_pos hz]
    have hno : ∀ j, z < j → te_ct (sx_val len.toNat (zt lt)) j ≤ te_ct (sx_val len.toNat (zt lt)) z + 1 → (∀ j', z < j' → sx_val len.toNat (zt lt) j' = true → te_ct (sx_val len.toNat (zt lt)) j' = te_ct (sx_val len.toNat (zt lt)) z + 1 → j ≤ j') → True := fun _ _ _ _ => trivial
    unfold zst
    rw [e1]
    by_cases q : ((te_ct (sx_val len.toNat (zt lt)) z : Nat) : Int) + 1 < vc
    · left
      rw [if_pos q]
      have hk : te_ct (sx_val len.toNat (zt lt)) z + 1 < m := by omega
      have f1 := va _ hk
      have f2 := ve _ hk
      have f3 := vb _ _ (Nat.lt_succ_self (te_ct (sx_val len.toNat (zt lt)) z)) hk
      rw [c2] at f3
      obtain ⟨w, w1, w2, w3⟩ := zEn_V E (te_ct (sx_val len.toNat (zt lt)) z + 1) (by have := E.2.1; omega)
      rw [w1, Int.toNat_natCast] at f1 f2 f3
      refine ⟨w - z, by omega, ?_, by rw [show z + (w - z) = w by omega]; exact w2, ?_⟩
      · rw [show ((te_ct (sx_val len.toNat (zt lt)) z : Nat) : Int) + 1 = ((te_ct (sx_val len.toNat (zt lt)) z + 1 : Nat) : Int) by omega, zat_in (by omega) (by omega), w1]; omega
      · intro j j0 j1
        cases r : sx_val len.toNat (zt lt) (z + j) with
        | false => rfl
        | true =>
          have g1 := te_ct_lt (P := sx_val len.toNat (zt lt)) (show z < z + j by omega) hz
          have g2 := te_ct_lt (P := sx_val len.toNat (zt lt)) (show z + j < w by omega) r
          omega
    · right
      rw [if_neg q]
      refine ⟨rfl, fun j hj => ?_⟩
      cases r : sx_val len.toNat (zt lt) j with
      | false => rfl
      | true =>
        have g1 := te_ct_lt (P := sx_val len.toNat (zt lt)) hj hz
        have g2 := (vd j r).1
        omega
  have le : ∀ z j : Nat, zla len lt ((z : Int) + (j : Int)) = sx_le len.toNat (zt lt) (z + j) := by
    intro z j
    rw [zla_le hlp (by omega), show ((z : Int) + (j : Int)).toNat = z + j by omega]; rfl
  have hxn := sx_val_in hx
  have hyn := sx_val_in hy
  rw [zal_iff]
  constructor
  · rintro ⟨h1, h2⟩
    rcases st x hx with ⟨k, k1, k2, k3, k4⟩ | ⟨k2, k3⟩
    · rcases st y hy with ⟨k', k1', k2', k3', k4'⟩ | ⟨k2', k3'⟩
      · have : k = k' := by omega
        subst this
        refine ⟨k, k1, fun j hj => ?_, k3, k3', fun j j0 j1 => ⟨k4 j j0 j1, k4' j j0 j1⟩⟩
        rw [← le, ← le]; exact h2 j (by omega) (by omega)
      · have := h2 k (by omega) (by omega)
        rw [le, le, sx_le_lt (sx_val_in k3), sx_le_ge (by omega)] at this
        omega
    · rcases st y hy with ⟨k', k1', k2', k3', k4'⟩ | ⟨k2', k3'⟩
      · have := h2 k' (by omega) (by omega)
        rw [le, le, sx_le_lt (sx_val_in k3'), sx_le_ge (by omega)] at this
        omega
      · omega
  · rintro ⟨k, a, b, c, d, e⟩
    have hk : ∀ z : Nat, sx_val len.toNat (zt lt) z = true → sx_val len.toNat (zt lt) (z + k) = true → (∀ j, 0 < j → j < k → sx_val len.toNat (zt lt) (z + j) = false) → zst nM nV len vc vn vl z = k := by
      intro z hz h1 h2
      rcases st z hz with ⟨k', k1', k2', k3', k4'⟩ | ⟨k2', k3'⟩
      · have : k' = k := by
          rcases Nat.lt_trichotomy k' k with l | l | l
          · have := h2 k' (by omega) l; rw [k3'] at this; cases this
          · exact l
          · have := k4' k (by omega) l; rw [h1] at this; cases this
        rw [k2', this]
      · rw [k3' (z + k) (by omega)] at h1; cases h1
    have s1 := hk x hx c (fun j h1 h2 => (e j h1 h2).1)
    have s2 := hk y hy d (fun j h1 h2 => (e j h1 h2).2)
    refine ⟨by rw [s1, s2], fun i i0 i1 => ?_⟩
    rw [s1] at i1
    have := b i.toNat (by omega)
    rw [← le, ← le, Int.toNat_of_nonneg i0] at this
    exact this
/-- nameValleys -/
theorem nam_all (hl : 0 ≤ len ∧ len ≤ 1000000) (hlp : ∀ i, 0 ≤ i → i < len → 0 ≤ lt i) {nM nV nW nP : Nat} (hM : len ≤ (nM : Int)) (E : zEn len sg lt rs vl vn vc ff rf) {m : Nat} (hm : vc = m) (hV : (m : Int) ≤ nV) (hW : (m : Int) ≤ nW) (hP : (m : Int) ≤ nP) {SV : Nat → Nat} {sv nm : Int → Int} (hsv : ∀ k : Nat, k < m → sv k = (SV k : Int)) (hPo : sPo len.toNat (zt lt) SV m) (hnm : zS nm) :
    zS (zit (stN nM nV nW nP len vc lt vn vl sv) m (0, -1, nm)).2.2 ∧ 0 ≤ (zit (stN nM nV nW nP len vc lt vn vl sv) m (0, -1, nm)).1 ∧ (zit (stN nM nV nW nP len vc lt vn vl sv) m (0, -1, nm)).1 ≤ m ∧ (1 ≤ m → 1 ≤ (zit (stN nM nV nW nP len vc lt vn vl sv) m (0, -1, nm)).1) ∧
    (∀ j : Nat, j < m → 0 ≤ (zit (stN nM nV nW nP len vc lt vn vl sv) m (0, -1, nm)).2.2 j ∧ (zit (stN nM nV nW nP len vc lt vn vl sv) m (0, -1, nm)).2.2 j < (zit (stN nM nV nW nP len vc lt vn vl sv) m (0, -1, nm)).1) ∧
    (∀ j j' : Nat, j < m → j' < m → sx_lt m (zt (zit (stN nM nV nW nP len vc lt vn vl sv) m (0, -1, nm)).2.2) j j' → sx_lt len.toNat (zt lt) (vl (j : Nat)).toNat (vl (j' : Nat)).toNat) ∧
    ((zit (stN nM nV nW nP len vc lt vn vl sv) m (0, -1, nm)).1 = m → ∀ k l, k < l → l < m → sx_lt len.toNat (zt lt) (SV k) (SV l)) := by
  obtain ⟨va, vb, vd, ve⟩ := zEn_V2 E hm
  obtain ⟨⟨p1, p2, p3⟩, p4⟩ := id hPo
  have hml : (m : Int) ≤ len := by
    have h1 := E.2.1
    have h2 := te_ct_le (sx_val len.toNat (zt lt)) len.toNat
    omega
  let c : Nat → Nat := fun l => ((zit (stN nM nV nW nP len vc lt vn vl sv) (l + 1) (0, -1, nm)).1 - 1).toNat
  have hvn : ∀ k, k < m → zat nM vn (SV k : Int) = (te_ct (sx_val len.toNat (zt lt)) (SV k) : Nat) := by
    intro k hk
    have := sx_val_in (p1 k hk)
    rw [zat_in (by omega) (by omega), E.2.2.1 (SV k) this, if_pos (p1 k hk)]
  have hsz : ∀ k : Nat, k < m → zat nW sv k = (SV k : Int) := by
    intro k hk
    rw [zat_in (by omega) (by omega), hsv k hk]
  have hidx : ∀ k, k < m → te_ct (sx_val len.toNat (zt lt)) (SV k) < m := fun k hk => (vd _ (p1 k hk)).1
  have inv : ∀ k : Nat, k ≤ m → 0 ≤ (zit (stN nM nV nW nP len vc lt vn vl sv) k (0, -1, nm)).1 ∧ (zit (stN nM nV nW nP len vc lt vn vl sv) k (0, -1, nm)).1 ≤ k ∧ (1 ≤ k → 1 ≤ (zit (stN nM nV nW nP len vc lt vn vl sv) k (0, -1, nm)).1 ∧ (zit (stN nM nV nW nP len vc lt vn vl sv) k (0, -1, nm)).2.1 = (SV (k - 1) : Int)) ∧
      (∀ l, l < k → (zit (stN nM nV nW nP len vc lt vn vl sv) k (0, -1, nm)).2.2 (te_ct (sx_val len.toNat (zt lt)) (SV l) : Nat) = (c l : Int)) ∧ zS (zit (stN nM nV nW nP len vc lt vn vl sv) k (0, -1, nm)).2.2 ∧
      (∀ i, i + 1 < k → (sAl len.toNat (zt lt) (SV i) (SV (i + 1)) → c (i + 1) = c i) ∧ (¬ sAl len.toNat (zt lt) (SV i) (SV (i + 1)) → c (i + 1) = c i + 1)) := by
    intro k
    induction k with
    | zero => intro _; exact ⟨by show (0:Int) ≤ 0; omega, by show (0:Int) ≤ 0; omega, fun h => absurd h (by omega), fun l h => absurd h (by omega), hnm, fun i h => absurd h (by omega)⟩
    | succ k ih =>
      intro hk
      obtain ⟨a1, a2, a3, a4, a5, a6⟩ := ih (by omega)
      have hck : (c k : Int) = (zit (stN nM nV nW nP len vc lt vn vl sv) (k + 1) (0, -1, nm)).1 - 1 ∨ (zit (stN nM nV nW nP len vc lt vn vl sv) (k + 1) (0, -1, nm)).1 < 1 := by
        show ((((zit (stN nM nV nW nP len vc lt vn vl sv) (k + 1) (0, -1, nm)).1 - 1).toNat : Nat) : Int) = _ ∨ _
        omega
      have hcp : 1 ≤ k → (c (k - 1) : Int) = (zit (stN nM nV nW nP len vc lt vn vl sv) k (0, -1, nm)).1 - 1 := by
        intro h1
        have := (a3 h1).1
        show ((((zit (stN nM nV nW nP len vc lt vn vl sv) (k - 1 + 1) (0, -1, nm)).1 - 1).toNat : Nat) : Int) = _
        rw [show k - 1 + 1 = k by omega]; omega
      rw [zit] at hck ⊢
      generalize zit (stN nM nV nW nP len vc lt vn vl sv) k (0, -1, nm) = q at a1 a2 a3 a4 a5 hck hcp
      have e1 := hsz k (by omega)
      have e2 := hvn k (by omega)
      have e3 := hidx k (by omega)
      have hold : ∀ (l : Nat), l < k → te_ct (sx_val len.toNat (zt lt)) (SV l) ≠ te_ct (sx_val len.toNat (zt lt)) (SV k) := by
        intro l hlk e
        have := p2 l k (by omega) (by omega) (te_ct_one (p1 l (by omega)) (p1 k (by omega)) e)
        omega
      unfold stN at hck ⊢
      by_cases z : (k : Int) ≠ 0 ∧ zal nM nV len vc lt vn vl q.2.1 (zat nW sv k) = true
      · rw [if_pos z] at hck ⊢
        have hk1 : 1 ≤ k := by omega
        obtain ⟨b1, b2⟩ := a3 hk1
        have hc1 : (c k : Int) = q.1 - 1 := by
          rcases hck with h | h
          · exact h
          · have : q.1 < 1 := h
            omega
        have hal : sAl len.toNat (zt lt) (SV (k - 1)) (SV k) := by
          have z2 := z.2
          rw [b2, e1] at z2
          exact (zal_sAl hl.1 hlp hM E hm hV (p1 _ (by omega)) (p1 _ (by omega)) (fun e => by have := p2 _ _ (by omega) (by omega) e; omega)).mp z2
        refine ⟨a1, by show q.1 ≤ ((k + 1 : Nat) : Int); omega, fun _ => ⟨b1, by show zat nW sv k = _; rw [e1]; rfl⟩, ?_, ?_, ?_⟩
        · intro l hlk
          show zput nP q.2.2 (zat nM vn (zat nW sv k)) (q.1 - 1) _ = _
          rw [e1, e2, zput_in (by omega) (by omega)]
          by_cases e : l = k
          · rw [e, zup_eq, hc1]
          · rw [zup_ne (fun w => hold l (by omega) (by omega))]; exact a4 l (by omega)
        · exact zS_put a5 (by omega)
        · intro i hi
          rcases Nat.lt_or_ge (i + 1) k with l | l
          · exact a6 i l
          · have hik : i = k - 1 := by omega
            subst hik
            have h3 := hcp hk1
            rw [show k - 1 + 1 = k by omega]
            exact ⟨fun _ => by omega, fun w => absurd hal w⟩
      · rw [if_neg z] at hck ⊢
        have hc1 : (c k : Int) = q.1 + 1 - 1 := by
          rcases hck with h | h
          · exact h
          · have : q.1 + 1 < 1 := h
            omega
        refine ⟨by show 0 ≤ q.1 + 1; omega, by show q.1 + 1 ≤ ((k + 1 : Nat) : Int); omega, fun _ => ⟨by show 1 ≤ q.1 + 1; omega, by show zat nW sv k = _; rw [e1]; rfl⟩, ?_, ?_, ?_⟩
        · intro l hlk
          show zput nP q.2.2 (zat nM vn (zat nW sv k)) (q.1 + 1 - 1) _ = _
          rw [e1, e2, zput_in (by omega) (by omega)]
          by_cases e : l = k
          · rw [e, zup_eq, hc1]
          · rw [zup_ne (fun w => hold l (by omega) (by omega))]; exact a4 l (by omega)
        · exact zS_put a5 (by omega)
        · intro i hi
          rcases Nat.lt_or_ge (i + 1) k with l | l
          · exact a6 i l
          · have hik : i = k - 1 := by omega
            subst hik
            have hk1 : 1 ≤ k := by omega
            obtain ⟨b1, b2⟩ := a3 hk1
            have h3 := hcp hk1
            rw [show k - 1 + 1 = k by omega]
            refine ⟨fun w => ?_, fun _ => by omega⟩
            refine absurd ⟨by omega, ?_⟩ z
            rw [b2, e1]
            exact (zal_sAl hl.1 hlp hM E hm hV (p1 _ (by omega)) (p1 _ (by omega)) (fun e => by have := p2 _ _ (by omega) (by omega) e; omega)).mpr w
  obtain ⟨b1, b2, b3, b4, b5, b6⟩ := inv m (Nat.le_refl m)
  have c0 : c 0 = 0 := by
    show ((zit (stN nM nV nW nP len vc lt vn vl sv) (0 + 1) (0, -1, nm)).1 - 1).toNat = 0
    rw [zit, zit, stN, if_neg (by omega)]; rfl
  have hN : sNm len.toNat (zt lt) SV m c := ⟨c0, b6⟩
  have hnj : ∀ i j, i < m → j < m → SV i = (vl (j : Nat)).toNat → (zit (stN nM nV nW nP len vc lt vn vl sv) m (0, -1, nm)).2.2 j = (c i : Int) := by
    intro i j hi hj e
    have := b4 i hi
    rw [e, ve j hj] at this
    exact this
  have hcl : ∀ i, i < m → (c i : Int) < (zit (stN nM nV nW nP len vc lt vn vl sv) m (0, -1, nm)).1 := by
    intro i hi
    have h1 := sNm_up hN i (m - 1) (by omega) (by omega)
    have h2 : (c (m - 1) : Int) = (zit (stN nM nV nW nP len vc lt vn vl sv) m (0, -1, nm)).1 - 1 := by
      show ((((zit (stN nM nV nW nP len vc lt vn vl sv) (m - 1 + 1) (0, -1, nm)).1 - 1).toNat : Nat) : Int) = _
      have := (b3 (by omega)).1
      rw [show m - 1 + 1 = m by omega]; omega
    omega
  refine ⟨b5, b1, b2, fun h => (b3 h).1, ?_, ?_, ?_⟩
  · intro j hj
    obtain ⟨i, i1, i2⟩ := p3 _ (va j hj)
    rw [hnj i j i1 hj i2]
    have := hcl i i1
    omega
  · refine sRed (V := fun j => (vl (j : Nat)).toNat) va vb (fun v hv => ⟨_, (vd v hv).1, (vd v hv).2⟩) hPo hN ?_
    intro i j hi hj e
    show ((zit (stN nM nV nW nP len vc lt vn vl sv) m (0, -1, nm)).2.2 (j : Int)).toNat = c i
    rw [hnj i j hi hj e, Int.toNat_natCast]
  · intro hall k l hkl hlm
    refine sNm_lt hPo hN hkl hlm ?_
    -- each is one more than the one before
    have hci : ∀ i, i < m → c i ≤ i := by
      intro i
      induction i with
      | zero => intro _; rw [c0]; exact Nat.le_refl 0
      | succ i ih =>
        intro hi
        have := ih (by omega)
        by_cases q : sAl len.toNat (zt lt) (SV i) (SV (i + 1))
        · rw [(b6 i hi).1 q]; omega
        · rw [(b6 i hi).2 q]; omega
    have hdn : ∀ d i, i + d = m - 1 → m - 1 - d ≤ c i := by
      intro d
      induction d with
      | zero =>
        intro i e
        have h2 : (c (m - 1) : Int) = (zit (stN nM nV nW nP len vc lt vn vl sv) m (0, -1, nm)).1 - 1 := by
          show ((((zit (stN nM nV nW nP len vc lt vn vl sv) (m - 1 + 1) (0, -1, nm)).1 - 1).toNat : Nat) : Int) = _
          have := (b3 (by omega)).1
          rw [show m - 1 + 1 = m by omega]; omega
        rw [show i = m - 1 by omega]; omega
      | succ d ih =>
        intro i e
        have h1 := ih (i + 1) (by omega)
        by_cases q : sAl len.toNat (zt lt) (SV i) (SV (i + 1))
        · rw [(b6 i (by omega)).1 q] at h1; omega
        · rw [(b6 i (by omega)).2 q] at h1; omega
    have h1 := hci k (by omega)
    have h2 := hdn (m - 1 - l) l (by omega)
    omega
end
