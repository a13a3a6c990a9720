/-! the order of the ends, and a merge of two sorted stretches -/
theorem zcm_spec {sz : Int} {T : Int → Int} {a b : Int} (ha : 0 ≤ a) (hb : 0 ≤ b) (h1 : a ≤ sz) (h2 : b ≤ sz) : 0 ≤ zcm sz T a b 0 ∧ a + zcm sz T a b 0 ≤ sz ∧ b + zcm sz T a b 0 ≤ sz ∧ (∀ k, 0 ≤ k → k < zcm sz T a b 0 → T (a + k) = T (b + k)) ∧ (a + zcm sz T a b 0 = sz ∨ b + zcm sz T a b 0 = sz ∨ T (a + zcm sz T a b 0) ≠ T (b + zcm sz T a b 0)) := by
  have hle := zcm_le (len := sz) (T := T) (a := a) (b := b) (k := 0) (by omega) (by omega)
  refine ⟨hle.1, hle.2.1, hle.2.2, ?_⟩
  have key : ∀ (f : Nat) (k : Int), (∀ j, k ≤ j → j < zcf T a b f k → T (a + j) = T (b + j)) ∧ (zcf T a b f k = k + f ∨ T (a + zcf T a b f k) ≠ T (b + zcf T a b f k)) := by
    intro f
    induction f with
    | zero => intro k; rw [zcf]; exact ⟨fun j h1 h2 => absurd h2 (by omega), Or.inl (by omega)⟩
    | succ f ih =>
      intro k
      rw [zcf]
      by_cases e : T (a + k) = T (b + k)
      · rw [if_pos e]
        obtain ⟨i1, i2⟩ := ih (k + 1)
        refine ⟨fun j h1 h2 => ?_, ?_⟩
        · rcases Int.lt_or_eq_of_le h1 with q | q
          · exact i1 j (by omega) h2
          · rw [← q]; exact e
        · rcases i2 with i2 | i2
          · exact Or.inl (by omega)
          · exact Or.inr i2
      · rw [if_neg e]
        exact ⟨fun j h1 h2 => absurd h2 (by omega), Or.inr e⟩
  obtain ⟨k1, k2⟩ := key (sz - zmax a b - 0).toNat 0
  refine ⟨k1, ?_⟩
  have hm := zmax_or (a := a) (b := b)
  have hg := zmax_ge (a := a) (b := b)
  unfold zcm
  rcases k2 with k2 | k2
  · rw [k2]; omega
  · exact Or.inr (Or.inr k2)
theorem zbf_iff {sz : Int} {T : Int → Int} (hT : ∀ i, 0 ≤ i → i < sz → 0 ≤ T i) {a b : Int} (ha : 0 ≤ a) (hb : 0 ≤ b) (h1 : a ≤ sz) (h2 : b ≤ sz) : zbf sz T a b = true ↔ sx_lt sz.toNat (fun j => (T (j : Int)).toNat) a.toNat b.toNat := by
  obtain ⟨s0, s1, s2, s3, s4⟩ := zcm_spec (sz := sz) (T := T) ha hb h1 h2
  generalize hk : zcm sz T a b 0 = k at s0 s1 s2 s3 s4
  have le : ∀ x : Int, 0 ≤ x → ∀ j : Int, 0 ≤ j → sx_le sz.toNat (fun j => (T (j : Int)).toNat) (x.toNat + j.toNat) = zla sz T (x + j) := by
    intro x hx j hj
    rw [zla_le hT (by omega), show (x + j).toNat = x.toNat + j.toNat by omega]
  have pre : ∀ m : Nat, m < k.toNat → sx_le sz.toNat (fun j => (T (j : Int)).toNat) (a.toNat + m) = sx_le sz.toNat (fun j => (T (j : Int)).toNat) (b.toNat + m) := by
    intro m hm
    have e1 := le a ha m (by omega)
    have e2 := le b hb m (by omega)
    rw [Int.toNat_natCast] at e1 e2
    rw [e1, e2, zla_in (by omega) (by omega), zla_in (by omega) (by omega)]
    exact s3 m (by omega) (by omega)
  rw [sx_lt_sk k.toNat pre]
  have ea := le a ha k s0
  have eb := le b hb k s0
  unfold zbf
  rw [hk]
  by_cases q1 : a + k = sz
  · rw [if_pos q1, decide_eq_true_iff]
    constructor
    · intro q2
      refine sx_lt_0 ?_
      rw [ea, eb, zla_out (by omega), zla_in (by omega) q2]
      have := hT (b + k) (by omega) q2
      omega
    · intro h
      rcases Int.lt_or_eq_of_le s2 with q2 | q2
      · exact q2
      · have : a.toNat + k.toNat = b.toNat + k.toNat := by omega
        rw [this] at h
        exact absurd h sx_lt_ir
  · rw [if_neg q1, Bool.and_eq_true, decide_eq_true_iff, decide_eq_true_iff]
    have hta := hT (a + k) (by omega) (by omega)
    constructor
    · rintro ⟨q2, q3⟩
      refine sx_lt_0 ?_
      rw [ea, eb, zla_in (by omega) (by omega), zla_in (by omega) q2]
      exact q3
    · intro h
      have h3 := sx_lt_head h
      rw [ea, eb, zla_in (by omega) (by omega)] at h3
      have q2 : b + k < sz := by
        rcases Int.lt_or_eq_of_le s2 with q2 | q2
        · exact q2
        · rw [zla_out (by omega)] at h3; omega
      rw [zla_in (by omega) q2] at h3
      refine ⟨q2, ?_⟩
      have : T (a + k) ≠ T (b + k) := by
        rcases s4 with q | q | q
        · exact absurd q q1
        · omega
        · exact q
      omega
/-- a strict order on the numbers 0 .. sz less 1 -/
def sOrd (sz : Int) (f : Int → Int → Bool) : Prop := (∀ a, 0 ≤ a → a < sz → f a a = false) ∧ (∀ a b, 0 ≤ a → a < sz → 0 ≤ b → b < sz → a ≠ b → f a b = true ∨ f b a = true) ∧ (∀ a b c, 0 ≤ a → a < sz → 0 ≤ b → b < sz → 0 ≤ c → c < sz → f a b = true → f b c = true → f a c = true)
theorem zbf_ord {sz : Int} {T : Int → Int} (hT : ∀ i, 0 ≤ i → i < sz → 0 ≤ T i) : sOrd sz (zbf sz T) := by
  refine ⟨?_, ?_, ?_⟩
  · intro a h0 h1
    cases q : zbf sz T a a with
    | false => rfl
    | true => exact absurd ((zbf_iff hT h0 h0 (by omega) (by omega)).mp q) sx_lt_ir
  · intro a b a0 a1 b0 b1 hne
    rw [zbf_iff hT a0 b0 (by omega) (by omega), zbf_iff hT b0 a0 (by omega) (by omega)]
    exact sx_lt_tot (by omega) (by omega) (by omega)
  · intro a b c a0 a1 b0 b1 c0 c1 h1 h2
    rw [zbf_iff hT a0 b0 (by omega) (by omega)] at h1
    rw [zbf_iff hT b0 c0 (by omega) (by omega)] at h2
    rw [zbf_iff hT a0 c0 (by omega) (by omega)]
    exact sx_lt_tr h1 h2
def sSur (sz : Int) (g : Int → Int) : Prop := (∀ i, 0 ≤ i → i < sz → 0 ≤ g i ∧ g i < sz) ∧ ∀ v, 0 ≤ v → v < sz → ∃ x, 0 ≤ x ∧ x < sz ∧ g x = v
theorem sSur_inj {sz : Int} {g : Int → Int} (h : sSur sz g) {x y : Int} (x0 : 0 ≤ x) (x1 : x < sz) (y0 : 0 ≤ y) (y1 : y < sz) (e : g x = g y) : x = y := by
  refine Classical.byContradiction fun hne => ?_
  have hc := te_ph_cov (f := fun q : Nat => (g (if (q : Int) = y then sz - 1 else q)).toNat) (a := 0) (b := (sz - 1).toNat) (n := sz.toNat) (P := fun _ => true) (by
    intro v hv _
    obtain ⟨z, z0, z1, ez⟩ := h.2 v (by omega) (by omega)
    by_cases q1 : z = y
    · by_cases q2 : x = sz - 1
      · refine ⟨y.toNat, by omega, by omega, ?_⟩
        show (g (if (y.toNat : Int) = y then sz - 1 else y.toNat)).toNat = v
        rw [if_pos (by omega), ← q2, e, ← q1, ez]; omega
      · refine ⟨x.toNat, by omega, by omega, ?_⟩
        show (g (if (x.toNat : Int) = y then sz - 1 else x.toNat)).toNat = v
        rw [if_neg (by omega), Int.toNat_of_nonneg x0, e, ← q1, ez]; omega
    · by_cases q2 : z = sz - 1
      · refine ⟨y.toNat, by omega, by omega, ?_⟩
        show (g (if (y.toNat : Int) = y then sz - 1 else y.toNat)).toNat = v
        rw [if_pos (by omega), ← q2, ez]; omega
      · refine ⟨z.toNat, by omega, by omega, ?_⟩
        show (g (if (z.toNat : Int) = y then sz - 1 else z.toNat)).toNat = v
        rw [if_neg (by omega), Int.toNat_of_nonneg z0, ez]; omega)
  have ht : ∀ n, te_ct (fun _ => true) n = n := by
    intro n
    induction n with
    | zero => rfl
    | succ n ih => rw [te_ct, ih, if_pos rfl]
  rw [ht] at hc
  omega
def sSrt (f : Int → Int → Bool) (g : Int → Int) (lo hi : Int) : Prop := ∀ x y, lo ≤ x → x < y → y < hi → f (g x) (g y) = true
/-- the numbers 0 .. sz less 1 in their order: there is one such list -/
def sSa (sz : Int) (f : Int → Int → Bool) (g : Int → Int) : Prop := sSur sz g ∧ sSrt f g 0 sz
theorem sSa_uniq {sz : Int} {f : Int → Int → Bool} (ho : sOrd sz f) {g g' : Int → Int} (h : sSa sz f g) (h' : sSa sz f g') : ∀ x, 0 ≤ x → x < sz → g x = g' x := by
  have key : ∀ n : Nat, ∀ x : Int, 0 ≤ x → x < n → x < sz → g x = g' x := by
    intro n
    induction n with
    | zero => intro x h0 h1; omega
    | succ n ih =>
      intro x h0 h1 h2
      by_cases q : x < n
      · exact ih x h0 q h2
      · obtain ⟨y, y0, y1, ey⟩ := h'.1.2 (g x) (h.1.1 x h0 h2).1 (h.1.1 x h0 h2).2
        obtain ⟨z, z0, z1, ez⟩ := h.1.2 (g' x) (h'.1.1 x h0 h2).1 (h'.1.1 x h0 h2).2
        rcases Int.lt_trichotomy y x with l | l | l
        · have := ih y y0 (by omega) y1
          have := sSur_inj h.1 h0 h2 y0 y1 (by rw [this, ey])
          omega
        · rw [← ey, l]
        · have fy := h'.2 x y h0 l y1
          rw [ey] at fy
          rcases Int.lt_trichotomy z x with m | m | m
          · have := ih z z0 (by omega) z1
            have := sSur_inj h'.1 h0 h2 z0 z1 (by rw [← this, ez])
            omega
          · rw [← ez, m]
          · have fz := h.2 x z h0 m z1
            rw [ez] at fz
            have gx := h.1.1 x h0 h2
            have gx' := h'.1.1 x h0 h2
            have := ho.2.2 (g x) (g' x) (g x) gx.1 gx.2 gx'.1 gx'.2 gx.1 gx.2 fz fy
            rw [ho.1 (g x) gx.1 gx.2] at this
            cases this
  intro x h0 h1
  exact key (x.toNat + 1) x h0 (by omega) h1
/-- in the middle of a merge -/
def mgI (f : Int → Int → Bool) (od ot : Int → Int) (fr md en i j k : Int) : Prop :=
  fr ≤ i ∧ i ≤ md ∧ md ≤ j ∧ j ≤ en ∧ k = i + j - md ∧ sSrt f ot fr k ∧
  (∀ x y, fr ≤ x → x < k → i ≤ y → y < md → f (ot x) (od y) = true) ∧ (∀ x y, fr ≤ x → x < k → j ≤ y → y < en → f (ot x) (od y) = true) ∧
  (∀ y, (fr ≤ y ∧ y < i) ∨ (md ≤ y ∧ y < j) → ∃ x, fr ≤ x ∧ x < k ∧ ot x = od y) ∧ (∀ x, fr ≤ x → x < k → ∃ y, fr ≤ y ∧ y < en ∧ ot x = od y)
theorem mg_0 {f : Int → Int → Bool} {od ot : Int → Int} {fr md en : Int} (h1 : fr ≤ md) (h2 : md ≤ en) : mgI f od ot fr md en fr md fr :=
  ⟨by omega, by omega, by omega, by omega, by omega, fun x y a b c => by omega, fun x y a b => by omega, fun x y a b => by omega, fun y h => by omega, fun x a b => by omega⟩
theorem mg_put {f : Int → Int → Bool} {od ot : Int → Int} {fr md en i j k i' j' s : Int} (I : mgI f od ot fr md en i j k) (hs : fr ≤ s ∧ s < en) (hi : (i' = i + 1 ∧ j' = j ∧ s = i ∧ i < md) ∨ (i' = i ∧ j' = j + 1 ∧ s = j ∧ j < en))
    (h1 : ∀ y, i' ≤ y → y < md → f (od s) (od y) = true) (h2 : ∀ y, j' ≤ y → y < en → f (od s) (od y) = true) (h3 : ∀ x, fr ≤ x → x < k → f (ot x) (od s) = true) : mgI f od (zup ot k (od s)) fr md en i' j' (k + 1) := by
  obtain ⟨a1, a2, a3, a4, a5, a6, a7, a8, a9, a10⟩ := I
  have hn : ∀ x, x ≠ k → zup ot k (od s) x = ot x := fun x h => zup_ne h
  have he : zup ot k (od s) k = od s := zup_eq _ _ _
  refine ⟨by omega, by omega, by omega, by omega, by omega, ?_, ?_, ?_, ?_, ?_⟩
  · intro x y x0 xy yk
    rw [hn x (by omega)]
    by_cases q : y = k
    · rw [q, he]; exact h3 x x0 (by omega)
    · rw [hn y q]; exact a6 x y x0 xy (by omega)
  · intro x y x0 xk y0 y1
    by_cases q : x = k
    · rw [q, he]; exact h1 y y0 y1
    · rw [hn x q]; exact a7 x y x0 (by omega) (by omega) y1
  · intro x y x0 xk y0 y1
    by_cases q : x = k
    · rw [q, he]; exact h2 y y0 y1
    · rw [hn x q]; exact a8 x y x0 (by omega) (by omega) y1
  · intro y hy
    by_cases q : y = s
    · exact ⟨k, by omega, by omega, by rw [he, q]⟩
    · obtain ⟨x, b1, b2, b3⟩ := a9 y (by omega)
      exact ⟨x, b1, by omega, by rw [hn x (by omega)]; exact b3⟩
  · intro x x0 x1
    by_cases q : x = k
    · exact ⟨s, hs.1, hs.2, by rw [q, he]⟩
    · obtain ⟨y, b1, b2, b3⟩ := a10 x x0 (by omega)
      exact ⟨y, b1, b2, by rw [hn x q]; exact b3⟩
section
variable {f : Int → Int → Bool} {od ot : Int → Int} {sz fr md en i j k : Int}
theorem mg_left (ho : sOrd sz f) (hr : ∀ i, 0 ≤ i → i < sz → 0 ≤ od i ∧ od i < sz) (h0 : 0 ≤ fr) (hen : en ≤ sz) (s1 : sSrt f od fr md) (s2 : sSrt f od md en) (I : mgI f od ot fr md en i j k) (hk : k < en) (hi : i < md) (hc : j = en ∨ f (od i) (od j) = true) : mgI f od (zup ot k (od i)) fr md en (i + 1) j (k + 1) := by
  have I2 := I
  obtain ⟨a1, a2, a3, a4, a5, a6, a7, a8, a9, a10⟩ := I2
  refine mg_put I (s := i) (by omega) (Or.inl ⟨rfl, rfl, rfl, hi⟩) (fun y y0 y1 => s1 i y a1 (by omega) y1) ?_ (fun x x0 x1 => a7 x i x0 x1 (by omega) hi)
  intro y y0 y1
  rcases hc with e | e
  · omega
  · by_cases q : y = j
    · rw [q]; exact e
    · have g1 := hr i (by omega) (by omega)
      have g2 := hr j (by omega) (by omega)
      have g3 := hr y (by omega) (by omega)
      exact ho.2.2 _ _ _ g1.1 g1.2 g2.1 g2.2 g3.1 g3.2 e (s2 j y a3 (by omega) y1)
theorem mg_right (ho : sOrd sz f) (hr : sSur sz od) (h0 : 0 ≤ fr) (hen : en ≤ sz) (s1 : sSrt f od fr md) (s2 : sSrt f od md en) (I : mgI f od ot fr md en i j k) (hk : k < en) (hj : j < en) (hc : md ≤ i ∨ f (od i) (od j) = false) : mgI f od (zup ot k (od j)) fr md en i (j + 1) (k + 1) := by
  have I2 := I
  obtain ⟨a1, a2, a3, a4, a5, a6, a7, a8, a9, a10⟩ := I2
  refine mg_put I (s := j) (by omega) (Or.inr ⟨rfl, rfl, rfl, hj⟩) ?_ (fun y y0 y1 => s2 j y a3 (by omega) y1) (fun x x0 x1 => a8 x j x0 x1 (by omega) hj)
  intro y y0 y1
  rcases hc with e | e
  · omega
  · have g1 := hr.1 i (by omega) (by omega)
    have g2 := hr.1 j (by omega) (by omega)
    have g3 := hr.1 y (by omega) (by omega)
    have g4 : f (od j) (od i) = true := by
      rcases ho.2.1 (od i) (od j) g1.1 g1.2 g2.1 g2.2 (fun q => by have := sSur_inj hr (by omega) (by omega) (by omega) (by omega) q; omega) with q | q
      · rw [e] at q; cases q
      · exact q
    by_cases q : y = i
    · rw [q]; exact g4
    · exact ho.2.2 _ _ _ g2.1 g2.2 g1.1 g1.2 g3.1 g3.2 g4 (s1 i y a1 (by omega) y1)
end
/-- sorted in blocks of w -/
def mgB (sz : Int) (f : Int → Int → Bool) (g : Int → Int) (w hi : Int) : Prop := ∀ q x y, q * w ≤ x → 0 ≤ x → x < y → y < q * w + w → y < hi → y < sz → f (g x) (g y) = true
theorem mgB_1 {sz : Int} {f : Int → Int → Bool} {g : Int → Int} {hi : Int} : mgB sz f g 1 hi := by
  intro q x y h1 h0 h2 h3; omega
theorem mgB_all {sz : Int} {f : Int → Int → Bool} {g : Int → Int} {w : Int} (hw : sz ≤ w) (h : mgB sz f g w sz) : sSrt f g 0 sz := by
  intro x y h1 h2 h3
  exact h 0 x y (by omega) h1 h2 (by omega) h3 h3
theorem blk_u {w a b y : Int} (hw : 0 < w) (h1 : a * w ≤ y) (h2 : y < a * w + w) (h3 : b * w ≤ y) (h4 : y < b * w + w) : a = b := by
  rcases Int.lt_trichotomy a b with l | l | l
  · have : (a + 1) * w ≤ b * w := Int.mul_le_mul_of_nonneg_right (by omega) (by omega)
    rw [Int.add_mul, Int.one_mul] at this; omega
  · exact l
  · have : (b + 1) * w ≤ a * w := Int.mul_le_mul_of_nonneg_right (by omega) (by omega)
    rw [Int.add_mul, Int.one_mul] at this; omega
theorem mgB_lo {sz : Int} {f : Int → Int → Bool} {g : Int → Int} {w q fr md : Int} (h : mgB sz f g w sz) (hfr : fr = q * (2 * w)) (h0 : 0 ≤ fr) (hmd : md ≤ fr + w) (hs : md ≤ sz) : sSrt f g fr md := by
  intro x y h1 h2 h3
  have e : (2 * q) * w = fr := by rw [hfr, Int.mul_comm 2 q, Int.mul_assoc]
  exact h (2 * q) x y (by omega) (by omega) h2 (by omega) (by omega) (by omega)
theorem mgB_hi {sz : Int} {f : Int → Int → Bool} {g : Int → Int} {w q fr md en : Int} (h : mgB sz f g w sz) (hfr : fr = q * (2 * w)) (h0 : 0 ≤ fr) (hw : 0 < w) (hmd : md = fr + w ∨ md = sz) (hen : en ≤ fr + 2 * w) (hs : en ≤ sz) (hme : fr ≤ md) : sSrt f g md en := by
  intro x y h1 h2 h3
  have e : (2 * q) * w = fr := by rw [hfr, Int.mul_comm 2 q, Int.mul_assoc]
  have e2 : (2 * q + 1) * w = fr + w := by rw [Int.add_mul, e, Int.one_mul]
  exact h (2 * q + 1) x y (by omega) (by omega) h2 (by omega) (by omega) (by omega)
/-- blocks merged so far -/
def mgC (sz : Int) (f : Int → Int → Bool) (od ot : Int → Int) (w fr : Int) : Prop := mgB sz f ot (2 * w) fr ∧ (∀ y, 0 ≤ y → y < fr → y < sz → ∃ x, 0 ≤ x ∧ x < fr ∧ x < sz ∧ ot x = od y) ∧ (∀ x, 0 ≤ x → x < fr → x < sz → 0 ≤ ot x ∧ ot x < sz)
theorem mgC_0 {sz : Int} {f : Int → Int → Bool} {od ot : Int → Int} {w : Int} : mgC sz f od ot w 0 :=
  ⟨fun q x y h1 h0 h2 h3 h4 => by omega, fun y h0 h1 => by omega, fun x h0 h1 => by omega⟩
theorem mgC_s {sz : Int} {f : Int → Int → Bool} {od ot0 ot : Int → Int} {w fr md en i j k q : Int} (h : mgC sz f od ot0 w fr) (hfr : fr = q * (2 * w)) (h0 : 0 ≤ fr) (hw : 0 < w) (hr : ∀ i, 0 ≤ i → i < sz → 0 ≤ od i ∧ od i < sz) (he : en = fr + 2 * w ∨ (en = sz ∧ sz ≤ fr + 2 * w)) (hes : en ≤ sz) (I : mgI f od ot fr md en i j k) (hk : en ≤ k) (hsame : ∀ x, 0 ≤ x → x < fr → ot x = ot0 x) : mgC sz f od ot w (fr + 2 * w) := by
  obtain ⟨b1, b2, b3⟩ := h
  obtain ⟨a1, a2, a3, a4, a5, a6, a7, a8, a9, a10⟩ := I
  have hfe : fr ≤ en := by omega
  refine ⟨?_, ?_, ?_⟩
  · intro q' x y h1 h0' h2 h3 h4 h5
    by_cases c : y < fr
    · rw [hsame x (by omega) (by omega), hsame y (by omega) c]
      exact b1 q' x y h1 h0' h2 h3 c h5
    · have : q' = q := blk_u (w := 2 * w) (by omega) (y := y) (by omega) h3 (by omega) (by omega)
      subst this
      exact a6 x y (by omega) h2 (by omega)
  · intro y y0 y1 y2
    by_cases c : y < fr
    · obtain ⟨x, c1, c2, c3, c4⟩ := b2 y y0 c y2
      exact ⟨x, c1, by omega, c3, by rw [hsame x c1 c2]; exact c4⟩
    · obtain ⟨x, c1, c2, c3⟩ := a9 y (by omega)
      exact ⟨x, by omega, by omega, by omega, c3⟩
  · intro x x0 x1 x2
    by_cases c : x < fr
    · rw [hsame x x0 c]; exact b3 x x0 c x2
    · obtain ⟨y, c1, c2, c3⟩ := a10 x (by omega) (by omega)
      rw [c3]; exact hr y (by omega) (by omega)
/-- the merged blocks taken over -/
theorem mgC_end {sz : Int} {f : Int → Int → Bool} {od ot od' : Int → Int} {w fr : Int} (h : mgC sz f od ot w fr) (hf : sz ≤ fr) (hs : sSur sz od) (he : ∀ x, 0 ≤ x → x < sz → od' x = ot x) : mgB sz f od' (2 * w) sz ∧ sSur sz od' := by
  obtain ⟨b1, b2, b3⟩ := h
  refine ⟨?_, ?_, ?_⟩
  · intro q x y h1 h0 h2 h3 h4 h5
    rw [he x h0 (by omega), he y (by omega) h5]
    exact b1 q x y h1 h0 h2 h3 (by omega) h5
  · intro x x0 x1
    rw [he x x0 x1]; exact b3 x x0 (by omega) x1
  · intro v v0 v1
    obtain ⟨y, y0, y1, ey⟩ := hs.2 v v0 v1
    obtain ⟨x, x0, -, x2, ex⟩ := b2 y y0 (by omega) y1
    exact ⟨x, x0, x2, by rw [he x x0 x2, ex, ey]⟩
theorem sSur_id {sz : Int} {g : Int → Int} : sSur sz (zfill 0 sz (fun j => j) g) := by
  refine ⟨fun i h0 h1 => by rw [zfill_in h0 h1]; exact ⟨h0, h1⟩, fun v h0 h1 => ⟨v, h0, h1, by rw [zfill_in h0 h1]⟩⟩
