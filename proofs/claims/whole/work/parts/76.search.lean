/-! the pattern: ends before it, ends behind it, ends that begin with it -/
def LTp (len : Int) (T pt : Int → Int) (p : Int) (x : Int) : Prop := ∃ k, 0 ≤ k ∧ k < p ∧ (∀ j, 0 ≤ j → j < k → zla len T (x + j) = pt j) ∧ zla len T (x + k) < pt k
def GTp (len : Int) (T pt : Int → Int) (p : Int) (x : Int) : Prop := ∃ k, 0 ≤ k ∧ k < p ∧ (∀ j, 0 ≤ j → j < k → zla len T (x + j) = pt j) ∧ pt k < zla len T (x + k)
section
variable {len : Int} {T pt : Int → Int} {p : Int}
theorem zcw_spec {x : Int} (x0 : 0 ≤ x) (hp : ∀ i, 0 ≤ i → i < p → 0 ≤ pt i) : ∀ (f : Nat) (i : Int), 0 ≤ i → i + f ≤ p →
    (zcw len T pt x f i = 0 ∧ ∀ k, i ≤ k → k < i + f → zla len T (x + k) = pt k) ∨ (∃ k, i ≤ k ∧ k < i + f ∧ (∀ j, i ≤ j → j < k → zla len T (x + j) = pt j) ∧ ((zla len T (x + k) < pt k ∧ zcw len T pt x f i < 0) ∨ (pt k < zla len T (x + k) ∧ 0 < zcw len T pt x f i))) := by
  intro f
  induction f with
  | zero => intro i h0 h1; left; exact ⟨rfl, fun k a b => by omega⟩
  | succ f ih =>
    intro i h0 h1
    have hpi := hp i h0 (by omega)
    rw [zcw]
    by_cases q : len ≤ x + i
    · rw [if_pos q]
      right
      refine ⟨i, by omega, by omega, fun j a b => by omega, Or.inl ⟨?_, by omega⟩⟩
      rw [zla_out (by omega)]; omega
    · rw [if_neg q]
      have e : zla len T (x + i) = T (x + i) := zla_in (by omega) (by omega)
      by_cases q2 : T (x + i) - pt i = 0
      · rw [if_pos q2]
        rcases ih (i + 1) (by omega) (by omega) with ⟨a, b⟩ | ⟨k, a, b, c, d⟩
        · left
          refine ⟨a, fun k k0 k1 => ?_⟩
          rcases Int.lt_or_eq_of_le k0 with l | l
          · exact b k (by omega) (by omega)
          · rw [← l, e]; omega
        · right
          refine ⟨k, by omega, by omega, fun j j0 j1 => ?_, d⟩
          rcases Int.lt_or_eq_of_le j0 with l | l
          · exact c j (by omega) j1
          · rw [← l, e]; omega
      · rw [if_neg q2]
        right
        refine ⟨i, by omega, by omega, fun j a b => by omega, ?_⟩
        rw [e]
        rcases Int.lt_or_gt_of_ne q2 with l | l
        · exact Or.inl ⟨by omega, l⟩
        · exact Or.inr ⟨by omega, l⟩
theorem zcw_iff {x : Int} (x0 : 0 ≤ x) (p0 : 0 ≤ p) (hp : ∀ i, 0 ≤ i → i < p → 0 ≤ pt i) : (zcw len T pt x p.toNat 0 < 0 ↔ LTp len T pt p x) ∧ (0 < zcw len T pt x p.toNat 0 ↔ GTp len T pt p x) ∧ (zbg p len T pt x = true ↔ ¬ LTp len T pt p x ∧ ¬ GTp len T pt p x) := by
  have h := zcw_spec (len := len) (T := T) x0 hp p.toNat 0 (by omega) (by omega)
  have ex : ∀ k k', (∀ j, 0 ≤ j → j < k → zla len T (x + j) = pt j) → (∀ j, 0 ≤ j → j < k' → zla len T (x + j) = pt j) → 0 ≤ k → 0 ≤ k' → zla len T (x + k) ≠ pt k → zla len T (x + k') ≠ pt k' → k = k' := by
    intro k k' h1 h2 a b c d
    rcases Int.lt_trichotomy k k' with l | l | l
    · exact absurd (h2 k a l) c
    · exact l
    · exact absurd (h1 k' b l) d
  have hb : zbg p len T pt x = true ↔ ∀ k, 0 ≤ k → k < p → zla len T (x + k) = pt k := by
    rw [zbg_iff]
    constructor
    · intro g k k0 k1
      have := g k k0 k1
      rw [zla_in (by omega) this.1]; exact this.2
    · intro g k k0 k1
      have := g k k0 k1
      have hpk := hp k k0 k1
      by_cases q : x + k < len
      · rw [zla_in (by omega) q] at this; exact ⟨q, this⟩
      · rw [zla_out (by omega)] at this; omega
  rcases h with ⟨a, b⟩ | ⟨k, a, b, c, d⟩
  · have hn : ¬ LTp len T pt p x := fun ⟨k, k0, k1, _, k3⟩ => by have := b k k0 (by omega); omega
    have hm : ¬ GTp len T pt p x := fun ⟨k, k0, k1, _, k3⟩ => by have := b k k0 (by omega); omega
    refine ⟨⟨fun z => by omega, fun z => absurd z hn⟩, ⟨fun z => by omega, fun z => absurd z hm⟩, ?_⟩
    rw [hb]
    exact ⟨fun _ => ⟨hn, hm⟩, fun _ k k0 k1 => b k k0 (by omega)⟩
  · rcases d with ⟨d1, d2⟩ | ⟨d1, d2⟩
    · have hl : LTp len T pt p x := ⟨k, a, by omega, c, d1⟩
      have hm : ¬ GTp len T pt p x := fun ⟨k', k0, k1, k2, k3⟩ => by
        have := ex k k' c k2 a k0 (by omega) (by omega)
        rw [← this] at k3; omega
      refine ⟨⟨fun _ => hl, fun _ => d2⟩, ⟨fun z => by omega, fun z => absurd z hm⟩, ?_⟩
      rw [hb]
      exact ⟨fun g => absurd (g k a (by omega)) (by omega), fun g => absurd hl g.1⟩
    · have hl : GTp len T pt p x := ⟨k, a, by omega, c, d1⟩
      have hm : ¬ LTp len T pt p x := fun ⟨k', k0, k1, k2, k3⟩ => by
        have := ex k k' c k2 a k0 (by omega) (by omega)
        rw [← this] at k3; omega
      refine ⟨⟨fun z => by omega, fun z => absurd z hm⟩, ⟨fun _ => hl, fun _ => d2⟩, ?_⟩
      rw [hb]
      exact ⟨fun g => absurd (g k a (by omega)) (by omega), fun g => absurd hl g.2⟩
theorem LT_GT {x : Int} (h : LTp len T pt p x) : ¬ GTp len T pt p x := by
  obtain ⟨k, k0, k1, k2, k3⟩ := h
  rintro ⟨k', h0, h1, h2, h3⟩
  rcases Int.lt_trichotomy k k' with l | l | l
  · have := h2 k k0 l; omega
  · rw [← l] at h3; omega
  · have := k2 k' h0 l; omega
theorem p_mono (hT : ∀ i, 0 ≤ i → i < len → 0 ≤ T i) {x y : Int} (x0 : 0 ≤ x) (y0 : 0 ≤ y) (x1 : x < len) (y1 : y < len) (h : zbf len T x y = true) : (LTp len T pt p y → LTp len T pt p x) ∧ (GTp len T pt p x → GTp len T pt p y) := by
  rw [zbf_iff hT x0 y0 (by omega) (by omega)] at h
  obtain ⟨d, d1, d2⟩ := h
  have le : ∀ z : Int, 0 ≤ z → ∀ j : Nat, sx_le len.toNat (fun j => (T (j : Int)).toNat) (z.toNat + j) = zla len T (z + j) := by
    intro z hz j
    rw [zla_le hT (by omega), show (z + (j : Int)).toNat = z.toNat + j by omega]
  have e1 : ∀ j : Int, 0 ≤ j → j < d → zla len T (x + j) = zla len T (y + j) := by
    intro j j0 j1
    have := d1 j.toNat (by omega)
    rw [le x x0, le y y0, Int.toNat_of_nonneg j0] at this
    exact this
  have e2 : zla len T (x + d) < zla len T (y + d) := by
    have := d2
    rw [le x x0, le y y0] at this
    exact this
  constructor
  · rintro ⟨k, k0, k1, k2, k3⟩
    rcases Int.lt_or_le k d with l | l
    · exact ⟨k, k0, k1, fun j a b => by rw [e1 j a (by omega)]; exact k2 j a b, by rw [e1 k k0 l]; exact k3⟩
    · refine ⟨d, by omega, by omega, fun j a b => by rw [e1 j a b]; exact k2 j a (by omega), ?_⟩
      rcases Int.lt_or_eq_of_le l with m | m
      · have := k2 d (by omega) m; omega
      · rw [← m] at k3; omega
  · rintro ⟨k, k0, k1, k2, k3⟩
    rcases Int.lt_or_le k d with l | l
    · exact ⟨k, k0, k1, fun j a b => by rw [← e1 j a (by omega)]; exact k2 j a b, by rw [← e1 k k0 l]; exact k3⟩
    · refine ⟨d, by omega, by omega, fun j a b => by rw [← e1 j a b]; exact k2 j a (by omega), ?_⟩
      rcases Int.lt_or_eq_of_le l with m | m
      · have := k2 d (by omega) m; omega
      · rw [← m] at k3; omega
theorem zbs_spec {f : Int → Bool} {n : Int} (hm : ∀ i j, 0 ≤ i → i < j → j < n → f j = true → f i = true) : ∀ (m : Nat) (lo hi : Int), (hi - lo).toNat ≤ m → 0 ≤ lo → lo ≤ hi → hi ≤ n → (∀ i, 0 ≤ i → i < lo → f i = true) → (∀ i, hi ≤ i → i < n → f i = false) → (lo ≤ zbs f m lo hi ∧ zbs f m lo hi ≤ hi) ∧ (∀ i, 0 ≤ i → i < zbs f m lo hi → f i = true) ∧ (∀ i, zbs f m lo hi ≤ i → i < n → f i = false) := by
  intro m
  induction m with
  | zero =>
    intro lo hi h1 h2 h3 h4 h5 h6
    rw [zbs]
    exact ⟨by omega, h5, fun i a b => h6 i (by omega) b⟩
  | succ m ih =>
    intro lo hi h1 h2 h3 h4 h5 h6
    rw [zbs]
    by_cases q : lo < hi
    · rw [if_pos q]
      by_cases q2 : f ((lo + hi) / 2) = true
      · rw [if_pos q2]
        have := ih ((lo + hi) / 2 + 1) hi (by omega) (by omega) (by omega) h4 (fun i a b => by
          rcases Int.lt_or_eq_of_le (show i ≤ (lo + hi) / 2 by omega) with l | l
          · exact hm i ((lo + hi) / 2) a l (by omega) q2
          · rw [l]; exact q2) h6
        exact ⟨by omega, this.2⟩
      · rw [if_neg q2]
        have q3 : f ((lo + hi) / 2) = false := by cases z : f ((lo + hi) / 2) with
          | true => exact absurd z q2
          | false => rfl
        have := ih lo ((lo + hi) / 2) (by omega) h2 (by omega) (by omega) h5 (fun i a b => by
          cases z : f i with
          | false => rfl
          | true =>
            rcases Int.lt_or_eq_of_le a with l | l
            · have := hm ((lo + hi) / 2) i (by omega) l b z
              rw [q3] at this; cases this
            · rw [← l, q3] at z; cases z)
        exact ⟨by omega, this.2⟩
    · rw [if_neg q]
      exact ⟨by omega, h5, fun i a b => h6 i (by omega) b⟩
/-- both searches find the same -/
theorem find_all {od : Int → Int} (h0 : 0 ≤ len) (p0 : 0 ≤ p) (hT : ∀ i, 0 ≤ i → i < len → 0 ≤ T i) (hp : ∀ i, 0 ≤ i → i < p → 0 ≤ pt i) (hsa : sSa len (zbf len T) od) (fi : Int) :
    (0 ≤ zff len T pt od p 0 ∧ zff len T pt od p 0 ≤ zff len T pt od p 1 ∧ zff len T pt od p 1 ≤ len) ∧ (zit (stH p len T pt od) len.toNat (fi, 0)).2 = zff len T pt od p 1 - zff len T pt od p 0 ∧ (0 < zff len T pt od p 1 - zff len T pt od p 0 → (zit (stH p len T pt od) len.toNat (fi, 0)).1 = zff len T pt od p 0) ∧ (zff len T pt od p 1 - zff len T pt od p 0 = 0 → (zit (stH p len T pt od) len.toNat (fi, 0)).1 = fi) := by
  have hz : ∀ m, 0 ≤ m → m < len → 0 ≤ od m ∧ od m < len := hsa.1.1
  have m0 : ∀ i j, 0 ≤ i → i < j → j < len → (fun m => decide (zcw len T pt (od m) p.toNat 0 < 0)) j = true → (fun m => decide (zcw len T pt (od m) p.toNat 0 < 0)) i = true := by
    intro i j a b c h
    have gi := hz i a (by omega)
    have gj := hz j (by omega) c
    have h := of_decide_eq_true h
    refine decide_eq_true ?_
    rw [(zcw_iff gj.1 p0 hp).1] at h
    rw [(zcw_iff gi.1 p0 hp).1]
    exact (p_mono hT gi.1 gj.1 gi.2 gj.2 (hsa.2 i j a b c)).1 h
  have m1 : ∀ i j, 0 ≤ i → i < j → j < len → (fun m => decide (zcw len T pt (od m) p.toNat 0 < 1)) j = true → (fun m => decide (zcw len T pt (od m) p.toNat 0 < 1)) i = true := by
    intro i j a b c h
    have gi := hz i a (by omega)
    have gj := hz j (by omega) c
    have h := of_decide_eq_true h
    refine decide_eq_true ?_
    refine Classical.byContradiction fun hn => ?_
    have h1 := (zcw_iff (len := len) (T := T) gi.1 p0 hp).2.1.mp (by omega)
    have h2 := (zcw_iff gj.1 p0 hp).2.1.mpr ((p_mono hT gi.1 gj.1 gi.2 gj.2 (hsa.2 i j a b c)).2 h1)
    omega
  have r0 := zbs_spec m0 len.toNat 0 len (by omega) (by omega) h0 (by omega) (fun i a b => by omega) (fun i a b => by omega)
  have r1 := zbs_spec m1 len.toNat 0 len (by omega) (by omega) h0 (by omega) (fun i a b => by omega) (fun i a b => by omega)
  have e0 : zbs (fun m => decide (zcw len T pt (od m) p.toNat 0 < 0)) len.toNat 0 len = zff len T pt od p 0 := rfl
  have e1 : zbs (fun m => decide (zcw len T pt (od m) p.toNat 0 < 1)) len.toNat 0 len = zff len T pt od p 1 := rfl
  rw [e0] at r0
  rw [e1] at r1
  generalize zff len T pt od p 0 = a0 at r0 ⊢
  generalize zff len T pt od p 1 = a1 at r1 ⊢
  obtain ⟨b0, c0, d0⟩ := r0
  obtain ⟨b1, c1, d1⟩ := r1
  have h01 : a0 ≤ a1 := by
    refine Classical.byContradiction fun hn => ?_
    have x0 := of_decide_eq_true (c0 a1 (by omega) (by omega))
    have x1 := of_decide_eq_false (d1 a1 (by omega) (by omega))
    omega
  have hbg : ∀ m, 0 ≤ m → m < len → (zbg p len T pt (od m) = true ↔ a0 ≤ m ∧ m < a1) := by
    intro m k0 k1
    have g := hz m k0 k1
    obtain ⟨w1, w2, w3⟩ := zcw_iff (len := len) (T := T) (pt := pt) (p := p) g.1 p0 hp
    rw [w3, ← w1, ← w2]
    constructor
    · rintro ⟨u1, u2⟩
      refine ⟨Classical.byContradiction fun hn => ?_, Classical.byContradiction fun hn => ?_⟩
      · exact u1 (of_decide_eq_true (c0 m k0 (by omega)))
      · have := of_decide_eq_false (d1 m (by omega) k1); omega
    · rintro ⟨u1, u2⟩
      have x0 := of_decide_eq_false (d0 m u1 k1)
      have x1 := of_decide_eq_true (c1 m k0 u2)
      omega
  have inv : ∀ k : Nat, k ≤ len.toNat → (zit (stH p len T pt od) k (fi, 0)).2 = (if a1 ≤ zmax a0 (len - k) then 0 else a1 - zmax a0 (len - k)) ∧ (zit (stH p len T pt od) k (fi, 0)).1 = (if a1 ≤ zmax a0 (len - k) then fi else zmax a0 (len - k)) := by
    intro k
    induction k with
    | zero =>
      intro _
      have : a1 ≤ zmax a0 (len - (0 : Nat)) := by have := (zmax_ge (a := a0) (b := len - (0 : Nat))).2; omega
      rw [if_pos this, if_pos this]
      exact ⟨rfl, rfl⟩
    | succ k ih =>
      intro hk
      obtain ⟨i1, i2⟩ := ih (by omega)
      rw [zit]
      generalize zit (stH p len T pt od) k (fi, 0) = q at i1 i2
      have hb := hbg (len - 1 - k) (by omega) (by omega)
      unfold stH
      have z1 := zmax_ge (a := a0) (b := len - (k : Int))
      have z2 := zmax_or (a := a0) (b := len - (k : Int))
      have z3 := zmax_ge (a := a0) (b := len - ((k + 1 : Nat) : Int))
      have z4 := zmax_or (a := a0) (b := len - ((k + 1 : Nat) : Int))
      by_cases w : zbg p len T pt (od (len - 1 - k)) = true
      · rw [if_pos w]
        have := hb.mp w
        rw [if_neg (by omega), if_neg (by omega)]
        refine ⟨?_, ?_⟩
        · show q.2 + 1 = _
          rw [i1]; split <;> omega
        · show len - 1 - (k : Int) = _
          omega
      · rw [if_neg w]
        have : ¬ (a0 ≤ len - 1 - k ∧ len - 1 - k < a1) := fun z => w (hb.mpr z)
        rw [i1, i2]
        refine ⟨?_, ?_⟩ <;> split <;> split <;> omega
  obtain ⟨j1, j2⟩ := inv len.toNat (Nat.le_refl _)
  have z1 := zmax_ge (a := a0) (b := len - (len.toNat : Int))
  have z2 := zmax_or (a := a0) (b := len - (len.toNat : Int))
  refine ⟨by omega, ?_, ?_, ?_⟩
  · rw [j1]; split <;> omega
  · intro h; rw [j2, if_neg (by omega)]; omega
  · intro h; rw [j2, if_pos (by omega)]
end
