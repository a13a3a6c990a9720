/-! A text t of n letters: its ends, their order, which of them rise, the valleys. -/
def sx_le (n : Nat) (t : Nat → Nat) (i : Nat) : Int := if i < n then (t i : Int) else -1
theorem sx_le_lt {n : Nat} {t : Nat → Nat} {i : Nat} (h : i < n) : sx_le n t i = (t i : Int) := if_pos h
theorem sx_le_ge {n : Nat} {t : Nat → Nat} {i : Nat} (h : n ≤ i) : sx_le n t i = -1 := if_neg (by omega)
theorem sx_le_nn {n : Nat} {t : Nat → Nat} {i : Nat} : -1 ≤ sx_le n t i := by
  rw [sx_le]; split <;> omega
theorem sx_le_in {n : Nat} {t : Nat → Nat} {i : Nat} (h : 0 ≤ sx_le n t i) : i < n := by
  rw [sx_le] at h; split at h <;> omega
/-- end i comes before end j -/
def sx_lt (n : Nat) (t : Nat → Nat) (i j : Nat) : Prop := ∃ k, (∀ m, m < k → sx_le n t (i + m) = sx_le n t (j + m)) ∧ sx_le n t (i + k) < sx_le n t (j + k)
section
variable {n : Nat} {t : Nat → Nat} {i j : Nat}
theorem sx_lt_0 (h : sx_le n t i < sx_le n t j) : sx_lt n t i j := ⟨0, fun m hm => absurd hm (by omega), h⟩
theorem sx_lt_head (h : sx_lt n t i j) : sx_le n t i ≤ sx_le n t j := by
  obtain ⟨k, a, b⟩ := h
  rcases Nat.eq_zero_or_pos k with e | e
  · rw [e] at b; exact Int.le_of_lt b
  · exact Int.le_of_eq (a 0 e)
theorem sx_lt_s (e : sx_le n t i = sx_le n t j) : sx_lt n t i j ↔ sx_lt n t (i + 1) (j + 1) := by
  constructor
  · rintro ⟨k, a, b⟩
    cases k with
    | zero => rw [Nat.add_zero, Nat.add_zero, e] at b; exact absurd b (by omega)
    | succ k =>
      refine ⟨k, fun m hm => ?_, ?_⟩
      · have := a (m + 1) (by omega)
        rw [show i + 1 + m = i + (m + 1) by omega, show j + 1 + m = j + (m + 1) by omega]; exact this
      · rw [show i + 1 + k = i + (k + 1) by omega, show j + 1 + k = j + (k + 1) by omega]; exact b
  · rintro ⟨k, a, b⟩
    refine ⟨k + 1, fun m hm => ?_, ?_⟩
    · cases m with
      | zero => exact e
      | succ m =>
        have := a m (by omega)
        rw [show i + 1 + m = i + (m + 1) by omega, show j + 1 + m = j + (m + 1) by omega] at this; exact this
    · rw [show i + 1 + k = i + (k + 1) by omega, show j + 1 + k = j + (k + 1) by omega] at b; exact b
theorem sx_lt_sk (k : Nat) (e : ∀ m, m < k → sx_le n t (i + m) = sx_le n t (j + m)) : sx_lt n t i j ↔ sx_lt n t (i + k) (j + k) := by
  induction k with
  | zero => exact Iff.rfl
  | succ k ih =>
    rw [ih (fun m hm => e m (by omega)), sx_lt_s (e k (by omega))]
    rfl
theorem sx_lt_ir : ¬ sx_lt n t i i := by
  rintro ⟨k, -, b⟩
  omega
theorem sx_lt_tr {k : Nat} (h : sx_lt n t i j) (h2 : sx_lt n t j k) : sx_lt n t i k := by
  obtain ⟨a, a1, a2⟩ := h
  obtain ⟨b, b1, b2⟩ := h2
  rcases Nat.lt_trichotomy a b with l | l | l
  · exact ⟨a, fun m hm => by rw [a1 m hm, b1 m (by omega)], by rw [← b1 a l]; exact a2⟩
  · subst l
    exact ⟨a, fun m hm => by rw [a1 m hm, b1 m hm], by omega⟩
  · exact ⟨b, fun m hm => by rw [a1 m (by omega), b1 m hm], by rw [a1 b l]; exact b2⟩
theorem sx_lt_as (h : sx_lt n t i j) : ¬ sx_lt n t j i := fun h2 => sx_lt_ir (sx_lt_tr h h2)
theorem sx_first {P : Nat → Prop} {k : Nat} (h : ¬ P k) : ∃ m, m ≤ k ∧ (∀ a, a < m → P a) ∧ ¬ P m := by
  induction k with
  | zero => exact ⟨0, Nat.le_refl 0, fun a ha => absurd ha (by omega), h⟩
  | succ k ih =>
    by_cases q : ∃ m, m ≤ k ∧ ¬ P m
    · obtain ⟨m, hm, hP⟩ := q
      -- the least such
      have : ∃ m', m' ≤ m ∧ (∀ a, a < m' → P a) ∧ ¬ P m' := by
        clear ih hm h
        induction m using Nat.strongRecOn with
        | ind m ihm =>
          by_cases r : ∃ a, a < m ∧ ¬ P a
          · obtain ⟨a, ha, hPa⟩ := r
            obtain ⟨m', x, y, z⟩ := ihm a ha hPa
            exact ⟨m', by omega, y, z⟩
          · exact ⟨m, Nat.le_refl m, fun a ha => Classical.byContradiction fun hn => r ⟨a, ha, hn⟩, hP⟩
      obtain ⟨m', x, y, z⟩ := this
      exact ⟨m', by omega, y, z⟩
    · exact ⟨k + 1, Nat.le_refl _, fun a ha => Classical.byContradiction fun hn => q ⟨a, by omega, hn⟩, h⟩
theorem sx_lt_tot (hi : i ≤ n) (hj : j ≤ n) (hne : i ≠ j) : sx_lt n t i j ∨ sx_lt n t j i := by
  have hd : ¬ (fun m => sx_le n t (i + m) = sx_le n t (j + m)) (n - (if i < j then j else i)) := by
    intro h
    have h : sx_le n t (i + (n - (if i < j then j else i))) = sx_le n t (j + (n - (if i < j then j else i))) := h
    split at h
    · rw [sx_le_ge (i := j + (n - j)) (by omega), sx_le_lt (i := i + (n - j)) (by omega)] at h; omega
    · rw [sx_le_ge (i := i + (n - i)) (by omega), sx_le_lt (i := j + (n - i)) (by omega)] at h; omega
  obtain ⟨m, -, a, b⟩ := sx_first (P := fun m => sx_le n t (i + m) = sx_le n t (j + m)) hd
  rcases Int.lt_or_gt_of_ne b with l | l
  · exact Or.inl ⟨m, a, l⟩
  · exact Or.inr ⟨m, fun x hx => (a x hx).symm, l⟩
end
/-- whether the end d places before the text's end rises -/
def sx_rd (n : Nat) (t : Nat → Nat) : Nat → Bool
  | 0 => false
  | d + 1 => if sx_le n t (n - (d + 1)) = sx_le n t (n - (d + 1) + 1) then sx_rd n t d else decide (sx_le n t (n - (d + 1)) < sx_le n t (n - (d + 1) + 1))
def sx_ris (n : Nat) (t : Nat → Nat) (i : Nat) : Bool := sx_rd n t (n - i)
def sx_fal (n : Nat) (t : Nat → Nat) (i : Nat) : Bool := decide (i < n) && !sx_ris n t i
def sx_val (n : Nat) (t : Nat → Nat) (i : Nat) : Bool := sx_ris n t i && (decide (1 ≤ i) && !sx_ris n t (i - 1))
section
variable {n : Nat} {t : Nat → Nat} {i j : Nat}
theorem sx_ris_ge (h : n ≤ i) : sx_ris n t i = false := by
  rw [sx_ris, show n - i = 0 by omega]; rfl
theorem sx_ris_in (h : sx_ris n t i = true) : i < n := by
  rcases Nat.lt_or_ge i n with l | l
  · exact l
  · rw [sx_ris_ge l] at h; cases h
theorem sx_ris_eq (h : i < n) : sx_ris n t i = if sx_le n t i = sx_le n t (i + 1) then sx_ris n t (i + 1) else decide (sx_le n t i < sx_le n t (i + 1)) := by
  rw [sx_ris, sx_ris, show n - i = (n - (i + 1)) + 1 by omega, sx_rd, show n - (n - (i + 1) + 1) = i by omega]
theorem sx_ris_same (h : i < n) (e : sx_le n t i = sx_le n t (i + 1)) : sx_ris n t i = sx_ris n t (i + 1) := by
  rw [sx_ris_eq h, if_pos e]
/-- a rising end: the next letter is no less; if it is the same, the next end rises too -/
theorem sx_ris_up (h : sx_ris n t i = true) : i + 1 < n ∧ t i ≤ t (i + 1) ∧ (t i = t (i + 1) → sx_ris n t (i + 1) = true) := by
  have hi := sx_ris_in h
  rw [sx_ris_eq hi] at h
  split at h
  · rename_i e
    have := sx_ris_in h
    rw [sx_le_lt hi, sx_le_lt this] at e
    exact ⟨this, by omega, fun _ => h⟩
  · rename_i e
    have q := of_decide_eq_true h
    have hn : i + 1 < n := sx_le_in (t := t) (by rw [sx_le_lt hi] at q; omega)
    rw [sx_le_lt hi, sx_le_lt hn] at q e
    exact ⟨hn, by omega, fun e2 => absurd e2 (by omega)⟩
theorem sx_fal_iff : sx_fal n t i = true ↔ i < n ∧ sx_ris n t i = false := by simp [sx_fal]
/-- a falling end: it is the last, or the next letter is no greater; if it is the same, the next end falls too -/
theorem sx_fal_dn (h : sx_fal n t i = true) : i + 1 = n ∨ (i + 1 < n ∧ t (i + 1) ≤ t i ∧ (t i = t (i + 1) → sx_fal n t (i + 1) = true)) := by
  obtain ⟨hi, h⟩ := sx_fal_iff.mp h
  rcases Nat.lt_or_ge (i + 1) n with hn | hn
  · right
    rw [sx_ris_eq hi] at h
    split at h
    · rename_i e
      rw [sx_le_lt hi, sx_le_lt hn] at e
      exact ⟨hn, by omega, fun _ => sx_fal_iff.mpr ⟨hn, h⟩⟩
    · rename_i e
      have q := of_decide_eq_false h
      rw [sx_le_lt hi, sx_le_lt hn] at q e
      exact ⟨hn, by omega, fun e2 => absurd e2 (by omega)⟩
  · left; omega
theorem sx_two (hi : i < n) : sx_fal n t i = true ∨ sx_ris n t i = true := by
  cases h : sx_ris n t i with
  | true => exact Or.inr rfl
  | false => exact Or.inl (sx_fal_iff.mpr ⟨hi, h⟩)
theorem sx_val_iff : sx_val n t i = true ↔ sx_ris n t i = true ∧ 1 ≤ i ∧ sx_fal n t (i - 1) = true := by
  rw [sx_val, Bool.and_eq_true, Bool.and_eq_true, decide_eq_true_iff, sx_fal_iff]
  constructor
  · rintro ⟨a, b, c⟩
    have := sx_ris_in a
    refine ⟨a, b, by omega, ?_⟩
    cases h : sx_ris n t (i - 1) with
    | true => rw [h] at c; cases c
    | false => rfl
  · rintro ⟨a, b, c, d⟩
    exact ⟨a, b, by rw [d]; rfl⟩
/-- right behind a falling end stands a falling one, a valley, or nothing -/
theorem sx_fal_next (h : sx_fal n t i = true) : i + 1 = n ∨ sx_fal n t (i + 1) = true ∨ (sx_val n t (i + 1) = true ∧ t (i + 1) < t i) := by
  rcases sx_fal_dn h with e | ⟨a, b, c⟩
  · exact Or.inl e
  · right
    rcases sx_two (t := t) a with f | f
    · exact Or.inl f
    · right
      refine ⟨sx_val_iff.mpr ⟨f, by omega, h⟩, ?_⟩
      have : t i ≠ t (i + 1) := by
        intro e
        have := (sx_fal_iff.mp (c e)).2
        rw [f] at this; cases this
      omega
/-- with the same letter a falling end comes before a rising one -/
theorem sx_lt_type (hi : sx_fal n t i = true) (hj : sx_ris n t j = true) (e : t i = t j) : sx_lt n t i j := by
  have key : ∀ d i j : Nat, (n - i) + (n - j) ≤ d → sx_fal n t i = true → sx_ris n t j = true → t i = t j → sx_lt n t i j := by
    intro d
    induction d with
    | zero =>
      intro i j h a b
      have := sx_ris_in b
      omega
    | succ d ih =>
      intro i j h a b e
      have hi := (sx_fal_iff.mp a).1
      have hj := sx_ris_in b
      obtain ⟨j1, j2, j3⟩ := sx_ris_up b
      rw [sx_lt_s (by rw [sx_le_lt hi, sx_le_lt hj, e])]
      rcases sx_fal_dn a with q | ⟨q1, q2, q3⟩
      · refine sx_lt_0 ?_
        rw [sx_le_ge (by omega), sx_le_lt j1]; omega
      · rcases Nat.lt_or_ge (t (i + 1)) (t (j + 1)) with l | l
        · refine sx_lt_0 ?_
          rw [sx_le_lt q1, sx_le_lt j1]; omega
        · exact ih (i + 1) (j + 1) (by omega) (q3 (by omega)) (j3 (by omega)) (by omega)
  exact key _ i j (Nat.le_refl _) hi hj e
end
