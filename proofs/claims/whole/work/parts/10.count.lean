/-- an array as a function, one place changed -/
def te_fu {α : Type} (f : Nat → α) (k : Nat) (v : α) : Nat → α := fun j => if j = k then v else f j
theorem te_fu_eq {α : Type} (f : Nat → α) (k : Nat) (v : α) : te_fu f k v k = v := by simp [te_fu]
theorem te_fu_ne {α : Type} {f : Nat → α} {k j : Nat} {v : α} (h : j ≠ k) : te_fu f k v j = f j := by simp [te_fu, h]
/-- how many of the numbers below n have P -/
def te_ct (P : Nat → Bool) : Nat → Nat
  | 0 => 0
  | n + 1 => te_ct P n + (if P n = true then 1 else 0)
theorem te_ct_list (P : Nat → Bool) (n : Nat) : te_ct P n = ((List.range n).filter P).length := by
  induction n with
  | zero => rfl
  | succ n ih =>
    rw [List.range_succ, List.filter_append, List.length_append, ← ih, te_ct]
    congr 1
    by_cases h : P n = true <;> simp [h]
theorem te_ct_nd (P : Nat → Bool) (n : Nat) : ((List.range n).filter P).Nodup := List.Pairwise.filter P List.nodup_range
theorem te_ct_mem {P : Nat → Bool} {n x : Nat} : x ∈ (List.range n).filter P ↔ x < n ∧ P x = true := by
  rw [List.mem_filter, List.mem_range]
theorem te_ct_le (P : Nat → Bool) (n : Nat) : te_ct P n ≤ n := by
  induction n with
  | zero => exact Nat.le_refl 0
  | succ n ih => rw [te_ct]; split <;> omega
theorem te_ct_mono (P : Nat → Bool) {a b : Nat} (h : a ≤ b) : te_ct P a ≤ te_ct P b := by
  induction b with
  | zero => rw [show a = 0 by omega]; exact Nat.le_refl _
  | succ b ih =>
    rcases Nat.lt_or_ge a (b + 1) with q | q
    · rw [te_ct]; have := ih (by omega); omega
    · rw [show a = b + 1 by omega]; exact Nat.le_refl _
theorem te_ct_lt {P : Nat → Bool} {a b : Nat} (h : a < b) (hP : P a = true) : te_ct P a < te_ct P b := by
  have := te_ct_mono P (show a + 1 ≤ b from h)
  rw [te_ct, if_pos hP] at this
  omega
theorem te_ct_cg {P Q : Nat → Bool} {n : Nat} (h : ∀ x, x < n → P x = Q x) : te_ct P n = te_ct Q n := by
  induction n with
  | zero => rfl
  | succ n ih => rw [te_ct, te_ct, ih (fun x hx => h x (by omega)), h n (by omega)]
theorem te_ct_add {P Q R : Nat → Bool} {n : Nat} (h : ∀ x, x < n → (P x = true ↔ (Q x = true ∨ R x = true)) ∧ ¬ (Q x = true ∧ R x = true)) : te_ct P n = te_ct Q n + te_ct R n := by
  induction n with
  | zero => rfl
  | succ n ih =>
    rw [te_ct, te_ct, te_ct, ih (fun x hx => h x (by omega))]
    have := h n (by omega)
    by_cases hQ : Q n = true <;> by_cases hR : R n = true <;> by_cases hP : P n = true <;> simp [hQ, hR, hP] at this ⊢ <;> omega
/-- the places a .. b less 1 of f as a list -/
def te_im (f : Nat → Nat) (a b : Nat) : List Nat := (List.range (b - a)).map (fun k => f (a + k))
theorem te_im_len (f : Nat → Nat) (a b : Nat) : (te_im f a b).length = b - a := by simp [te_im]
theorem te_im_mem {f : Nat → Nat} {a b x : Nat} : x ∈ te_im f a b ↔ ∃ q, a ≤ q ∧ q < b ∧ f q = x := by
  rw [te_im, List.mem_map]
  constructor
  · rintro ⟨k, hk, e⟩
    rw [List.mem_range] at hk
    exact ⟨a + k, by omega, by omega, e⟩
  · rintro ⟨q, h1, h2, e⟩
    exact ⟨q - a, List.mem_range.mpr (by omega), by rw [show a + (q - a) = q by omega]; exact e⟩
theorem te_im_nd {f : Nat → Nat} {a b : Nat} (h : ∀ q q', a ≤ q → q < q' → q' < b → f q ≠ f q') : (te_im f a b).Nodup := by
  rw [te_im, List.Nodup, List.pairwise_map]
  refine List.Pairwise.imp_of_mem ?_ List.pairwise_lt_range
  intro x y hx hy hxy
  rw [List.mem_range] at hx hy
  exact h (a + x) (a + y) (by omega) (by omega) (by omega)
/-- no more places than things that they hold, when no two hold the same -/
theorem te_ph_le {f : Nat → Nat} {a b n : Nat} {P : Nat → Bool} (hP : ∀ q, a ≤ q → q < b → f q < n ∧ P (f q) = true) (h : ∀ q q', a ≤ q → q < q' → q' < b → f q ≠ f q') : b - a ≤ te_ct P n := by
  rw [te_ct_list, ← te_im_len f a b]
  refine List.Nodup.length_le_of_subset (te_im_nd h) ?_
  intro x hx
  obtain ⟨q, h1, h2, e⟩ := te_im_mem.mp hx
  rw [← e]
  exact te_ct_mem.mpr (hP q h1 h2)
/-- as many places as things, and no two hold the same: all are held -/
theorem te_ph_all {f : Nat → Nat} {a b n : Nat} {P : Nat → Bool} (hP : ∀ q, a ≤ q → q < b → f q < n ∧ P (f q) = true) (h : ∀ q q', a ≤ q → q < q' → q' < b → f q ≠ f q') (hc : te_ct P n ≤ b - a) {x : Nat} (hx : x < n) (hPx : P x = true) : ∃ q, a ≤ q ∧ q < b ∧ f q = x := by
  refine Classical.byContradiction fun hno => ?_
  have hnd : (x :: te_im f a b).Nodup := List.nodup_cons.mpr ⟨fun hm => hno (te_im_mem.mp hm), te_im_nd h⟩
  have hs : (x :: te_im f a b) ⊆ (List.range n).filter P := by
    intro y hy
    rcases List.mem_cons.mp hy with e | hy
    · rw [e]; exact te_ct_mem.mpr ⟨hx, hPx⟩
    · obtain ⟨q, h1, h2, e⟩ := te_im_mem.mp hy
      rw [← e]
      exact te_ct_mem.mpr (hP q h1 h2)
  have := List.Nodup.length_le_of_subset hnd hs
  rw [← te_ct_list, List.length_cons, te_im_len] at this
  omega
/-- all things are held: there are as many places -/
theorem te_ph_cov {f : Nat → Nat} {a b n : Nat} {P : Nat → Bool} (h : ∀ x, x < n → P x = true → ∃ q, a ≤ q ∧ q < b ∧ f q = x) : te_ct P n ≤ b - a := by
  rw [te_ct_list, ← te_im_len f a b]
  refine List.Nodup.length_le_of_subset (te_ct_nd P n) ?_
  intro x hx
  obtain ⟨h1, h2⟩ := te_ct_mem.mp hx
  exact te_im_mem.mpr (h x h1 h2)
