section
/-- an array as a function, one place changed -/
def te_fu {α : Type} (f : Nat → α) (k : Nat) (v : α) : Nat → α := fun j => if j = k then v else f j
theorem te_fu_eq {α : Type} (f : Nat → α) (k : Nat) (v : α) : te_fu f k v k = v := by simp [te_fu]
theorem te_fu_ne {α : Type} {f : Nat → α} {k j : Nat} {v : α} (h : j ≠ k) : te_fu f k v j = f j := by simp [te_fu, h]
/-- how many of the numbers below n have P -/
def te_ct (P : Nat → Bool) : Nat → Nat
  | 0 => 0
  | n + 1 => te_ct P n + (if P n = true then 1 else 0)
theorem te_ct_list (P : Nat → Bool) (n : Nat) : te_ct P n = ((List.range n).filter P).length := by
  induction n with
  | zero => rfl
  | succ n ih =>
    rw [List.range_succ, List.filter_append, List.length_append, ← ih, te_ct]
    congr 1
    by_cases h : P n = true <;> simp [h]
theorem te_ct_nd (P : Nat → Bool) (n : Nat) : ((List.range n).filter P).Nodup := List.Pairwise.filter P List.nodup_range
theorem te_ct_mem {P : Nat → Bool} {n x : Nat} : x ∈ (List.range n).filter P ↔ x < n ∧ P x = true := by
  rw [List.mem_filter, List.mem_range]
theorem te_ct_le (P : Nat → Bool) (n : Nat) : te_ct P n ≤ n := by
  induction n with
  | zero => exact Nat.le_refl 0
  | succ n ih => rw [te_ct]; split <;> omega
theorem te_ct_mono (P : Nat → Bool) {a b : Nat} (h : a ≤ b) : te_ct P a ≤ te_ct P b := by
  induction b with
  | zero => rw [show a = 0 by omega]; exact Nat.le_refl _
  | succ b ih =>
    rcases Nat.lt_or_ge a (b + 1) with q | q
    · rw [te_ct]; have := ih (by omega); omega
    · rw [show a = b + 1 by omega]; exact Nat.le_refl _
theorem te_ct_lt {P : Nat → Bool} {a b : Nat} (h : a < b) (hP : P a = true) : te_ct P a < te_ct P b := by
  have := te_ct_mono P (show a + 1 ≤ b from h)
  rw [te_ct, if_pos hP] at this
  omega
theorem te_ct_cg {P Q : Nat → Bool} {n : Nat} (h : ∀ x, x < n → P x = Q x) : te_ct P n = te_ct Q n := by
  induction n with
  | zero => rfl
  | succ n ih => rw [te_ct, te_ct, ih (fun x hx => h x (by omega)), h n (by omega)]
theorem te_ct_add {P Q R : Nat → Bool} {n : Nat} (h : ∀ x, x < n → (P x = true ↔ (Q x = true ∨ R x = true)) ∧ ¬ (Q x = true ∧ R x = true)) : te_ct P n = te_ct Q n + te_ct R n := by
  induction n with
  | zero => rfl
  | succ n ih =>
    rw [te_ct, te_ct, te_ct, ih (fun x hx => h x (by omega))]
    have := h n (by omega)
    by_cases hQ : Q n = true <;> by_cases hR : R n = true <;> by_cases hP : P n = true <;> simp [hQ, hR, hP] at this ⊢ <;> omega
/-- the places a .. b less 1 of f as a list -/
def te_im (f : Nat → Nat) (a b : Nat) : List Nat := (List.range (b - a)).map (fun k => f (a + k))
theorem te_im_len (f : Nat → Nat) (a b : Nat) : (te_im f a b).length = b - a := by simp [te_im]
theorem te_im_mem {f : Nat → Nat} {a b x : Nat} : x ∈ te_im f a b ↔ ∃ q, a ≤ q ∧ q < b ∧ f q = x := by
  rw [te_im, List.mem_map]
  constructor
  · rintro ⟨k, hk, e⟩
    rw [List.mem_range] at hk
    exact ⟨a + k, by omega, by omega, e⟩
  · rintro ⟨q, h1, h2, e⟩
    exact ⟨q - a, List.mem_range.mpr (by omega), by rw [show a + (q - a) = q by omega]; exact e⟩
theorem te_im_nd {f : Nat → Nat} {a b : Nat} (h : ∀ q q', a ≤ q → q < q' → q' < b → f q ≠ f q') : (te_im f a b).Nodup := by
  rw [te_im, List.Nodup, List.pairwise_map]
  refine List.Pairwise.imp_of_mem ?_ List.pairwise_lt_range
  intro x y hx hy hxy
  rw [List.mem_range] at hx hy
  exact h (a + x) (a + y) (by omega) (by omega) (by omega)
/-- no more places than things that they hold, when no two hold the same -/
theorem te_ph_le {f : Nat → Nat} {a b n : Nat} {P : Nat → Bool} (hP : ∀ q, a ≤ q → q < b → f q < n ∧ P (f q) = true) (h : ∀ q q', a ≤ q → q < q' → q' < b → f q ≠ f q') : b - a ≤ te_ct P n := by
  rw [te_ct_list, ← te_im_len f a b]
  refine List.Nodup.length_le_of_subset (te_im_nd h) ?_
  intro x hx
  obtain ⟨q, h1, h2, e⟩ := te_im_mem.mp hx
  rw [← e]
  exact te_ct_mem.mpr (hP q h1 h2)
/-- as many places as things, and no two hold the same: all are held -/
theorem te_ph_all {f : Nat → Nat} {a b n : Nat} {P : Nat → Bool} (hP : ∀ q, a ≤ q → q < b → f q < n ∧ P (f q) = true) (h : ∀ q q', a ≤ q → q < q' → q' < b → f q ≠ f q') (hc : te_ct P n ≤ b - a) {x : Nat} (hx : x < n) (hPx : P x = true) : ∃ q, a ≤ q ∧ q < b ∧ f q = x := by
  refine Classical.byContradiction fun hno => ?_
  have hnd : (x :: te_im f a b).Nodup := List.nodup_cons.mpr ⟨fun hm => hno (te_im_mem.mp hm), te_im_nd h⟩
  have hs : (x :: te_im f a b) ⊆ (List.range n).filter P := by
    intro y hy
    rcases List.mem_cons.mp hy with e | hy
    · rw [e]; exact te_ct_mem.mpr ⟨hx, hPx⟩
    · obtain ⟨q, h1, h2, e⟩ := te_im_mem.mp hy
      rw [← e]
      exact te_ct_mem.mpr (hP q h1 h2)
  have := List.Nodup.length_le_of_subset hnd hs
  rw [← te_ct_list, List.length_cons, te_im_len] at this
  omega
/-- all things are held: there are as many places -/
theorem te_ph_cov {f : Nat → Nat} {a b n : Nat} {P : Nat → Bool} (h : ∀ x, x < n → P x = true → ∃ q, a ≤ q ∧ q < b ∧ f q = x) : te_ct P n ≤ b - a := by
  rw [te_ct_list, ← te_im_len f a b]
  refine List.Nodup.length_le_of_subset (te_ct_nd P n) ?_
  intro x hx
  obtain ⟨h1, h2⟩ := te_ct_mem.mp hx
  exact te_im_mem.mpr (h x h1 h2)
end
section
/-! A pass of induction over the places 0 .. n: X are the things to be placed; thing x, of letter t x, goes to the next place of its letter's area when x + 1 is met. -/
def ps_fix (lo hi : Nat → Nat) (q : Nat) : Prop := ∀ c, ¬ (lo c ≤ q ∧ q < hi c)
def ps_Hyp (n : Nat) (X : Nat → Bool) (t lo hi : Nat → Nat) (O0 : Nat → Int) : Prop :=
  (∀ c, lo c ≤ hi c ∧ hi c ≤ n + 1) ∧
  (∀ c c' q, lo c ≤ q → q < hi c → lo c' ≤ q → q < hi c' → c = c') ∧
  (∀ c, hi c - lo c = te_ct (fun x => X x && t x == c) n) ∧
  (∀ x, X x = true → x < n) ∧
  (∀ x : Nat, X x = true → (∃ q, q ≤ n ∧ ps_fix lo hi q ∧ O0 q = (x : Int) + 1 ∧ q < lo (t x)) ∨ (X (x + 1) = true ∧ (t (x + 1) = t x ∨ hi (t (x + 1)) ≤ lo (t x)))) ∧
  (∀ (q q' y : Nat), q ≤ n → q' ≤ n → ps_fix lo hi q → ps_fix lo hi q' → X y = true → O0 q = (y : Int) + 1 → O0 q' = (y : Int) + 1 → q = q') ∧
  (∀ (q z : Nat), q ≤ n → ps_fix lo hi q → O0 q = (z : Int) → X z = false)
def ps_Step (X : Nat → Bool) (t : Nat → Nat) (p : Nat) (O : Nat → Int) (N : Nat → Nat) (O' : Nat → Int) (N' : Nat → Nat) : Prop :=
  (∀ x : Nat, X x = true → O p = (x : Int) + 1 → O' = te_fu O (N (t x)) (x : Int) ∧ N' = te_fu N (t x) (N (t x) + 1)) ∧
  ((∀ x : Nat, X x = true → O p ≠ (x : Int) + 1) → O' = O ∧ N' = N)
def ps_live (n : Nat) (lo hi N : Nat → Nat) (q : Nat) : Prop := q ≤ n ∧ (ps_fix lo hi q ∨ ∃ c, lo c ≤ q ∧ q < N c)
def ps_Inv (n : Nat) (X : Nat → Bool) (t lo hi : Nat → Nat) (O0 : Nat → Int) (p : Nat) (O : Nat → Int) (N : Nat → Nat) : Prop :=
  (∀ q, ps_fix lo hi q → O q = O0 q) ∧
  (∀ c, lo c ≤ N c ∧ N c ≤ hi c) ∧
  (∀ c q, lo c ≤ q → q < N c → ∃ x : Nat, X x = true ∧ t x = c ∧ O q = (x : Int) ∧ ∃ r, r < p ∧ r < q ∧ O r = (x : Int) + 1) ∧
  (∀ r, r < p → ∀ x : Nat, X x = true → O r = (x : Int) + 1 → ∃ q, lo (t x) ≤ q ∧ q < N (t x) ∧ O q = (x : Int)) ∧
  (∀ c q q', lo c ≤ q → q < q' → q' < N c → ∀ r r', r < p → r' < p → O r = O q + 1 → O r' = O q' + 1 → r < r') ∧
  (∀ c r, lo c ≤ r → r < hi c → r < p → r < N c) ∧
  (∀ (q q' z : Nat), ps_live n lo hi N q → ps_live n lo hi N q' → O q = (z : Int) → O q' = (z : Int) → (X z = true ∨ ∃ y, X y = true ∧ z = y + 1) → q = q')
section
variable {n : Nat} {X : Nat → Bool} {t lo hi : Nat → Nat} {O0 : Nat → Int} {p : Nat} {O : Nat → Int} {N : Nat → Nat}
theorem ps_0 (h : ps_Hyp n X t lo hi O0) : ps_Inv n X t lo hi O0 0 O0 lo := by
  obtain ⟨h1, h2, h3, h4, h5, h6, h7⟩ := h
  refine ⟨fun q _ => rfl, fun c => ⟨Nat.le_refl _, (h1 c).1⟩, fun c q a b => absurd b (by omega), fun r a => absurd a (by omega), fun c q q' a b d => absurd d (by omega), fun c r _ _ a => absurd a (by omega), ?_⟩
  intro q q' z hq hq' e e' hz
  obtain ⟨a1, a2⟩ := hq
  obtain ⟨b1, b2⟩ := hq'
  have fq : ps_fix lo hi q := by
    rcases a2 with a | ⟨c, a, b⟩
    · exact a
    · omega
  have fq' : ps_fix lo hi q' := by
    rcases b2 with a | ⟨c, a, b⟩
    · exact a
    · omega
  rcases hz with hz | ⟨y, hy, ez⟩
  · rw [h7 q z a1 fq e] at hz; cases hz
  · exact h6 q q' y a1 b1 fq fq' hy (by rw [e, ez]; rfl) (by rw [e', ez]; rfl)
/-- things of a full area are all placed -/
theorem ps_full (h : ps_Hyp n X t lo hi O0) (I : ps_Inv n X t lo hi O0 p O N) {c : Nat} (hc : hi c ≤ N c) {x : Nat} (hx : X x = true) (ht : t x = c) : ∃ q, lo c ≤ q ∧ q < N c ∧ O q = (x : Int) := by
  obtain ⟨h1, h2, h3, h4, h5, h6, h7⟩ := h
  obtain ⟨i1, iN, i2, i3, i4, i5, i6⟩ := I
  have hP : ∀ q, lo c ≤ q → q < N c → (O q).toNat < n ∧ (X (O q).toNat && t (O q).toNat == c) = true := by
    intro q a b
    obtain ⟨x, e1, e2, e3, -⟩ := i2 c q a b
    rw [e3, Int.toNat_natCast]
    exact ⟨h4 x e1, by simp [e1, e2]⟩
  have hne : ∀ q q', lo c ≤ q → q < q' → q' < N c → (O q).toNat ≠ (O q').toNat := by
    intro q q' a b d e
    obtain ⟨x, e1, e2, e3, -⟩ := i2 c q a (by omega)
    obtain ⟨x', f1, f2, f3, -⟩ := i2 c q' (by omega) d
    rw [e3, f3, Int.toNat_natCast, Int.toNat_natCast] at e
    have := i6 q q' x ⟨by have := (h1 c).2; have := (iN c).2; omega, Or.inr ⟨c, a, by omega⟩⟩ ⟨by have := (h1 c).2; have := (iN c).2; omega, Or.inr ⟨c, by omega, d⟩⟩ e3 (by rw [f3, e]) (Or.inl e1)
    omega
  obtain ⟨q, a, b, e⟩ := te_ph_all (P := fun x => X x && t x == c) hP hne (by rw [← h3 c]; omega) (h4 x hx) (by simp [hx, ht])
  obtain ⟨x', f1, f2, f3, -⟩ := i2 c q a b
  rw [f3, Int.toNat_natCast] at e
  exact ⟨q, a, b, by rw [f3, e]⟩
/-- the place that is looked at now is filled -/
theorem ps_filled (h : ps_Hyp n X t lo hi O0) (I : ps_Inv n X t lo hi O0 p O N) {c : Nat} (ha : lo c ≤ p) (hb : p < hi c) : p < N c := by
  refine Classical.byContradiction fun hno => ?_
  have hfull := @ps_full n X t lo hi O0 p O N h I
  obtain ⟨h1, h2, h3, h4, h5, h6, h7⟩ := h
  obtain ⟨i1, iN, i2, i3, i4, i5, i6⟩ := I
  have hB : ∀ d x : Nat, x + d = n → X x = true → t x = c → ∃ q, lo c ≤ q ∧ q < N c ∧ O q = (x : Int) := by
    intro d
    induction d with
    | zero => intro x e hx; have := h4 x hx; omega
    | succ d ih =>
      intro x e hx ht
      have key : ∀ r, r < p → O r = (x : Int) + 1 → ∃ q, lo c ≤ q ∧ q < N c ∧ O q = (x : Int) := by
        intro r hr er
        have := i3 r hr x hx er
        rw [ht] at this
        exact this
      rcases h5 x hx with ⟨q, a1, a2, a3, a4⟩ | ⟨hx1, hs⟩
      · have := (iN c).1
        exact key q (by rw [ht] at a4; omega) (by rw [i1 q a2, a3])
      · rcases hs with hs | hs
        · obtain ⟨q, b1, b2, b3⟩ := ih (x + 1) (by omega) hx1 (by rw [hs, ht])
          exact key q (by omega) (by rw [b3]; rfl)
        · have hlt : hi (t (x + 1)) ≤ N (t (x + 1)) := by
            have l1 := (h1 (t (x + 1))).1
            rcases Nat.lt_or_ge (lo (t (x + 1))) (hi (t (x + 1))) with l | l
            · have := i5 (t (x + 1)) (hi (t (x + 1)) - 1) (by omega) (by omega) (by rw [ht] at hs; omega)
              omega
            · have := (iN (t (x + 1))).1; omega
          obtain ⟨q, b1, b2, b3⟩ := hfull hlt hx1 rfl
          have := (iN (t (x + 1))).2
          exact key q (by rw [ht] at hs; omega) (by rw [b3]; rfl)
  have hcov := te_ph_cov (f := fun q => (O q).toNat) (a := lo c) (b := N c) (n := n) (P := fun x => X x && t x == c) (by
    intro x hx hPx
    simp at hPx
    obtain ⟨q, b1, b2, b3⟩ := hB (n - x) x (by omega) hPx.1 hPx.2
    exact ⟨q, b1, b2, by show (O q).toNat = x; rw [b3]; rfl⟩)
  rw [← h3 c] at hcov
  have := (iN c).1
  omega
theorem ps_live_of (h : ps_Hyp n X t lo hi O0) (I : ps_Inv n X t lo hi O0 p O N) {r : Nat} (hr : r ≤ p) (hn : r ≤ n) : ps_live n lo hi N r := by
  refine ⟨hn, ?_⟩
  refine Classical.byContradiction fun hno => ?_
  have hf : ps_fix lo hi r := by
    intro c hc
    apply hno
    right
    refine ⟨c, hc.1, ?_⟩
    rcases Nat.lt_or_ge r p with l | l
    · exact I.2.2.2.2.2.1 c r hc.1 hc.2 l
    · rw [show r = p by omega] at hc ⊢
      exact ps_filled h I hc.1 hc.2
  exact hno (Or.inl hf)
theorem ps_next (h : ps_Hyp n X t lo hi O0) (I : ps_Inv n X t lo hi O0 p O N) (hp : p ≤ n) {O' : Nat → Int} {N' : Nat → Nat} (hs : ps_Step X t p O N O' N') : ps_Inv n X t lo hi O0 (p + 1) O' N' := by
  have hfill := @ps_filled n X t lo hi O0 p O N h I
  have hlive := @ps_live_of n X t lo hi O0 p O N h I
  have hfull := @ps_full n X t lo hi O0 p O N h I
  obtain ⟨h1, h2, h3, h4, h5, h6, h7⟩ := h
  obtain ⟨i1, iN, i2, i3, i4, i5, i6⟩ := I
  by_cases hx : ∃ x : Nat, X x = true ∧ O p = (x : Int) + 1
  · obtain ⟨x, hx, ep⟩ := hx
    obtain ⟨eO, eN⟩ := hs.1 x hx ep
    have lp : ps_live n lo hi N p := hlive (Nat.le_refl p) hp
    have hnp : ∀ c q, lo c ≤ q → q < N c → O q ≠ (x : Int) := by
      intro c q a b e
      obtain ⟨x', e1, e2, e3, r, hr, -, er⟩ := i2 c q a b
      have : x' = x := by omega
      subst this
      have := i6 r p (x' + 1) (hlive (by omega) (by omega)) lp (by rw [er]; rfl) (by rw [ep]; rfl) (Or.inr ⟨x', hx, rfl⟩)
      omega
    have hsh : N (t x) < hi (t x) := by
      rcases Nat.lt_or_ge (N (t x)) (hi (t x)) with l | l
      · exact l
      · obtain ⟨q, a, b, e⟩ := hfull l hx rfl
        exact absurd e (hnp _ q a b)
    have hps : p < N (t x) := by
      rcases h5 x hx with ⟨q, a1, a2, a3, a4⟩ | ⟨hx1, hss⟩
      · have := i6 q p (x + 1) ⟨a1, Or.inl a2⟩ lp (by rw [i1 q a2, a3]; rfl) (by rw [ep]; rfl) (Or.inr ⟨x, hx, rfl⟩)
        have := (iN (t x)).1
        omega
      · rcases lp.2 with a | ⟨c', a, b⟩
        · have := h7 p (x + 1) hp a (by rw [← i1 p a, ep]; rfl)
          rw [hx1] at this; cases this
        · obtain ⟨x', e1, e2, e3, -⟩ := i2 c' p a b
          have : x' = x + 1 := by omega
          subst this
          rcases hss with hss | hss
          · rw [← hss, e2]; exact b
          · have := (iN c').2
            have := (iN (t x)).1
            rw [e2] at hss
            omega
    generalize hse : N (t x) = s at *
    have hsn : s ≤ n := by have := (h1 (t x)).2; omega
    have hlos : lo (t x) ≤ s := by rw [← hse]; exact (iN _).1
    have hOs : O' s = (x : Int) := by rw [eO]; exact te_fu_eq _ _ _
    have hOn : ∀ q, q ≠ s → O' q = O q := fun q hq => by rw [eO]; exact te_fu_ne hq
    have hNs : N' (t x) = s + 1 := by rw [eN]; exact te_fu_eq _ _ _
    have hNn : ∀ c, c ≠ t x → N' c = N c := fun c hc => by rw [eN]; exact te_fu_ne hc
    have hNle : ∀ c, N c ≤ N' c := by
      intro c
      by_cases e : c = t x
      · rw [e, hNs, hse]; omega
      · rw [hNn c e]; exact Nat.le_refl _
    have hsc : ∀ c, lo c ≤ s → s < hi c → c = t x := fun c a b => h2 c (t x) s a b hlos hsh
    have hN'hi : ∀ c, N' c ≤ hi c := by
      intro c
      by_cases e : c = t x
      · rw [e, hNs]; omega
      · rw [hNn c e]; exact (iN c).2
    have hold : ∀ c q, lo c ≤ q → q < N' c → q ≠ s → q < N c := by
      intro c q a b hq
      by_cases e : c = t x
      · rw [e, hNs] at b; rw [e, hse]; omega
      · rw [hNn c e] at b; exact b
    have hqs : ∀ c q, lo c ≤ q → q < N c → q ≠ s := by
      intro c q a b e
      have := hsc c (by omega) (by have := (iN c).2; omega)
      rw [this, hse] at b; omega
    refine ⟨?_, ?_, ?_, ?_, ?_, ?_, ?_⟩
    · intro q hq
      rw [hOn q (fun e => hq (t x) (by rw [e]; exact ⟨hlos, hsh⟩))]
      exact i1 q hq
    · intro c
      exact ⟨Nat.le_trans (iN c).1 (hNle c), hN'hi c⟩
    · intro c q a b
      by_cases e : q = s
      · have hc := hsc c (by omega) (by have := hN'hi c; omega)
        exact ⟨x, hx, hc.symm, by rw [e]; exact hOs, p, by omega, by omega, by rw [hOn p (by omega)]; exact ep⟩
      · obtain ⟨x', e1, e2, e3, r, f1, f2, f3⟩ := i2 c q a (hold c q a b e)
        exact ⟨x', e1, e2, by rw [hOn q e]; exact e3, r, by omega, f2, by rw [hOn r (by omega)]; exact f3⟩
    · intro r hr x' hx' er
      rw [hOn r (by omega)] at er
      by_cases e : r = p
      · rw [e, ep] at er
        have : x' = x := by omega
        subst this
        exact ⟨s, hlos, by rw [hNs]; omega, hOs⟩
      · obtain ⟨q, a, b, f⟩ := i3 r (by omega) x' hx' er
        exact ⟨q, a, Nat.lt_of_lt_of_le b (hNle _), by rw [hOn q (hqs _ q a b)]; exact f⟩
    · intro c q q' a b d r r' hr hr' er er'
      rw [hOn r (by omega)] at er
      rw [hOn r' (by omega)] at er'
      by_cases e : q' = s
      · have hc := hsc c (by omega) (by have := hN'hi c; omega)
        rw [e, hOs] at er'
        have hq : q < N c := by rw [hc, hse]; omega
        rw [hOn q (by omega)] at er
        have hr'p : r' = p := i6 r' p (x + 1) (hlive (by omega) (by omega)) lp (by rw [er']; rfl) (by rw [ep]; rfl) (Or.inr ⟨x, hx, rfl⟩)
        have : r ≠ p := by
          intro e2
          rw [e2, ep] at er
          exact hnp c q a hq (by omega)
        omega
      · have hq' := hold c q' (by omega) d e
        have hq : q < N c := by omega
        rw [hOn q (hqs c q a hq)] at er
        rw [hOn q' e] at er'
        have n1 : r ≠ p := by
          intro e2
          rw [e2, ep] at er
          exact hnp c q a hq (by omega)
        have n2 : r' ≠ p := by
          intro e2
          rw [e2, ep] at er'
          exact hnp c q' (by omega) hq' (by omega)
        exact i4 c q q' a b hq' r r' (by omega) (by omega) er er'
    · intro c r a b d
      refine Nat.lt_of_lt_of_le ?_ (hNle c)
      by_cases e : r = p
      · rw [e] at a b ⊢
        exact hfill a b
      · exact i5 c r a b (by omega)
    · have hl : ∀ q, q ≠ s → ps_live n lo hi N' q → ps_live n lo hi N q := by
        intro q hq hl
        refine ⟨hl.1, ?_⟩
        rcases hl.2 with a | ⟨c, a, b⟩
        · exact Or.inl a
        · exact Or.inr ⟨c, a, hold c q a b hq⟩
      have hkey : ∀ q, q ≠ s → ps_live n lo hi N q → O q = (x : Int) → False := by
        intro q hq hl e
        rcases hl.2 with a | ⟨c, a, b⟩
        · have := h7 q x hl.1 a (by rw [← i1 q a]; exact e)
          rw [hx] at this; cases this
        · exact hnp c q a b e
      intro q q' z lq lq' e e' hz
      by_cases f : q = s <;> by_cases f' : q' = s
      · omega
      · rw [f, hOs] at e
        rw [hOn q' f'] at e'
        exact (hkey q' f' (hl q' f' lq') (by rw [e', e])).elim
      · rw [f', hOs] at e'
        rw [hOn q f] at e
        exact (hkey q f (hl q f lq) (by rw [e', e])).elim
      · rw [hOn q f] at e
        rw [hOn q' f'] at e'
        exact i6 q q' z (hl q f lq) (hl q' f' lq') e e' hz
  · obtain ⟨eO, eN⟩ := hs.2 (fun x a b => hx ⟨x, a, b⟩)
    subst eO; subst eN
    have hno : ∀ c q, lo c ≤ q → q < N' c → O' p ≠ O' q + 1 := by
      intro c q a b e
      obtain ⟨x, e1, e2, e3, -⟩ := i2 c q a b
      exact hx ⟨x, e1, by rw [e, e3]⟩
    refine ⟨i1, iN, ?_, ?_, ?_, ?_, i6⟩
    · intro c q a b
      obtain ⟨x', e1, e2, e3, r, f1, f2, f3⟩ := i2 c q a b
      exact ⟨x', e1, e2, e3, r, by omega, f2, f3⟩
    · intro r hr x hX er
      have : r ≠ p := fun e => hx ⟨x, hX, by rw [← e]; exact er⟩
      exact i3 r (by omega) x hX er
    · intro c q q' a b d r r' hr hr' er er'
      have n1 : r ≠ p := fun e => hno c q a (by omega) (by rw [← e]; exact er)
      have n2 : r' ≠ p := fun e => hno c q' (by omega) d (by rw [← e]; exact er')
      exact i4 c q q' a b d r r' (by omega) (by omega) er er'
    · intro c r a b d
      by_cases e : r = p
      · rw [e] at a b ⊢
        exact hfill a b
      · exact i5 c r a b (by omega)
end
/-- what a pass leaves: the places of no area as they were; each area holds its things, each once, in the order of the places that hold what comes behind them -/
theorem ps_end {n : Nat} {X : Nat → Bool} {t lo hi : Nat → Nat} {O0 : Nat → Int} {Os : Nat → Nat → Int} {Ns : Nat → Nat → Nat} (h : ps_Hyp n X t lo hi O0) (hO : Os 0 = O0) (hN : Ns 0 = lo) (hs : ∀ p, p ≤ n → ps_Step X t p (Os p) (Ns p) (Os (p + 1)) (Ns (p + 1))) : ∀ p, p ≤ n + 1 → ps_Inv n X t lo hi O0 p (Os p) (Ns p) := by
  intro p
  induction p with
  | zero => intro _; rw [hO, hN]; exact ps_0 h
  | succ p ih => intro hp; exact ps_next h (ih (by omega)) (by omega) (hs p (by omega))
theorem ps_fin {n : Nat} {X : Nat → Bool} {t lo hi : Nat → Nat} {O0 : Nat → Int} {O : Nat → Int} {N : Nat → Nat} (h : ps_Hyp n X t lo hi O0) (I : ps_Inv n X t lo hi O0 (n + 1) O N) :
    (∀ q, ps_fix lo hi q → O q = O0 q) ∧
    (∀ x : Nat, X x = true → ∃ q, lo (t x) ≤ q ∧ q < hi (t x) ∧ O q = (x : Int)) ∧
    (∀ c q, lo c ≤ q → q < hi c → ∃ x : Nat, X x = true ∧ t x = c ∧ O q = (x : Int)) ∧
    (∀ c q q', lo c ≤ q → q < q' → q' < hi c → ∀ r r', r ≤ n → r' ≤ n → O r = O q + 1 → O r' = O q' + 1 → r < r') ∧
    (∀ (q q' z : Nat), q ≤ n → q' ≤ n → O q = (z : Int) → O q' = (z : Int) → (X z = true ∨ ∃ y, X y = true ∧ z = y + 1) → q = q') := by
  have hNhi : ∀ c, N c = hi c := by
    intro c
    have a := (h.1 c).1
    have b := (h.1 c).2
    have d := (I.2.1 c).1
    have e := (I.2.1 c).2
    rcases Nat.lt_or_ge (lo c) (hi c) with l | l
    · have := I.2.2.2.2.2.1 c (hi c - 1) (by omega) (by omega) (by omega)
      omega
    · omega
  refine ⟨I.1, ?_, ?_, ?_, ?_⟩
  · intro x hx
    obtain ⟨q, a, b, e⟩ := ps_full h I (by rw [hNhi]; exact Nat.le_refl _) hx rfl
    rw [hNhi] at b
    exact ⟨q, a, b, e⟩
  · intro c q a b
    obtain ⟨x, e1, e2, e3, -⟩ := I.2.2.1 c q a (by rw [hNhi]; exact b)
    exact ⟨x, e1, e2, e3⟩
  · intro c q q' a b d r r' hr hr' er er'
    exact I.2.2.2.2.1 c q q' a b (by rw [hNhi]; exact d) r r' (by omega) (by omega) er er'
  · intro q q' z hq hq' e e' hz
    exact I.2.2.2.2.2.2 q q' z (ps_live_of h I (by omega) hq) (ps_live_of h I (by omega) hq') e e' hz
end
section
/-! A text t of n letters: its ends, their order, which of them rise, the valleys. -/
def sx_le (n : Nat) (t : Nat → Nat) (i : Nat) : Int := if i < n then (t i : Int) else -1
theorem sx_le_lt {n : Nat} {t : Nat → Nat} {i : Nat} (h : i < n) : sx_le n t i = (t i : Int) := if_pos h
theorem sx_le_ge {n : Nat} {t : Nat → Nat} {i : Nat} (h : n ≤ i) : sx_le n t i = -1 := if_neg (by omega)
theorem sx_le_nn {n : Nat} {t : Nat → Nat} {i : Nat} : -1 ≤ sx_le n t i := by
  rw [sx_le]; split <;> omega
theorem sx_le_in {n : Nat} {t : Nat → Nat} {i : Nat} (h : 0 ≤ sx_le n t i) : i < n := by
  rw [sx_le] at h; split at h <;> omega
/-- end i comes before end j -/
def sx_lt (n : Nat) (t : Nat → Nat) (i j : Nat) : Prop := ∃ k, (∀ m, m < k → sx_le n t (i + m) = sx_le n t (j + m)) ∧ sx_le n t (i + k) < sx_le n t (j + k)
section
variable {n : Nat} {t : Nat → Nat} {i j : Nat}
theorem sx_lt_0 (h : sx_le n t i < sx_le n t j) : sx_lt n t i j := ⟨0, fun m hm => absurd hm (by omega), h⟩
theorem sx_lt_head (h : sx_lt n t i j) : sx_le n t i ≤ sx_le n t j := by
  obtain ⟨k, a, b⟩ := h
  rcases Nat.eq_zero_or_pos k with e | e
  · rw [e] at b; exact Int.le_of_lt b
  · exact Int.le_of_eq (a 0 e)
theorem sx_lt_s (e : sx_le n t i = sx_le n t j) : sx_lt n t i j ↔ sx_lt n t (i + 1) (j + 1) := by
  constructor
  · rintro ⟨k, a, b⟩
    cases k with
    | zero => rw [Nat.add_zero, Nat.add_zero, e] at b; exact absurd b (by omega)
    | succ k =>
      refine ⟨k, fun m hm => ?_, ?_⟩
      · have := a (m + 1) (by omega)
        rw [show i + 1 + m = i + (m + 1) by omega, show j + 1 + m = j + (m + 1) by omega]; exact this
      · rw [show i + 1 + k = i + (k + 1) by omega, show j + 1 + k = j + (k + 1) by omega]; exact b
  · rintro ⟨k, a, b⟩
    refine ⟨k + 1, fun m hm => ?_, ?_⟩
    · cases m with
      | zero => exact e
      | succ m =>
        have := a m (by omega)
        rw [show i + 1 + m = i + (m + 1) by omega, show j + 1 + m = j + (m + 1) by omega] at this; exact this
    · rw [show i + 1 + k = i + (k + 1) by omega, show j + 1 + k = j + (k + 1) by omega] at b; exact b
theorem sx_lt_sk (k : Nat) (e : ∀ m, m < k → sx_le n t (i + m) = sx_le n t (j + m)) : sx_lt n t i j ↔ sx_lt n t (i + k) (j + k) := by
  induction k with
  | zero => exact Iff.rfl
  | succ k ih =>
    rw [ih (fun m hm => e m (by omega)), sx_lt_s (e k (by omega))]
    rfl
theorem sx_lt_ir : ¬ sx_lt n t i i := by
  rintro ⟨k, -, b⟩
  omega
theorem sx_lt_tr {k : Nat} (h : sx_lt n t i j) (h2 : sx_lt n t j k) : sx_lt n t i k := by
  obtain ⟨a, a1, a2⟩ := h
  obtain ⟨b, b1, b2⟩ := h2
  rcases Nat.lt_trichotomy a b with l | l | l
  · exact ⟨a, fun m hm => by rw [a1 m hm, b1 m (by omega)], by rw [← b1 a l]; exact a2⟩
  · subst l
    exact ⟨a, fun m hm => by rw [a1 m hm, b1 m hm], by omega⟩
  · exact ⟨b, fun m hm => by rw [a1 m (by omega), b1 m hm], by rw [a1 b l]; exact b2⟩
theorem sx_lt_as (h : sx_lt n t i j) : ¬ sx_lt n t j i := fun h2 => sx_lt_ir (sx_lt_tr h h2)
theorem sx_first {P : Nat → Prop} {k : Nat} (h : ¬ P k) : ∃ m, m ≤ k ∧ (∀ a, a < m → P a) ∧ ¬ P m := by
  induction k with
  | zero => exact ⟨0, Nat.le_refl 0, fun a ha => absurd ha (by omega), h⟩
  | succ k ih =>
    by_cases q : ∃ m, m ≤ k ∧ ¬ P m
    · obtain ⟨m, hm, hP⟩ := q
      -- the least such
      have : ∃ m', m' ≤ m ∧ (∀ a, a < m' → P a) ∧ ¬ P m' := by
        clear ih hm h
        induction m using Nat.strongRecOn with
        | ind m ihm =>
          by_cases r : ∃ a, a < m ∧ ¬ P a
          · obtain ⟨a, ha, hPa⟩ := r
            obtain ⟨m', x, y, z⟩ := ihm a ha hPa
            exact ⟨m', by omega, y, z⟩
          · exact ⟨m, Nat.le_refl m, fun a ha => Classical.byContradiction fun hn => r ⟨a, ha, hn⟩, hP⟩
      obtain ⟨m', x, y, z⟩ := this
      exact ⟨m', by omega, y, z⟩
    · exact ⟨k + 1, Nat.le_refl _, fun a ha => Classical.byContradiction fun hn => q ⟨a, by omega, hn⟩, h⟩
theorem sx_lt_tot (hi : i ≤ n) (hj : j ≤ n) (hne : i ≠ j) : sx_lt n t i j ∨ sx_lt n t j i := by
  have hd : ¬ (fun m => sx_le n t (i + m) = sx_le n t (j + m)) (n - (if i < j then j else i)) := by
    intro h
    have h : sx_le n t (i + (n - (if i < j then j else i))) = sx_le n t (j + (n - (if i < j then j else i))) := h
    split at h
    · rw [sx_le_ge (i := j + (n - j)) (by omega), sx_le_lt (i := i + (n - j)) (by omega)] at h; omega
    · rw [sx_le_ge (i := i + (n - i)) (by omega), sx_le_lt (i := j + (n - i)) (by omega)] at h; omega
  obtain ⟨m, -, a, b⟩ := sx_first (P := fun m => sx_le n t (i + m) = sx_le n t (j + m)) hd
  rcases Int.lt_or_gt_of_ne b with l | l
  · exact Or.inl ⟨m, a, l⟩
  · exact Or.inr ⟨m, fun x hx => (a x hx).symm, l⟩
end
/-- whether the end d places before the text's end rises -/
def sx_rd (n : Nat) (t : Nat → Nat) : Nat → Bool
  | 0 => false
  | d + 1 => if sx_le n t (n - (d + 1)) = sx_le n t (n - (d + 1) + 1) then sx_rd n t d else decide (sx_le n t (n - (d + 1)) < sx_le n t (n - (d + 1) + 1))
def sx_ris (n : Nat) (t : Nat → Nat) (i : Nat) : Bool := sx_rd n t (n - i)
def sx_fal (n : Nat) (t : Nat → Nat) (i : Nat) : Bool := decide (i < n) && !sx_ris n t i
def sx_val (n : Nat) (t : Nat → Nat) (i : Nat) : Bool := sx_ris n t i && (decide (1 ≤ i) && !sx_ris n t (i - 1))
section
variable {n : Nat} {t : Nat → Nat} {i j : Nat}
theorem sx_ris_ge (h : n ≤ i) : sx_ris n t i = false := by
  rw [sx_ris, show n - i = 0 by omega]; rfl
theorem sx_ris_in (h : sx_ris n t i = true) : i < n := by
  rcases Nat.lt_or_ge i n with l | l
  · exact l
  · rw [sx_ris_ge l] at h; cases h
theorem sx_ris_eq (h : i < n) : sx_ris n t i = if sx_le n t i = sx_le n t (i + 1) then sx_ris n t (i + 1) else decide (sx_le n t i < sx_le n t (i + 1)) := by
  rw [sx_ris, sx_ris, show n - i = (n - (i + 1)) + 1 by omega, sx_rd, show n - (n - (i + 1) + 1) = i by omega]
theorem sx_ris_same (h : i < n) (e : sx_le n t i = sx_le n t (i + 1)) : sx_ris n t i = sx_ris n t (i + 1) := by
  rw [sx_ris_eq h, if_pos e]
/-- a rising end: the next letter is no less; if it is the same, the next end rises too -/
theorem sx_ris_up (h : sx_ris n t i = true) : i + 1 < n ∧ t i ≤ t (i + 1) ∧ (t i = t (i + 1) → sx_ris n t (i + 1) = true) := by
  have hi := sx_ris_in h
  rw [sx_ris_eq hi] at h
  split at h
  · rename_i e
    have := sx_ris_in h
    rw [sx_le_lt hi, sx_le_lt this] at e
    exact ⟨this, by omega, fun _ => h⟩
  · rename_i e
    have q := of_decide_eq_true h
    have hn : i + 1 < n := sx_le_in (t := t) (by rw [sx_le_lt hi] at q; omega)
    rw [sx_le_lt hi, sx_le_lt hn] at q e
    exact ⟨hn, by omega, fun e2 => absurd e2 (by omega)⟩
theorem sx_fal_iff : sx_fal n t i = true ↔ i < n ∧ sx_ris n t i = false := by simp [sx_fal]
/-- a falling end: it is the last, or the next letter is no greater; if it is the same, the next end falls too -/
theorem sx_fal_dn (h : sx_fal n t i = true) : i + 1 = n ∨ (i + 1 < n ∧ t (i + 1) ≤ t i ∧ (t i = t (i + 1) → sx_fal n t (i + 1) = true)) := by
  obtain ⟨hi, h⟩ := sx_fal_iff.mp h
  rcases Nat.lt_or_ge (i + 1) n with hn | hn
  · right
    rw [sx_ris_eq hi] at h
    split at h
    · rename_i e
      rw [sx_le_lt hi, sx_le_lt hn] at e
      exact ⟨hn, by omega, fun _ => sx_fal_iff.mpr ⟨hn, h⟩⟩
    · rename_i e
      have q := of_decide_eq_false h
      rw [sx_le_lt hi, sx_le_lt hn] at q e
      exact ⟨hn, by omega, fun e2 => absurd e2 (by omega)⟩
  · left; omega
theorem sx_two (hi : i < n) : sx_fal n t i = true ∨ sx_ris n t i = true := by
  cases h : sx_ris n t i with
  | true => exact Or.inr rfl
  | false => exact Or.inl (sx_fal_iff.mpr ⟨hi, h⟩)
theorem sx_val_iff : sx_val n t i = true ↔ sx_ris n t i = true ∧ 1 ≤ i ∧ sx_fal n t (i - 1) = true := by
  rw [sx_val, Bool.and_eq_true, Bool.and_eq_true, decide_eq_true_iff, sx_fal_iff]
  constructor
  · rintro ⟨a, b, c⟩
    have := sx_ris_in a
    refine ⟨a, b, by omega, ?_⟩
    cases h : sx_ris n t (i - 1) with
    | true => rw [h] at c; cases c
    | false => rfl
  · rintro ⟨a, b, c, d⟩
    exact ⟨a, b, by rw [d]; rfl⟩
/-- right behind a falling end stands a falling one, a valley, or nothing -/
theorem sx_fal_next (h : sx_fal n t i = true) : i + 1 = n ∨ sx_fal n t (i + 1) = true ∨ (sx_val n t (i + 1) = true ∧ t (i + 1) < t i) := by
  rcases sx_fal_dn h with e | ⟨a, b, c⟩
  · exact Or.inl e
  · right
    rcases sx_two (t := t) a with f | f
    · exact Or.inl f
    · right
      refine ⟨sx_val_iff.mpr ⟨f, by omega, h⟩, ?_⟩
      have : t i ≠ t (i + 1) := by
        intro e
        have := (sx_fal_iff.mp (c e)).2
        rw [f] at this; cases this
      omega
/-- with the same letter a falling end comes before a rising one -/
theorem sx_lt_type (hi : sx_fal n t i = true) (hj : sx_ris n t j = true) (e : t i = t j) : sx_lt n t i j := by
  have key : ∀ d i j : Nat, (n - i) + (n - j) ≤ d → sx_fal n t i = true → sx_ris n t j = true → t i = t j → sx_lt n t i j := by
    intro d
    induction d with
    | zero =>
      intro i j h a b
      have := sx_ris_in b
      omega
    | succ d ih =>
      intro i j h a b e
      have hi := (sx_fal_iff.mp a).1
      have hj := sx_ris_in b
      obtain ⟨j1, j2, j3⟩ := sx_ris_up b
      rw [sx_lt_s (by rw [sx_le_lt hi, sx_le_lt hj, e])]
      rcases sx_fal_dn a with q | ⟨q1, q2, q3⟩
      · refine sx_lt_0 ?_
        rw [sx_le_ge (by omega), sx_le_lt j1]; omega
      · rcases Nat.lt_or_ge (t (i + 1)) (t (j + 1)) with l | l
        · refine sx_lt_0 ?_
          rw [sx_le_lt q1, sx_le_lt j1]; omega
        · exact ih (i + 1) (j + 1) (by omega) (q3 (by omega)) (j3 (by omega)) (by omega)
  exact key _ i j (Nat.le_refl _) hi hj e
end
end
