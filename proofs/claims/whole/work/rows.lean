section
/-- an array as a function, one place changed -/
def te_fu {α : Type} (f : Nat → α) (k : Nat) (v : α) : Nat → α := fun j => if j = k then v else f j
theorem te_fu_eq {α : Type} (f : Nat → α) (k : Nat) (v : α) : te_fu f k v k = v := by simp [te_fu]
theorem te_fu_ne {α : Type} {f : Nat → α} {k j : Nat} {v : α} (h : j ≠ k) : te_fu f k v j = f j := by simp [te_fu, h]
/-- how many of the numbers below n have P -/
def te_ct (P : Nat → Bool) : Nat → Nat
  | 0 => 0
  | n + 1 => te_ct P n + (if P n = true then 1 else 0)
theorem te_ct_list (P : Nat → Bool) (n : Nat) : te_ct P n = ((List.range n).filter P).length := by
  induction n with
  | zero => rfl
  | succ n ih =>
    rw [List.range_succ, List.filter_append, List.length_append, ← ih, te_ct]
    congr 1
    by_cases h : P n = true <;> simp [h]
theorem te_ct_nd (P : Nat → Bool) (n : Nat) : ((List.range n).filter P).Nodup := List.Pairwise.filter P List.nodup_range
theorem te_ct_mem {P : Nat → Bool} {n x : Nat} : x ∈ (List.range n).filter P ↔ x < n ∧ P x = true := by
  rw [List.mem_filter, List.mem_range]
theorem te_ct_le (P : Nat → Bool) (n : Nat) : te_ct P n ≤ n := by
  induction n with
  | zero => exact Nat.le_refl 0
  | succ n ih => rw [te_ct]; split <;> omega
theorem te_ct_mono (P : Nat → Bool) {a b : Nat} (h : a ≤ b) : te_ct P a ≤ te_ct P b := by
  induction b with
  | zero => rw [show a = 0 by omega]; exact Nat.le_refl _
  | succ b ih =>
    rcases Nat.lt_or_ge a (b + 1) with q | q
    · rw [te_ct]; have := ih (by omega); omega
    · rw [show a = b + 1 by omega]; exact Nat.le_refl _
theorem te_ct_lt {P : Nat → Bool} {a b : Nat} (h : a < b) (hP : P a = true) : te_ct P a < te_ct P b := by
  have := te_ct_mono P (show a + 1 ≤ b from h)
  rw [te_ct, if_pos hP] at this
  omega
theorem te_ct_cg {P Q : Nat → Bool} {n : Nat} (h : ∀ x, x < n → P x = Q x) : te_ct P n = te_ct Q n := by
  induction n with
  | zero => rfl
  | succ n ih => rw [te_ct, te_ct, ih (fun x hx => h x (by omega)), h n (by omega)]
theorem te_ct_add {P Q R : Nat → Bool} {n : Nat} (h : ∀ x, x < n → (P x = true ↔ (Q x = true ∨ R x = true)) ∧ ¬ (Q x = true ∧ R x = true)) : te_ct P n = te_ct Q n + te_ct R n := by
  induction n with
  | zero => rfl
  | succ n ih =>
    rw [te_ct, te_ct, te_ct, ih (fun x hx => h x (by omega))]
    have := h n (by omega)
    by_cases hQ : Q n = true <;> by_cases hR : R n = true <;> by_cases hP : P n = true <;> simp [hQ, hR, hP] at this ⊢ <;> omega
/-- the places a .. b less 1 of f as a list -/
def te_im (f : Nat → Nat) (a b : Nat) : List Nat := (List.range (b - a)).map (fun k => f (a + k))
theorem te_im_len (f : Nat → Nat) (a b : Nat) : (te_im f a b).length = b - a := by simp [te_im]
theorem te_im_mem {f : Nat → Nat} {a b x : Nat} : x ∈ te_im f a b ↔ ∃ q, a ≤ q ∧ q < b ∧ f q = x := by
  rw [te_im, List.mem_map]
  constructor
  · rintro ⟨k, hk, e⟩
    rw [List.mem_range] at hk
    exact ⟨a + k, by omega, by omega, e⟩
  · rintro ⟨q, h1, h2, e⟩
    exact ⟨q - a, List.mem_range.mpr (by omega), by rw [show a + (q - a) = q by omega]; exact e⟩
theorem te_im_nd {f : Nat → Nat} {a b : Nat} (h : ∀ q q', a ≤ q → q < q' → q' < b → f q ≠ f q') : (te_im f a b).Nodup := by
  rw [te_im, List.Nodup, List.pairwise_map]
  refine List.Pairwise.imp_of_mem ?_ List.pairwise_lt_range
  intro x y hx hy hxy
  rw [List.mem_range] at hx hy
  exact h (a + x) (a + y) (by omega) (by omega) (by omega)
/-- no more places than things that they hold, when no two hold the same -/
theorem te_ph_le {f : Nat → Nat} {a b n : Nat} {P : Nat → Bool} (hP : ∀ q, a ≤ q → q < b → f q < n ∧ P (f q) = true) (h : ∀ q q', a ≤ q → q < q' → q' < b → f q ≠ f q') : b - a ≤ te_ct P n := by
  rw [te_ct_list, ← te_im_len f a b]
  refine List.Nodup.length_le_of_subset (te_im_nd h) ?_
  intro x hx
  obtain ⟨q, h1, h2, e⟩ := te_im_mem.mp hx
  rw [← e]
  exact te_ct_mem.mpr (hP q h1 h2)
/-- as many places as things, and no two hold the same: all are held -/
theorem te_ph_all {f : Nat → Nat} {a b n : Nat} {P : Nat → Bool} (hP : ∀ q, a ≤ q → q < b → f q < n ∧ P (f q) = true) (h : ∀ q q', a ≤ q → q < q' → q' < b → f q ≠ f q') (hc : te_ct P n ≤ b - a) {x : Nat} (hx : x < n) (hPx : P x = true) : ∃ q, a ≤ q ∧ q < b ∧ f q = x := by
  refine Classical.byContradiction fun hno => ?_
  have hnd : (x :: te_im f a b).Nodup := List.nodup_cons.mpr ⟨fun hm => hno (te_im_mem.mp hm), te_im_nd h⟩
  have hs : (x :: te_im f a b) ⊆ (List.range n).filter P := by
    intro y hy
    rcases List.mem_cons.mp hy with e | hy
    · rw [e]; exact te_ct_mem.mpr ⟨hx, hPx⟩
    · obtain ⟨q, h1, h2, e⟩ := te_im_mem.mp hy
      rw [← e]
      exact te_ct_mem.mpr (hP q h1 h2)
  have := List.Nodup.length_le_of_subset hnd hs
  rw [← te_ct_list, List.length_cons, te_im_len] at this
  omega
/-- all things are held: there are as many places -/
theorem te_ph_cov {f : Nat → Nat} {a b n : Nat} {P : Nat → Bool} (h : ∀ x, x < n → P x = true → ∃ q, a ≤ q ∧ q < b ∧ f q = x) : te_ct P n ≤ b - a := by
  rw [te_ct_list, ← te_im_len f a b]
  refine List.Nodup.length_le_of_subset (te_ct_nd P n) ?_
  intro x hx
  obtain ⟨h1, h2⟩ := te_ct_mem.mp hx
  exact te_im_mem.mpr (h x h1 h2)
end
section
/-! A pass of induction over the places 0 .. n: X are the things to be placed; thing x, of letter t x, goes to the next place of its letter's area when x + 1 is met. -/
def ps_fix (lo hi : Nat → Nat) (q : Nat) : Prop := ∀ c, ¬ (lo c ≤ q ∧ q < hi c)
def ps_Hyp (n : Nat) (X : Nat → Bool) (t lo hi : Nat → Nat) (O0 : Nat → Int) : Prop :=
  (∀ c, lo c ≤ hi c ∧ hi c ≤ n + 1) ∧
  (∀ c c' q, lo c ≤ q → q < hi c → lo c' ≤ q → q < hi c' → c = c') ∧
  (∀ c, hi c - lo c = te_ct (fun x => X x && t x == c) n) ∧
  (∀ x, X x = true → x < n) ∧
  (∀ x : Nat, X x = true → (∃ q, q ≤ n ∧ ps_fix lo hi q ∧ O0 q = (x : Int) + 1 ∧ q < lo (t x)) ∨ (X (x + 1) = true ∧ (t (x + 1) = t x ∨ hi (t (x + 1)) ≤ lo (t x)))) ∧
  (∀ (q q' y : Nat), q ≤ n → q' ≤ n → ps_fix lo hi q → ps_fix lo hi q' → X y = true → O0 q = (y : Int) + 1 → O0 q' = (y : Int) + 1 → q = q') ∧
  (∀ (q z : Nat), q ≤ n → ps_fix lo hi q → O0 q = (z : Int) → X z = false)
def ps_Step (X : Nat → Bool) (t : Nat → Nat) (p : Nat) (O : Nat → Int) (N : Nat → Nat) (O' : Nat → Int) (N' : Nat → Nat) : Prop :=
  (∀ x : Nat, X x = true → O p = (x : Int) + 1 → O' = te_fu O (N (t x)) (x : Int) ∧ N' = te_fu N (t x) (N (t x) + 1)) ∧
  ((∀ x : Nat, X x = true → O p ≠ (x : Int) + 1) → O' = O ∧ N' = N)
def ps_live (n : Nat) (lo hi N : Nat → Nat) (q : Nat) : Prop := q ≤ n ∧ (ps_fix lo hi q ∨ ∃ c, lo c ≤ q ∧ q < N c)
def ps_Inv (n : Nat) (X : Nat → Bool) (t lo hi : Nat → Nat) (O0 : Nat → Int) (p : Nat) (O : Nat → Int) (N : Nat → Nat) : Prop :=
  (∀ q, ps_fix lo hi q → O q = O0 q) ∧
  (∀ c, lo c ≤ N c ∧ N c ≤ hi c) ∧
  (∀ c q, lo c ≤ q → q < N c → ∃ x : Nat, X x = true ∧ t x = c ∧ O q = (x : Int) ∧ ∃ r, r < p ∧ r < q ∧ O r = (x : Int) + 1) ∧
  (∀ r, r < p → ∀ x : Nat, X x = true → O r = (x : Int) + 1 → ∃ q, lo (t x) ≤ q ∧ q < N (t x) ∧ O q = (x : Int)) ∧
  (∀ c q q', lo c ≤ q → q < q' → q' < N c → ∀ r r', r < p → r' < p → O r = O q + 1 → O r' = O q' + 1 → r < r') ∧
  (∀ c r, lo c ≤ r → r < hi c → r < p → r < N c) ∧
  (∀ (q q' z : Nat), ps_live n lo hi N q → ps_live n lo hi N q' → O q = (z : Int) → O q' = (z : Int) → (X z = true ∨ ∃ y, X y = true ∧ z = y + 1) → q = q')
section
variable {n : Nat} {X : Nat → Bool} {t lo hi : Nat → Nat} {O0 : Nat → Int} {p : Nat} {O : Nat → Int} {N : Nat → Nat}
theorem ps_0 (h : ps_Hyp n X t lo hi O0) : ps_Inv n X t lo hi O0 0 O0 lo := by
  obtain ⟨h1, h2, h3, h4, h5, h6, h7⟩ := h
  refine ⟨fun q _ => rfl, fun c => ⟨Nat.le_refl _, (h1 c).1⟩, fun c q a b => absurd b (by omega), fun r a => absurd a (by omega), fun c q q' a b d => absurd d (by omega), fun c r _ _ a => absurd a (by omega), ?_⟩
  intro q q' z hq hq' e e' hz
  obtain ⟨a1, a2⟩ := hq
  obtain ⟨b1, b2⟩ := hq'
  have fq : ps_fix lo hi q := by
    rcases a2 with a | ⟨c, a, b⟩
    · exact a
    · omega
  have fq' : ps_fix lo hi q' := by
    rcases b2 with a | ⟨c, a, b⟩
    · exact a
    · omega
  rcases hz with hz | ⟨y, hy, ez⟩
  · rw [h7 q z a1 fq e] at hz; cases hz
  · exact h6 q q' y a1 b1 fq fq' hy (by rw [e, ez]; rfl) (by rw [e', ez]; rfl)
/-- things of a full area are all placed -/
theorem ps_full (h : ps_Hyp n X t lo hi O0) (I : ps_Inv n X t lo hi O0 p O N) {c : Nat} (hc : hi c ≤ N c) {x : Nat} (hx : X x = true) (ht : t x = c) : ∃ q, lo c ≤ q ∧ q < N c ∧ O q = (x : Int) := by
  obtain ⟨h1, h2, h3, h4, h5, h6, h7⟩ := h
  obtain ⟨i1, iN, i2, i3, i4, i5, i6⟩ := I
  have hP : ∀ q, lo c ≤ q → q < N c → (O q).toNat < n ∧ (X (O q).toNat && t (O q).toNat == c) = true := by
    intro q a b
    obtain ⟨x, e1, e2, e3, -⟩ := i2 c q a b
    rw [e3, Int.toNat_natCast]
    exact ⟨h4 x e1, by simp [e1, e2]⟩
  have hne : ∀ q q', lo c ≤ q → q < q' → q' < N c → (O q).toNat ≠ (O q').toNat := by
    intro q q' a b d e
    obtain ⟨x, e1, e2, e3, -⟩ := i2 c q a (by omega)
    obtain ⟨x', f1, f2, f3, -⟩ := i2 c q' (by omega) d
    rw [e3, f3, Int.toNat_natCast, Int.toNat_natCast] at e
    have := i6 q q' x ⟨by have := (h1 c).2; have := (iN c).2; omega, Or.inr ⟨c, a, by omega⟩⟩ ⟨by have := (h1 c).2; have := (iN c).2; omega, Or.inr ⟨c, by omega, d⟩⟩ e3 (by rw [f3, e]) (Or.inl e1)
    omega
  obtain ⟨q, a, b, e⟩ := te_ph_all (P := fun x => X x && t x == c) hP hne (by rw [← h3 c]; omega) (h4 x hx) (by simp [hx, ht])
  obtain ⟨x', f1, f2, f3, -⟩ := i2 c q a b
  rw [f3, Int.toNat_natCast] at e
  exact ⟨q, a, b, by rw [f3, e]⟩
/-- the place that is looked at now is filled -/
theorem ps_filled (h : ps_Hyp n X t lo hi O0) (I : ps_Inv n X t lo hi O0 p O N) {c : Nat} (ha : lo c ≤ p) (hb : p < hi c) : p < N c := by
  refine Classical.byContradiction fun hno => ?_
  have hfull := @ps_full n X t lo hi O0 p O N h I
  obtain ⟨h1, h2, h3, h4, h5, h6, h7⟩ := h
  obtain ⟨i1, iN, i2, i3, i4, i5, i6⟩ := I
  have hB : ∀ d x : Nat, x + d = n → X x = true → t x = c → ∃ q, lo c ≤ q ∧ q < N c ∧ O q = (x : Int) := by
    intro d
    induction d with
    | zero => intro x e hx; have := h4 x hx; omega
    | succ d ih =>
      intro x e hx ht
      have key : ∀ r, r < p → O r = (x : Int) + 1 → ∃ q, lo c ≤ q ∧ q < N c ∧ O q = (x : Int) := by
        intro r hr er
        have := i3 r hr x hx er
        rw [ht] at this
        exact this
      rcases h5 x hx with ⟨q, a1, a2, a3, a4⟩ | ⟨hx1, hs⟩
      · have := (iN c).1
        exact key q (by rw [ht] at a4; omega) (by rw [i1 q a2, a3])
      · rcases hs with hs | hs
        · obtain ⟨q, b1, b2, b3⟩ := ih (x + 1) (by omega) hx1 (by rw [hs, ht])
          exact key q (by omega) (by rw [b3]; rfl)
        · have hlt : hi (t (x + 1)) ≤ N (t (x + 1)) := by
            have l1 := (h1 (t (x + 1))).1
            rcases Nat.lt_or_ge (lo (t (x + 1))) (hi (t (x + 1))) with l | l
            · have := i5 (t (x + 1)) (hi (t (x + 1)) - 1) (by omega) (by omega) (by rw [ht] at hs; omega)
              omega
            · have := (iN (t (x + 1))).1; omega
          obtain ⟨q, b1, b2, b3⟩ := hfull hlt hx1 rfl
          have := (iN (t (x + 1))).2
          exact key q (by rw [ht] at hs; omega) (by rw [b3]; rfl)
  have hcov := te_ph_cov (f := fun q => (O q).toNat) (a := lo c) (b := N c) (n := n) (P := fun x => X x && t x == c) (by
    intro x hx hPx
    simp at hPx
    obtain ⟨q, b1, b2, b3⟩ := hB (n - x) x (by omega) hPx.1 hPx.2
    exact ⟨q, b1, b2, by show (O q).toNat = x; rw [b3]; rfl⟩)
  rw [← h3 c] at hcov
  have := (iN c).1
  omega
theorem ps_live_of (h : ps_Hyp n X t lo hi O0) (I : ps_Inv n X t lo hi O0 p O N) {r : Nat} (hr : r ≤ p) (hn : r ≤ n) : ps_live n lo hi N r := by
  refine ⟨hn, ?_⟩
  refine Classical.byContradiction fun hno => ?_
  have hf : ps_fix lo hi r := by
    intro c hc
    apply hno
    right
    refine ⟨c, hc.1, ?_⟩
    rcases Nat.lt_or_ge r p with l | l
    · exact I.2.2.2.2.2.1 c r hc.1 hc.2 l
    · rw [show r = p by omega] at hc ⊢
      exact ps_filled h I hc.1 hc.2
  exact hno (Or.inl hf)
theorem ps_next (h : ps_Hyp n X t lo hi O0) (I : ps_Inv n X t lo hi O0 p O N) (hp : p ≤ n) {O' : Nat → Int} {N' : Nat → Nat} (hs : ps_Step X t p O N O' N') : ps_Inv n X t lo hi O0 (p + 1) O' N' := by
  have hfill := @ps_filled n X t lo hi O0 p O N h I
  have hlive := @ps_live_of n X t lo hi O0 p O N h I
  have hfull := @ps_full n X t lo hi O0 p O N h I
  obtain ⟨h1, h2, h3, h4, h5, h6, h7⟩ := h
  obtain ⟨i1, iN, i2, i3, i4, i5, i6⟩ := I
  by_cases hx : ∃ x : Nat, X x = true ∧ O p = (x : Int) + 1
  · obtain ⟨x, hx, ep⟩ := hx
    obtain ⟨eO, eN⟩ := hs.1 x hx ep
    have lp : ps_live n lo hi N p := hlive (Nat.le_refl p) hp
    have hnp : ∀ c q, lo c ≤ q → q < N c → O q ≠ (x : Int) := by
      intro c q a b e
      obtain ⟨x', e1, e2, e3, r, hr, -, er⟩ := i2 c q a b
      have : x' = x := by omega
      subst this
      have := i6 r p (x' + 1) (hlive (by omega) (by omega)) lp (by rw [er]; rfl) (by rw [ep]; rfl) (Or.inr ⟨x', hx, rfl⟩)
      omega
    have hsh : N (t x) < hi (t x) := by
      rcases Nat.lt_or_ge (N (t x)) (hi (t x)) with l | l
      · exact l
      · obtain ⟨q, a, b, e⟩ := hfull l hx rfl
        exact absurd e (hnp _ q a b)
    have hps : p < N (t x) := by
      rcases h5 x hx with ⟨q, a1, a2, a3, a4⟩ | ⟨hx1, hss⟩
      · have := i6 q p (x + 1) ⟨a1, Or.inl a2⟩ lp (by rw [i1 q a2, a3]; rfl) (by rw [ep]; rfl) (Or.inr ⟨x, hx, rfl⟩)
        have := (iN (t x)).1
        omega
      · rcases lp.2 with a | ⟨c', a, b⟩
        · have := h7 p (x + 1) hp a (by rw [← i1 p a, ep]; rfl)
          rw [hx1] at this; cases this
        · obtain ⟨x', e1, e2, e3, -⟩ := i2 c' p a b
          have : x' = x + 1 := by omega
          subst this
          rcases hss with hss | hss
          · rw [← hss, e2]; exact b
          · have := (iN c').2
            have := (iN (t x)).1
            rw [e2] at hss
            omega
    generalize hse : N (t x) = s at *
    have hsn : s ≤ n := by have := (h1 (t x)).2; omega
    have hlos : lo (t x) ≤ s := by rw [← hse]; exact (iN _).1
    have hOs : O' s = (x : Int) := by rw [eO]; exact te_fu_eq _ _ _
    have hOn : ∀ q, q ≠ s → O' q = O q := fun q hq => by rw [eO]; exact te_fu_ne hq
    have hNs : N' (t x) = s + 1 := by rw [eN]; exact te_fu_eq _ _ _
    have hNn : ∀ c, c ≠ t x → N' c = N c := fun c hc => by rw [eN]; exact te_fu_ne hc
    have hNle : ∀ c, N c ≤ N' c := by
      intro c
      by_cases e : c = t x
      · rw [e, hNs, hse]; omega
      · rw [hNn c e]; exact Nat.le_refl _
    have hsc : ∀ c, lo c ≤ s → s < hi c → c = t x := fun c a b => h2 c (t x) s a b hlos hsh
    have hN'hi : ∀ c, N' c ≤ hi c := by
      intro c
      by_cases e : c = t x
      · rw [e, hNs]; omega
      · rw [hNn c e]; exact (iN c).2
    have hold : ∀ c q, lo c ≤ q → q < N' c → q ≠ s → q < N c := by
      intro c q a b hq
      by_cases e : c = t x
      · rw [e, hNs] at b; rw [e, hse]; omega
      · rw [hNn c e] at b; exact b
    have hqs : ∀ c q, lo c ≤ q → q < N c → q ≠ s := by
      intro c q a b e
      have := hsc c (by omega) (by have := (iN c).2; omega)
      rw [this, hse] at b; omega
    refine ⟨?_, ?_, ?_, ?_, ?_, ?_, ?_⟩
    · intro q hq
      rw [hOn q (fun e => hq (t x) (by rw [e]; exact ⟨hlos, hsh⟩))]
      exact i1 q hq
    · intro c
      exact ⟨Nat.le_trans (iN c).1 (hNle c), hN'hi c⟩
    · intro c q a b
      by_cases e : q = s
      · have hc := hsc c (by omega) (by have := hN'hi c; omega)
        exact ⟨x, hx, hc.symm, by rw [e]; exact hOs, p, by omega, by omega, by rw [hOn p (by omega)]; exact ep⟩
      · obtain ⟨x', e1, e2, e3, r, f1, f2, f3⟩ := i2 c q a (hold c q a b e)
        exact ⟨x', e1, e2, by rw [hOn q e]; exact e3, r, by omega, f2, by rw [hOn r (by omega)]; exact f3⟩
    · intro r hr x' hx' er
      rw [hOn r (by omega)] at er
      by_cases e : r = p
      · rw [e, ep] at er
        have : x' = x := by omega
        subst this
        exact ⟨s, hlos, by rw [hNs]; omega, hOs⟩
      · obtain ⟨q, a, b, f⟩ := i3 r (by omega) x' hx' er
        exact ⟨q, a, Nat.lt_of_lt_of_le b (hNle _), by rw [hOn q (hqs _ q a b)]; exact f⟩
    · intro c q q' a b d r r' hr hr' er er'
      rw [hOn r (by omega)] at er
      rw [hOn r' (by omega)] at er'
      by_cases e : q' = s
      · have hc := hsc c (by omega) (by have := hN'hi c; omega)
        rw [e, hOs] at er'
        have hq : q < N c := by rw [hc, hse]; omega
        rw [hOn q (by omega)] at er
        have hr'p : r' = p := i6 r' p (x + 1) (hlive (by omega) (by omega)) lp (by rw [er']; rfl) (by rw [ep]; rfl) (Or.inr ⟨x, hx, rfl⟩)
        have : r ≠ p := by
          intro e2
          rw [e2, ep] at er
          exact hnp c q a hq (by omega)
        omega
      · have hq' := hold c q' (by omega) d e
        have hq : q < N c := by omega
        rw [hOn q (hqs c q a hq)] at er
        rw [hOn q' e] at er'
        have n1 : r ≠ p := by
          intro e2
          rw [e2, ep] at er
          exact hnp c q a hq (by omega)
        have n2 : r' ≠ p := by
          intro e2
          rw [e2, ep] at er'
          exact hnp c q' (by omega) hq' (by omega)
        exact i4 c q q' a b hq' r r' (by omega) (by omega) er er'
    · intro c r a b d
      refine Nat.lt_of_lt_of_le ?_ (hNle c)
      by_cases e : r = p
      · rw [e] at a b ⊢
        exact hfill a b
      · exact i5 c r a b (by omega)
    · have hl : ∀ q, q ≠ s → ps_live n lo hi N' q → ps_live n lo hi N q := by
        intro q hq hl
        refine ⟨hl.1, ?_⟩
        rcases hl.2 with a | ⟨c, a, b⟩
        · exact Or.inl a
        · exact Or.inr ⟨c, a, hold c q a b hq⟩
      have hkey : ∀ q, q ≠ s → ps_live n lo hi N q → O q = (x : Int) → False := by
        intro q hq hl e
        rcases hl.2 with a | ⟨c, a, b⟩
        · have := h7 q x hl.1 a (by rw [← i1 q a]; exact e)
          rw [hx] at this; cases this
        · exact hnp c q a b e
      intro q q' z lq lq' e e' hz
      by_cases f : q = s <;> by_cases f' : q' = s
      · omega
      · rw [f, hOs] at e
        rw [hOn q' f'] at e'
        exact (hkey q' f' (hl q' f' lq') (by rw [e', e])).elim
      · rw [f', hOs] at e'
        rw [hOn q f] at e
        exact (hkey q f (hl q f lq) (by rw [e', e])).elim
      · rw [hOn q f] at e
        rw [hOn q' f'] at e'
        exact i6 q q' z (hl q f lq) (hl q' f' lq') e e' hz
  · obtain ⟨eO, eN⟩ := hs.2 (fun x a b => hx ⟨x, a, b⟩)
    subst eO; subst eN
    have hno : ∀ c q, lo c ≤ q → q < N' c → O' p ≠ O' q + 1 := by
      intro c q a b e
      obtain ⟨x, e1, e2, e3, -⟩ := i2 c q a b
      exact hx ⟨x, e1, by rw [e, e3]⟩
    refine ⟨i1, iN, ?_, ?_, ?_, ?_, i6⟩
    · intro c q a b
      obtain ⟨x', e1, e2, e3, r, f1, f2, f3⟩ := i2 c q a b
      exact ⟨x', e1, e2, e3, r, by omega, f2, f3⟩
    · intro r hr x hX er
      have : r ≠ p := fun e => hx ⟨x, hX, by rw [← e]; exact er⟩
      exact i3 r (by omega) x hX er
    · intro c q q' a b d r r' hr hr' er er'
      have n1 : r ≠ p := fun e => hno c q a (by omega) (by rw [← e]; exact er)
      have n2 : r' ≠ p := fun e => hno c q' (by omega) d (by rw [← e]; exact er')
      exact i4 c q q' a b d r r' (by omega) (by omega) er er'
    · intro c r a b d
      by_cases e : r = p
      · rw [e] at a b ⊢
        exact hfill a b
      · exact i5 c r a b (by omega)
end
/-- what a pass leaves: the places of no area as they were; each area holds its things, each once, in the order of the places that hold what comes behind them -/
theorem ps_end {n : Nat} {X : Nat → Bool} {t lo hi : Nat → Nat} {O0 : Nat → Int} {Os : Nat → Nat → Int} {Ns : Nat → Nat → Nat} (h : ps_Hyp n X t lo hi O0) (hO : Os 0 = O0) (hN : Ns 0 = lo) (hs : ∀ p, p ≤ n → ps_Step X t p (Os p) (Ns p) (Os (p + 1)) (Ns (p + 1))) : ∀ p, p ≤ n + 1 → ps_Inv n X t lo hi O0 p (Os p) (Ns p) := by
  intro p
  induction p with
  | zero => intro _; rw [hO, hN]; exact ps_0 h
  | succ p ih => intro hp; exact ps_next h (ih (by omega)) (by omega) (hs p (by omega))
theorem ps_fin {n : Nat} {X : Nat → Bool} {t lo hi : Nat → Nat} {O0 : Nat → Int} {O : Nat → Int} {N : Nat → Nat} (h : ps_Hyp n X t lo hi O0) (I : ps_Inv n X t lo hi O0 (n + 1) O N) :
    (∀ q, ps_fix lo hi q → O q = O0 q) ∧
    (∀ x : Nat, X x = true → ∃ q, lo (t x) ≤ q ∧ q < hi (t x) ∧ O q = (x : Int)) ∧
    (∀ c q, lo c ≤ q → q < hi c → ∃ x : Nat, X x = true ∧ t x = c ∧ O q = (x : Int)) ∧
    (∀ c q q', lo c ≤ q → q < q' → q' < hi c → ∀ r r', r ≤ n → r' ≤ n → O r = O q + 1 → O r' = O q' + 1 → r < r') ∧
    (∀ (q q' z : Nat), q ≤ n → q' ≤ n → O q = (z : Int) → O q' = (z : Int) → (X z = true ∨ ∃ y, X y = true ∧ z = y + 1) → q = q') := by
  have hNhi : ∀ c, N c = hi c := by
    intro c
    have a := (h.1 c).1
    have b := (h.1 c).2
    have d := (I.2.1 c).1
    have e := (I.2.1 c).2
    rcases Nat.lt_or_ge (lo c) (hi c) with l | l
    · have := I.2.2.2.2.2.1 c (hi c - 1) (by omega) (by omega) (by omega)
      omega
    · omega
  refine ⟨I.1, ?_, ?_, ?_, ?_⟩
  · intro x hx
    obtain ⟨q, a, b, e⟩ := ps_full h I (by rw [hNhi]; exact Nat.le_refl _) hx rfl
    rw [hNhi] at b
    exact ⟨q, a, b, e⟩
  · intro c q a b
    obtain ⟨x, e1, e2, e3, -⟩ := I.2.2.1 c q a (by rw [hNhi]; exact b)
    exact ⟨x, e1, e2, e3⟩
  · intro c q q' a b d r r' hr hr' er er'
    exact I.2.2.2.2.1 c q q' a b (by rw [hNhi]; exact d) r r' (by omega) (by omega) er er'
  · intro q q' z hq hq' e e' hz
    exact I.2.2.2.2.2.2 q q' z (ps_live_of h I (by omega) hq) (ps_live_of h I (by omega) hq') e e' hz
end
section
/-! A text t of n letters: its ends, their order, which of them rise, the valleys. -/
def sx_le (n : Nat) (t : Nat → Nat) (i : Nat) : Int := if i < n then (t i : Int) else -1
theorem sx_le_lt {n : Nat} {t : Nat → Nat} {i : Nat} (h : i < n) : sx_le n t i = (t i : Int) := if_pos h
theorem sx_le_ge {n : Nat} {t : Nat → Nat} {i : Nat} (h : n ≤ i) : sx_le n t i = -1 := if_neg (by omega)
theorem sx_le_nn {n : Nat} {t : Nat → Nat} {i : Nat} : -1 ≤ sx_le n t i := by
  rw [sx_le]; split <;> omega
theorem sx_le_in {n : Nat} {t : Nat → Nat} {i : Nat} (h : 0 ≤ sx_le n t i) : i < n := by
  rw [sx_le] at h; split at h <;> omega
/-- end i comes before end j -/
def sx_lt (n : Nat) (t : Nat → Nat) (i j : Nat) : Prop := ∃ k, (∀ m, m < k → sx_le n t (i + m) = sx_le n t (j + m)) ∧ sx_le n t (i + k) < sx_le n t (j + k)
section
variable {n : Nat} {t : Nat → Nat} {i j : Nat}
theorem sx_lt_0 (h : sx_le n t i < sx_le n t j) : sx_lt n t i j := ⟨0, fun m hm => absurd hm (by omega), h⟩
theorem sx_lt_head (h : sx_lt n t i j) : sx_le n t i ≤ sx_le n t j := by
  obtain ⟨k, a, b⟩ := h
  rcases Nat.eq_zero_or_pos k with e | e
  · rw [e] at b; exact Int.le_of_lt b
  · exact Int.le_of_eq (a 0 e)
theorem sx_lt_s (e : sx_le n t i = sx_le n t j) : sx_lt n t i j ↔ sx_lt n t (i + 1) (j + 1) := by
  constructor
  · rintro ⟨k, a, b⟩
    cases k with
    | zero => rw [Nat.add_zero, Nat.add_zero, e] at b; exact absurd b (by omega)
    | succ k =>
      refine ⟨k, fun m hm => ?_, ?_⟩
      · have := a (m + 1) (by omega)
        rw [show i + 1 + m = i + (m + 1) by omega, show j + 1 + m = j + (m + 1) by omega]; exact this
      · rw [show i + 1 + k = i + (k + 1) by omega, show j + 1 + k = j + (k + 1) by omega]; exact b
  · rintro ⟨k, a, b⟩
    refine ⟨k + 1, fun m hm => ?_, ?_⟩
    · cases m with
      | zero => exact e
      | succ m =>
        have := a m (by omega)
        rw [show i + 1 + m = i + (m + 1) by omega, show j + 1 + m = j + (m + 1) by omega] at this; exact this
    · rw [show i + 1 + k = i + (k + 1) by omega, show j + 1 + k = j + (k + 1) by omega] at b; exact b
theorem sx_lt_sk (k : Nat) (e : ∀ m, m < k → sx_le n t (i + m) = sx_le n t (j + m)) : sx_lt n t i j ↔ sx_lt n t (i + k) (j + k) := by
  induction k with
  | zero => exact Iff.rfl
  | succ k ih =>
    rw [ih (fun m hm => e m (by omega)), sx_lt_s (e k (by omega))]
    rfl
theorem sx_lt_ir : ¬ sx_lt n t i i := by
  rintro ⟨k, -, b⟩
  omega
theorem sx_lt_tr {k : Nat} (h : sx_lt n t i j) (h2 : sx_lt n t j k) : sx_lt n t i k := by
  obtain ⟨a, a1, a2⟩ := h
  obtain ⟨b, b1, b2⟩ := h2
  rcases Nat.lt_trichotomy a b with l | l | l
  · exact ⟨a, fun m hm => by rw [a1 m hm, b1 m (by omega)], by rw [← b1 a l]; exact a2⟩
  · subst l
    exact ⟨a, fun m hm => by rw [a1 m hm, b1 m hm], by omega⟩
  · exact ⟨b, fun m hm => by rw [a1 m (by omega), b1 m hm], by rw [a1 b l]; exact b2⟩
theorem sx_lt_as (h : sx_lt n t i j) : ¬ sx_lt n t j i := fun h2 => sx_lt_ir (sx_lt_tr h h2)
theorem sx_first {P : Nat → Prop} {k : Nat} (h : ¬ P k) : ∃ m, m ≤ k ∧ (∀ a, a < m → P a) ∧ ¬ P m := by
  induction k with
  | zero => exact ⟨0, Nat.le_refl 0, fun a ha => absurd ha (by omega), h⟩
  | succ k ih =>
    by_cases q : ∃ m, m ≤ k ∧ ¬ P m
    · obtain ⟨m, hm, hP⟩ := q
      -- the least such
      have : ∃ m', m' ≤ m ∧ (∀ a, a < m' → P a) ∧ ¬ P m' := by
        clear ih hm h
        induction m using Nat.strongRecOn with
        | ind m ihm =>
          by_cases r : ∃ a, a < m ∧ ¬ P a
          · obtain ⟨a, ha, hPa⟩ := r
            obtain ⟨m', x, y, z⟩ := ihm a ha hPa
            exact ⟨m', by omega, y, z⟩
          · exact ⟨m, Nat.le_refl m, fun a ha => Classical.byContradiction fun hn => r ⟨a, ha, hn⟩, hP⟩
      obtain ⟨m', x, y, z⟩ := this
      exact ⟨m', by omega, y, z⟩
    · exact ⟨k + 1, Nat.le_refl _, fun a ha => Classical.byContradiction fun hn => q ⟨a, by omega, hn⟩, h⟩
theorem sx_lt_tot (hi : i ≤ n) (hj : j ≤ n) (hne : i ≠ j) : sx_lt n t i j ∨ sx_lt n t j i := by
  have hd : ¬ (fun m => sx_le n t (i + m) = sx_le n t (j + m)) (n - (if i < j then j else i)) := by
    intro h
    have h : sx_le n t (i + (n - (if i < j then j else i))) = sx_le n t (j + (n - (if i < j then j else i))) := h
    split at h
    · rw [sx_le_ge (i := j + (n - j)) (by omega), sx_le_lt (i := i + (n - j)) (by omega)] at h; omega
    · rw [sx_le_ge (i := i + (n - i)) (by omega), sx_le_lt (i := j + (n - i)) (by omega)] at h; omega
  obtain ⟨m, -, a, b⟩ := sx_first (P := fun m => sx_le n t (i + m) = sx_le n t (j + m)) hd
  rcases Int.lt_or_gt_of_ne b with l | l
  · exact Or.inl ⟨m, a, l⟩
  · exact Or.inr ⟨m, fun x hx => (a x hx).symm, l⟩
end
/-- whether the end d places before the text's end rises -/
def sx_rd (n : Nat) (t : Nat → Nat) : Nat → Bool
  | 0 => false
  | d + 1 => if sx_le n t (n - (d + 1)) = sx_le n t (n - (d + 1) + 1) then sx_rd n t d else decide (sx_le n t (n - (d + 1)) < sx_le n t (n - (d + 1) + 1))
def sx_ris (n : Nat) (t : Nat → Nat) (i : Nat) : Bool := sx_rd n t (n - i)
def sx_fal (n : Nat) (t : Nat → Nat) (i : Nat) : Bool := decide (i < n) && !sx_ris n t i
def sx_val (n : Nat) (t : Nat → Nat) (i : Nat) : Bool := sx_ris n t i && (decide (1 ≤ i) && !sx_ris n t (i - 1))
section
variable {n : Nat} {t : Nat → Nat} {i j : Nat}
theorem sx_ris_ge (h : n ≤ i) : sx_ris n t i = false := by
  rw [sx_ris, show n - i = 0 by omega]; rfl
theorem sx_ris_in (h : sx_ris n t i = true) : i < n := by
  rcases Nat.lt_or_ge i n with l | l
  · exact l
  · rw [sx_ris_ge l] at h; cases h
theorem sx_ris_eq (h : i < n) : sx_ris n t i = if sx_le n t i = sx_le n t (i + 1) then sx_ris n t (i + 1) else decide (sx_le n t i < sx_le n t (i + 1)) := by
  rw [sx_ris, sx_ris, show n - i = (n - (i + 1)) + 1 by omega, sx_rd, show n - (n - (i + 1) + 1) = i by omega]
theorem sx_ris_same (h : i < n) (e : sx_le n t i = sx_le n t (i + 1)) : sx_ris n t i = sx_ris n t (i + 1) := by
  rw [sx_ris_eq h, if_pos e]
/-- a rising end: the next letter is no less; if it is the same, the next end rises too -/
theorem sx_ris_up (h : sx_ris n t i = true) : i + 1 < n ∧ t i ≤ t (i + 1) ∧ (t i = t (i + 1) → sx_ris n t (i + 1) = true) := by
  have hi := sx_ris_in h
  rw [sx_ris_eq hi] at h
  split at h
  · rename_i e
    have := sx_ris_in h
    rw [sx_le_lt hi, sx_le_lt this] at e
    exact ⟨this, by omega, fun _ => h⟩
  · rename_i e
    have q := of_decide_eq_true h
    have hn : i + 1 < n := sx_le_in (t := t) (by rw [sx_le_lt hi] at q; omega)
    rw [sx_le_lt hi, sx_le_lt hn] at q e
    exact ⟨hn, by omega, fun e2 => absurd e2 (by omega)⟩
theorem sx_fal_iff : sx_fal n t i = true ↔ i < n ∧ sx_ris n t i = false := by simp [sx_fal]
/-- a falling end: it is the last, or the next letter is no greater; if it is the same, the next end falls too -/
theorem sx_fal_dn (h : sx_fal n t i = true) : i + 1 = n ∨ (i + 1 < n ∧ t (i + 1) ≤ t i ∧ (t i = t (i + 1) → sx_fal n t (i + 1) = true)) := by
  obtain ⟨hi, h⟩ := sx_fal_iff.mp h
  rcases Nat.lt_or_ge (i + 1) n with hn | hn
  · right
    rw [sx_ris_eq hi] at h
    split at h
    · rename_i e
      rw [sx_le_lt hi, sx_le_lt hn] at e
      exact ⟨hn, by omega, fun _ => sx_fal_iff.mpr ⟨hn, h⟩⟩
    · rename_i e
      have q := of_decide_eq_false h
      rw [sx_le_lt hi, sx_le_lt hn] at q e
      exact ⟨hn, by omega, fun e2 => absurd e2 (by omega)⟩
  · left; omega
theorem sx_two (hi : i < n) : sx_fal n t i = true ∨ sx_ris n t i = true := by
  cases h : sx_ris n t i with
  | true => exact Or.inr rfl
  | false => exact Or.inl (sx_fal_iff.mpr ⟨hi, h⟩)
theorem sx_val_iff : sx_val n t i = true ↔ sx_ris n t i = true ∧ 1 ≤ i ∧ sx_fal n t (i - 1) = true := by
  rw [sx_val, Bool.and_eq_true, Bool.and_eq_true, decide_eq_true_iff, sx_fal_iff]
  constructor
  · rintro ⟨a, b, c⟩
    have := sx_ris_in a
    refine ⟨a, b, by omega, ?_⟩
    cases h : sx_ris n t (i - 1) with
    | true => rw [h] at c; cases c
    | false => rfl
  · rintro ⟨a, b, c, d⟩
    exact ⟨a, b, by rw [d]; rfl⟩
/-- right behind a falling end stands a falling one, a valley, or nothing -/
theorem sx_fal_next (h : sx_fal n t i = true) : i + 1 = n ∨ sx_fal n t (i + 1) = true ∨ (sx_val n t (i + 1) = true ∧ t (i + 1) < t i) := by
  rcases sx_fal_dn h with e | ⟨a, b, c⟩
  · exact Or.inl e
  · right
    rcases sx_two (t := t) a with f | f
    · exact Or.inl f
    · right
      refine ⟨sx_val_iff.mpr ⟨f, by omega, h⟩, ?_⟩
      have : t i ≠ t (i + 1) := by
        intro e
        have := (sx_fal_iff.mp (c e)).2
        rw [f] at this; cases this
      omega
/-- with the same letter a falling end comes before a rising one -/
theorem sx_lt_type (hi : sx_fal n t i = true) (hj : sx_ris n t j = true) (e : t i = t j) : sx_lt n t i j := by
  have key : ∀ d i j : Nat, (n - i) + (n - j) ≤ d → sx_fal n t i = true → sx_ris n t j = true → t i = t j → sx_lt n t i j := by
    intro d
    induction d with
    | zero =>
      intro i j h a b
      have := sx_ris_in b
      omega
    | succ d ih =>
      intro i j h a b e
      have hi := (sx_fal_iff.mp a).1
      have hj := sx_ris_in b
      obtain ⟨j1, j2, j3⟩ := sx_ris_up b
      rw [sx_lt_s (by rw [sx_le_lt hi, sx_le_lt hj, e])]
      rcases sx_fal_dn a with q | ⟨q1, q2, q3⟩
      · refine sx_lt_0 ?_
        rw [sx_le_ge (by omega), sx_le_lt j1]; omega
      · rcases Nat.lt_or_ge (t (i + 1)) (t (j + 1)) with l | l
        · refine sx_lt_0 ?_
          rw [sx_le_lt q1, sx_le_lt j1]; omega
        · exact ih (i + 1) (j + 1) (by omega) (q3 (by omega)) (j3 (by omega)) (by omega)
  exact key _ i j (Nat.le_refl _) hi hj e
end
end
section
def lw_okq (q : MethodName × Nat) : Prop := (q.1.cls ≠ "java/lang/invoke/MethodHandle" ∧ q.1.cls ≠ "java/lang/invoke/VarHandle") ∧ Cond.instantiable q.1.cls q.2 ∈ tables_1 ∧ Cond.privateMethod q.1 ∈ tables_1 ∧ Cond.instanceMethod q.1 ∈ tables_1
theorem lw_p0 : lw_okq (⟨"TextEnds", "isLetter", "(I)Z"⟩, 12) := ⟨⟨by decide +kernel, by decide +kernel⟩, List.mem_of_getElem? (i := 7) (by decide +kernel), List.mem_of_getElem? (i := 146) (by decide +kernel), List.mem_of_getElem? (i := 147) (by decide +kernel)⟩
theorem lw_p1 : lw_okq (⟨"TextEnds", "forgetHits", "()V"⟩, 12) := ⟨⟨by decide +kernel, by decide +kernel⟩, List.mem_of_getElem? (i := 7) (by decide +kernel), List.mem_of_getElem? (i := 150) (by decide +kernel), List.mem_of_getElem? (i := 151) (by decide +kernel)⟩
theorem lw_p2 : lw_okq (⟨"TextEnds$EndSorter", "goDown", "()I"⟩, 15) := ⟨⟨by decide +kernel, by decide +kernel⟩, List.mem_of_getElem? (i := 24) (by decide +kernel), List.mem_of_getElem? (i := 175) (by decide +kernel), List.mem_of_getElem? (i := 176) (by decide +kernel)⟩
theorem lw_p3 : lw_okq (⟨"TextEnds$EndSorter", "enter", "(LTextEnds$Level;)V"⟩, 15) := ⟨⟨by decide +kernel, by decide +kernel⟩, List.mem_of_getElem? (i := 24) (by decide +kernel), List.mem_of_getElem? (i := 179) (by decide +kernel), List.mem_of_getElem? (i := 180) (by decide +kernel)⟩
theorem lw_p4 : lw_okq (⟨"TextEnds$EndSorter", "markRising", "()V"⟩, 15) := ⟨⟨by decide +kernel, by decide +kernel⟩, List.mem_of_getElem? (i := 24) (by decide +kernel), List.mem_of_getElem? (i := 183) (by decide +kernel), List.mem_of_getElem? (i := 184) (by decide +kernel)⟩
theorem lw_p5 : lw_okq (⟨"TextEnds$EndSorter", "letterAt", "(I)I"⟩, 15) := ⟨⟨by decide +kernel, by decide +kernel⟩, List.mem_of_getElem? (i := 24) (by decide +kernel), List.mem_of_getElem? (i := 187) (by decide +kernel), List.mem_of_getElem? (i := 188) (by decide +kernel)⟩
theorem lw_p6 : lw_okq (⟨"TextEnds$EndSorter", "isRising", "(I)Z"⟩, 15) := ⟨⟨by decide +kernel, by decide +kernel⟩, List.mem_of_getElem? (i := 24) (by decide +kernel), List.mem_of_getElem? (i := 191) (by decide +kernel), List.mem_of_getElem? (i := 192) (by decide +kernel)⟩
theorem lw_p7 : lw_okq (⟨"TextEnds$EndSorter", "findValleys", "()V"⟩, 15) := ⟨⟨by decide +kernel, by decide +kernel⟩, List.mem_of_getElem? (i := 24) (by decide +kernel), List.mem_of_getElem? (i := 195) (by decide +kernel), List.mem_of_getElem? (i := 196) (by decide +kernel)⟩
theorem lw_p8 : lw_okq (⟨"TextEnds$EndSorter", "isFalling", "(I)Z"⟩, 15) := ⟨⟨by decide +kernel, by decide +kernel⟩, List.mem_of_getElem? (i := 24) (by decide +kernel), List.mem_of_getElem? (i := 199) (by decide +kernel), List.mem_of_getElem? (i := 200) (by decide +kernel)⟩
theorem lw_p9 : lw_okq (⟨"TextEnds$EndSorter", "findBuckets", "()V"⟩, 15) := ⟨⟨by decide +kernel, by decide +kernel⟩, List.mem_of_getElem? (i := 24) (by decide +kernel), List.mem_of_getElem? (i := 206) (by decide +kernel), List.mem_of_getElem? (i := 207) (by decide +kernel)⟩
theorem lw_p10 : lw_okq (⟨"TextEnds$EndSorter", "induceFrom", "([I)V"⟩, 15) := ⟨⟨by decide +kernel, by decide +kernel⟩, List.mem_of_getElem? (i := 24) (by decide +kernel), List.mem_of_getElem? (i := 213) (by decide +kernel), List.mem_of_getElem? (i := 214) (by decide +kernel)⟩
theorem lw_p11 : lw_okq (⟨"TextEnds$EndSorter", "startBuckets", "([II)V"⟩, 15) := ⟨⟨by decide +kernel, by decide +kernel⟩, List.mem_of_getElem? (i := 24) (by decide +kernel), List.mem_of_getElem? (i := 217) (by decide +kernel), List.mem_of_getElem? (i := 218) (by decide +kernel)⟩
theorem lw_p12 : lw_okq (⟨"TextEnds$EndSorter", "placeFront", "(I)V"⟩, 15) := ⟨⟨by decide +kernel, by decide +kernel⟩, List.mem_of_getElem? (i := 24) (by decide +kernel), List.mem_of_getElem? (i := 221) (by decide +kernel), List.mem_of_getElem? (i := 222) (by decide +kernel)⟩
theorem lw_p13 : lw_okq (⟨"TextEnds$EndSorter", "induceFalling", "()V"⟩, 15) := ⟨⟨by decide +kernel, by decide +kernel⟩, List.mem_of_getElem? (i := 24) (by decide +kernel), List.mem_of_getElem? (i := 225) (by decide +kernel), List.mem_of_getElem? (i := 226) (by decide +kernel)⟩
theorem lw_p14 : lw_okq (⟨"TextEnds$EndSorter", "induceRising", "()V"⟩, 15) := ⟨⟨by decide +kernel, by decide +kernel⟩, List.mem_of_getElem? (i := 24) (by decide +kernel), List.mem_of_getElem? (i := 229) (by decide +kernel), List.mem_of_getElem? (i := 230) (by decide +kernel)⟩
theorem lw_p15 : lw_okq (⟨"TextEnds$EndSorter", "placeBack", "(I)V"⟩, 15) := ⟨⟨by decide +kernel, by decide +kernel⟩, List.mem_of_getElem? (i := 24) (by decide +kernel), List.mem_of_getElem? (i := 233) (by decide +kernel), List.mem_of_getElem? (i := 234) (by decide +kernel)⟩
def lw_privs_1 : List (MethodName × Nat) := [(⟨"TextEnds", "isLetter", "(I)Z"⟩, 12), (⟨"TextEnds", "forgetHits", "()V"⟩, 12), (⟨"TextEnds$EndSorter", "goDown", "()I"⟩, 15), (⟨"TextEnds$EndSorter", "enter", "(LTextEnds$Level;)V"⟩, 15), (⟨"TextEnds$EndSorter", "markRising", "()V"⟩, 15), (⟨"TextEnds$EndSorter", "letterAt", "(I)I"⟩, 15), (⟨"TextEnds$EndSorter", "isRising", "(I)Z"⟩, 15), (⟨"TextEnds$EndSorter", "findValleys", "()V"⟩, 15), (⟨"TextEnds$EndSorter", "isFalling", "(I)Z"⟩, 15), (⟨"TextEnds$EndSorter", "findBuckets", "()V"⟩, 15), (⟨"TextEnds$EndSorter", "induceFrom", "([I)V"⟩, 15), (⟨"TextEnds$EndSorter", "startBuckets", "([II)V"⟩, 15), (⟨"TextEnds$EndSorter", "placeFront", "(I)V"⟩, 15), (⟨"TextEnds$EndSorter", "induceFalling", "()V"⟩, 15), (⟨"TextEnds$EndSorter", "induceRising", "()V"⟩, 15), (⟨"TextEnds$EndSorter", "placeBack", "(I)V"⟩, 15)]
theorem lw_r1 : ∀ q ∈ lw_privs_1, lw_okq q := List.forall_mem_cons.mpr ⟨lw_p0, List.forall_mem_cons.mpr ⟨lw_p1, List.forall_mem_cons.mpr ⟨lw_p2, List.forall_mem_cons.mpr ⟨lw_p3, List.forall_mem_cons.mpr ⟨lw_p4, List.forall_mem_cons.mpr ⟨lw_p5, List.forall_mem_cons.mpr ⟨lw_p6, List.forall_mem_cons.mpr ⟨lw_p7, List.forall_mem_cons.mpr ⟨lw_p8, List.forall_mem_cons.mpr ⟨lw_p9, List.forall_mem_cons.mpr ⟨lw_p10, List.forall_mem_cons.mpr ⟨lw_p11, List.forall_mem_cons.mpr ⟨lw_p12, List.forall_mem_cons.mpr ⟨lw_p13, List.forall_mem_cons.mpr ⟨lw_p14, List.forall_mem_cons.mpr ⟨lw_p15, fun _ h => absurd h List.not_mem_nil⟩⟩⟩⟩⟩⟩⟩⟩⟩⟩⟩⟩⟩⟩⟩⟩
theorem lw_p16 : lw_okq (⟨"TextEnds$EndSorter", "gatherValleys", "()V"⟩, 15) := ⟨⟨by decide +kernel, by decide +kernel⟩, List.mem_of_getElem? (i := 24) (by decide +kernel), List.mem_of_getElem? (i := 237) (by decide +kernel), List.mem_of_getElem? (i := 238) (by decide +kernel)⟩
theorem lw_p17 : lw_okq (⟨"TextEnds$EndSorter", "areAllNamed", "(LTextEnds$Level;)Z"⟩, 15) := ⟨⟨by decide +kernel, by decide +kernel⟩, List.mem_of_getElem? (i := 24) (by decide +kernel), List.mem_of_getElem? (i := 241) (by decide +kernel), List.mem_of_getElem? (i := 242) (by decide +kernel)⟩
theorem lw_p18 : lw_okq (⟨"TextEnds$EndSorter", "nameValleys", "([I)I"⟩, 15) := ⟨⟨by decide +kernel, by decide +kernel⟩, List.mem_of_getElem? (i := 24) (by decide +kernel), List.mem_of_getElem? (i := 245) (by decide +kernel), List.mem_of_getElem? (i := 246) (by decide +kernel)⟩
theorem lw_p19 : lw_okq (⟨"TextEnds$EndSorter", "areAlike", "(II)Z"⟩, 15) := ⟨⟨by decide +kernel, by decide +kernel⟩, List.mem_of_getElem? (i := 24) (by decide +kernel), List.mem_of_getElem? (i := 249) (by decide +kernel), List.mem_of_getElem? (i := 250) (by decide +kernel)⟩
theorem lw_p20 : lw_okq (⟨"TextEnds$EndSorter", "stepsToNext", "(I)I"⟩, 15) := ⟨⟨by decide +kernel, by decide +kernel⟩, List.mem_of_getElem? (i := 24) (by decide +kernel), List.mem_of_getElem? (i := 253) (by decide +kernel), List.mem_of_getElem? (i := 254) (by decide +kernel)⟩
theorem lw_p21 : lw_okq (⟨"TextEnds$EndSorter", "takeOrderFromBelow", "()V"⟩, 15) := ⟨⟨by decide +kernel, by decide +kernel⟩, List.mem_of_getElem? (i := 24) (by decide +kernel), List.mem_of_getElem? (i := 257) (by decide +kernel), List.mem_of_getElem? (i := 258) (by decide +kernel)⟩
theorem lw_p22 : lw_okq (⟨"TextEnds", "noteStanding", "()V"⟩, 12) := ⟨⟨by decide +kernel, by decide +kernel⟩, List.mem_of_getElem? (i := 7) (by decide +kernel), List.mem_of_getElem? (i := 261) (by decide +kernel), List.mem_of_getElem? (i := 262) (by decide +kernel)⟩
theorem lw_p23 : lw_okq (⟨"TextEnds", "measureNeighbours", "()V"⟩, 12) := ⟨⟨by decide +kernel, by decide +kernel⟩, List.mem_of_getElem? (i := 7) (by decide +kernel), List.mem_of_getElem? (i := 266) (by decide +kernel), List.mem_of_getElem? (i := 267) (by decide +kernel)⟩
theorem lw_p24 : lw_okq (⟨"TextEnds", "alikeFrom", "(III)I"⟩, 12) := ⟨⟨by decide +kernel, by decide +kernel⟩, List.mem_of_getElem? (i := 7) (by decide +kernel), List.mem_of_getElem? (i := 271) (by decide +kernel), List.mem_of_getElem? (i := 272) (by decide +kernel)⟩
theorem lw_p25 : lw_okq (⟨"TextEnds", "isEnd", "(I)Z"⟩, 12) := ⟨⟨by decide +kernel, by decide +kernel⟩, List.mem_of_getElem? (i := 7) (by decide +kernel), List.mem_of_getElem? (i := 279) (by decide +kernel), List.mem_of_getElem? (i := 280) (by decide +kernel)⟩
theorem lw_p26 : lw_okq (⟨"TextEnds", "firstEndFrom", "(I)I"⟩, 12) := ⟨⟨by decide +kernel, by decide +kernel⟩, List.mem_of_getElem? (i := 7) (by decide +kernel), List.mem_of_getElem? (i := 307) (by decide +kernel), List.mem_of_getElem? (i := 308) (by decide +kernel)⟩
theorem lw_p27 : lw_okq (⟨"TextEnds", "compareWithPattern", "(I)I"⟩, 12) := ⟨⟨by decide +kernel, by decide +kernel⟩, List.mem_of_getElem? (i := 7) (by decide +kernel), List.mem_of_getElem? (i := 311) (by decide +kernel), List.mem_of_getElem? (i := 312) (by decide +kernel)⟩
theorem lw_p28 : lw_okq (⟨"TextEnds", "longestAlike", "()I"⟩, 12) := ⟨⟨by decide +kernel, by decide +kernel⟩, List.mem_of_getElem? (i := 7) (by decide +kernel), List.mem_of_getElem? (i := 323) (by decide +kernel), List.mem_of_getElem? (i := 324) (by decide +kernel)⟩
theorem lw_p29 : lw_okq (⟨"TextEnds", "leastPlaceOf", "(I)I"⟩, 12) := ⟨⟨by decide +kernel, by decide +kernel⟩, List.mem_of_getElem? (i := 7) (by decide +kernel), List.mem_of_getElem? (i := 331) (by decide +kernel), List.mem_of_getElem? (i := 332) (by decide +kernel)⟩
theorem lw_p30 : lw_okq (⟨"TextEndsModel", "isBefore", "(II)Z"⟩, 13) := ⟨⟨by decide +kernel, by decide +kernel⟩, List.mem_of_getElem? (i := 351) (by decide +kernel), List.mem_of_getElem? (i := 410) (by decide +kernel), List.mem_of_getElem? (i := 411) (by decide +kernel)⟩
theorem lw_p31 : lw_okq (⟨"TextEndsModel", "commonOf", "(II)I"⟩, 13) := ⟨⟨by decide +kernel, by decide +kernel⟩, List.mem_of_getElem? (i := 351) (by decide +kernel), List.mem_of_getElem? (i := 414) (by decide +kernel), List.mem_of_getElem? (i := 415) (by decide +kernel)⟩
def lw_privs_2 : List (MethodName × Nat) := [(⟨"TextEnds$EndSorter", "gatherValleys", "()V"⟩, 15), (⟨"TextEnds$EndSorter", "areAllNamed", "(LTextEnds$Level;)Z"⟩, 15), (⟨"TextEnds$EndSorter", "nameValleys", "([I)I"⟩, 15), (⟨"TextEnds$EndSorter", "areAlike", "(II)Z"⟩, 15), (⟨"TextEnds$EndSorter", "stepsToNext", "(I)I"⟩, 15), (⟨"TextEnds$EndSorter", "takeOrderFromBelow", "()V"⟩, 15), (⟨"TextEnds", "noteStanding", "()V"⟩, 12), (⟨"TextEnds", "measureNeighbours", "()V"⟩, 12), (⟨"TextEnds", "alikeFrom", "(III)I"⟩, 12), (⟨"TextEnds", "isEnd", "(I)Z"⟩, 12), (⟨"TextEnds", "firstEndFrom", "(I)I"⟩, 12), (⟨"TextEnds", "compareWithPattern", "(I)I"⟩, 12), (⟨"TextEnds", "longestAlike", "()I"⟩, 12), (⟨"TextEnds", "leastPlaceOf", "(I)I"⟩, 12), (⟨"TextEndsModel", "isBefore", "(II)Z"⟩, 13), (⟨"TextEndsModel", "commonOf", "(II)I"⟩, 13)]
theorem lw_r2 : ∀ q ∈ lw_privs_2, lw_okq q := List.forall_mem_cons.mpr ⟨lw_p16, List.forall_mem_cons.mpr ⟨lw_p17, List.forall_mem_cons.mpr ⟨lw_p18, List.forall_mem_cons.mpr ⟨lw_p19, List.forall_mem_cons.mpr ⟨lw_p20, List.forall_mem_cons.mpr ⟨lw_p21, List.forall_mem_cons.mpr ⟨lw_p22, List.forall_mem_cons.mpr ⟨lw_p23, List.forall_mem_cons.mpr ⟨lw_p24, List.forall_mem_cons.mpr ⟨lw_p25, List.forall_mem_cons.mpr ⟨lw_p26, List.forall_mem_cons.mpr ⟨lw_p27, List.forall_mem_cons.mpr ⟨lw_p28, List.forall_mem_cons.mpr ⟨lw_p29, List.forall_mem_cons.mpr ⟨lw_p30, List.forall_mem_cons.mpr ⟨lw_p31, fun _ h => absurd h List.not_mem_nil⟩⟩⟩⟩⟩⟩⟩⟩⟩⟩⟩⟩⟩⟩⟩⟩
theorem lw_p32 : lw_okq (⟨"TextEndsModel", "isEnd", "(I)Z"⟩, 13) := ⟨⟨by decide +kernel, by decide +kernel⟩, List.mem_of_getElem? (i := 351) (by decide +kernel), List.mem_of_getElem? (i := 422) (by decide +kernel), List.mem_of_getElem? (i := 423) (by decide +kernel)⟩
theorem lw_p33 : lw_okq (⟨"TextEndsModel", "begins", "(I)Z"⟩, 13) := ⟨⟨by decide +kernel, by decide +kernel⟩, List.mem_of_getElem? (i := 351) (by decide +kernel), List.mem_of_getElem? (i := 450) (by decide +kernel), List.mem_of_getElem? (i := 451) (by decide +kernel)⟩
def lw_privs_3 : List (MethodName × Nat) := [(⟨"TextEndsModel", "isEnd", "(I)Z"⟩, 13), (⟨"TextEndsModel", "begins", "(I)Z"⟩, 13)]
theorem lw_r3 : ∀ q ∈ lw_privs_3, lw_okq q := List.forall_mem_cons.mpr ⟨lw_p32, List.forall_mem_cons.mpr ⟨lw_p33, fun _ h => absurd h List.not_mem_nil⟩⟩
def lw_privs : List (MethodName × Nat) := lw_privs_1 ++ (lw_privs_2 ++ (lw_privs_3))
def lw_tbl : List Cond := k2_sels lw_privs ++ tables_1
theorem lw_privs_ok : ∀ q ∈ lw_privs, lw_okq q := by
  show ∀ q ∈ lw_privs_1 ++ (lw_privs_2 ++ (lw_privs_3)), lw_okq q
  exact List.forall_mem_append.mpr ⟨lw_r1, List.forall_mem_append.mpr ⟨lw_r2, lw_r3⟩⟩
end
section
theorem goodIn_r {big : List Cond} (ws : List Cond) (ps : List Nat) (hp : ws = ps.filterMap (fun i => big[i]?)) (h : ws.all goodWord = true) : GoodIn big ws := by
  intro w hw
  have h1 := List.all_eq_true.mp h w hw
  rw [hp] at hw
  obtain ⟨i, -, hi⟩ := List.mem_filterMap.mp hw
  have hm : w ∈ big := by first | exact List.mem_of_getElem? hi | exact List.getElem?_mem hi
  exact ⟨hm, good_of_word h1⟩
theorem goodIn_app {big a b : List Cond} (ha : GoodIn big a) (hb : GoodIn big b) : GoodIn big (a ++ b) := fun w h => (List.mem_append.mp h).elim (ha w) (hb w)
theorem goodIn_ca {big a b : List Cond} {c : Cond} (ha : GoodIn big (c :: a)) (hb : GoodIn big b) : GoodIn big (c :: (a ++ b)) := fun w h => (List.mem_cons.mp h).elim (fun e => ha w (List.mem_cons.mpr (Or.inl e))) (fun h => (List.mem_append.mp h).elim (fun h => ha w (List.mem_cons.mpr (Or.inr h))) (hb w))
theorem goodIn_sub {big ws : List Cond} (hm : ∀ w ∈ ws, w ∈ big) (h : ws.all goodWord = true) : GoodIn big ws := fun w hw => ⟨hm w hw, good_of_word (List.all_eq_true.mp h w hw)⟩
def RX0 : String := "TextEnds$EndSorter"
def TX0 : u_T := fun k => match k with
  | 0 => ("TextEnds$EndSorter", "text", "[I", true)
  | 1 => ("TextEnds$EndSorter", "order", "[I", true)
  | 2 => ("TextEnds$EndSorter", "levels", "[LTextEnds$Level;", true)
  | 3 => ("TextEnds$EndSorter", "rising", "[Z", true)
  | 4 => ("TextEnds$EndSorter", "valleys", "[I", true)
  | 5 => ("TextEnds$EndSorter", "valleyNumber", "[I", true)
  | 6 => ("TextEnds$EndSorter", "sortedValleys", "[I", true)
  | 7 => ("TextEnds$EndSorter", "fallingFrom", "[I", true)
  | 8 => ("TextEnds$EndSorter", "risingFrom", "[I", true)
  | 9 => ("TextEnds$EndSorter", "nextSlot", "[I", true)
  | 10 => ("TextEnds$EndSorter", "textSigma", "I", true)
  | 11 => ("TextEnds$EndSorter", "letters", "[I", false)
  | 12 => ("TextEnds$EndSorter", "length", "I", false)
  | 13 => ("TextEnds$EndSorter", "sigma", "I", false)
  | _ => ("TextEnds$EndSorter", "valleyCount", "I", false)
def tyX0 : Nat → FieldType := fun k => match k with
  | 0 => .array .int
  | 1 => .array .int
  | 2 => .array (.object "TextEnds$Level")
  | 3 => .array .boolean
  | 4 => .array .int
  | 5 => .array .int
  | 6 => .array .int
  | 7 => .array .int
  | 8 => .array .int
  | 9 => .array .int
  | 10 => .int
  | 11 => .array .int
  | 12 => .int
  | 13 => .int
  | _ => .int
abbrev wsX00 : List Cond := u_ws RX0 TX0 15
theorem nmX0 : ∀ a, a < 15 → ∀ b, b < 15 → a ≠ b → (TX0 a).2.1 ≠ (TX0 b).2.1 := by decide +kernel
theorem tyX0_ok : ∀ k, k < 15 → parseFieldDescriptor (TX0 k).2.2.1 = some (tyX0 k) := by decide +kernel
abbrev cX0_init : ByteArray := prog_2_method_1_code
def yX0_init : MethodName := ⟨RX0, "<init>", "(II)V"⟩
abbrev cX0_sortEnds : ByteArray := prog_2_method_2_code
def yX0_sortEnds : MethodName := ⟨RX0, "sortEnds", "(I)V"⟩
abbrev cX0_levelsFor : ByteArray := prog_2_method_3_code
def yX0_levelsFor : MethodName := ⟨RX0, "levelsFor", "(I)I"⟩
abbrev cX0_goDown : ByteArray := prog_2_method_4_code
def yX0_goDown : MethodName := ⟨RX0, "goDown", "()I"⟩
abbrev cX0_areAllNamed : ByteArray := prog_2_method_5_code
def yX0_areAllNamed : MethodName := ⟨RX0, "areAllNamed", "(LTextEnds$Level;)Z"⟩
abbrev cX0_enter : ByteArray := prog_2_method_6_code
def yX0_enter : MethodName := ⟨RX0, "enter", "(LTextEnds$Level;)V"⟩
abbrev cX0_markRising : ByteArray := prog_2_method_7_code
def yX0_markRising : MethodName := ⟨RX0, "markRising", "()V"⟩
abbrev cX0_findValleys : ByteArray := prog_2_method_8_code
def yX0_findValleys : MethodName := ⟨RX0, "findValleys", "()V"⟩
abbrev cX0_findBuckets : ByteArray := prog_2_method_9_code
def yX0_findBuckets : MethodName := ⟨RX0, "findBuckets", "()V"⟩
abbrev cX0_induceFrom : ByteArray := prog_2_method_10_code
def yX0_induceFrom : MethodName := ⟨RX0, "induceFrom", "([I)V"⟩
abbrev cX0_induceFalling : ByteArray := prog_2_method_11_code
def yX0_induceFalling : MethodName := ⟨RX0, "induceFalling", "()V"⟩
abbrev cX0_induceRising : ByteArray := prog_2_method_12_code
def yX0_induceRising : MethodName := ⟨RX0, "induceRising", "()V"⟩
abbrev cX0_startBuckets : ByteArray := prog_2_method_13_code
def yX0_startBuckets : MethodName := ⟨RX0, "startBuckets", "([II)V"⟩
abbrev cX0_placeFront : ByteArray := prog_2_method_14_code
def yX0_placeFront : MethodName := ⟨RX0, "placeFront", "(I)V"⟩
abbrev cX0_placeBack : ByteArray := prog_2_method_15_code
def yX0_placeBack : MethodName := ⟨RX0, "placeBack", "(I)V"⟩
abbrev cX0_gatherValleys : ByteArray := prog_2_method_16_code
def yX0_gatherValleys : MethodName := ⟨RX0, "gatherValleys", "()V"⟩
abbrev cX0_nameValleys : ByteArray := prog_2_method_17_code
def yX0_nameValleys : MethodName := ⟨RX0, "nameValleys", "([I)I"⟩
abbrev cX0_areAlike : ByteArray := prog_2_method_18_code
def yX0_areAlike : MethodName := ⟨RX0, "areAlike", "(II)Z"⟩
abbrev cX0_stepsToNext : ByteArray := prog_2_method_19_code
def yX0_stepsToNext : MethodName := ⟨RX0, "stepsToNext", "(I)I"⟩
abbrev cX0_takeOrderFromBelow : ByteArray := prog_2_method_20_code
def yX0_takeOrderFromBelow : MethodName := ⟨RX0, "takeOrderFromBelow", "()V"⟩
abbrev cX0_letterAt : ByteArray := prog_2_method_21_code
def yX0_letterAt : MethodName := ⟨RX0, "letterAt", "(I)I"⟩
abbrev cX0_isRising : ByteArray := prog_2_method_22_code
def yX0_isRising : MethodName := ⟨RX0, "isRising", "(I)Z"⟩
abbrev cX0_isFalling : ByteArray := prog_2_method_23_code
def yX0_isFalling : MethodName := ⟨RX0, "isFalling", "(I)Z"⟩
def RX1 : String := "TextEnds$Level"
def TX1 : u_T := fun k => match k with
  | 0 => ("TextEnds$Level", "letters", "[I", true)
  | 1 => ("TextEnds$Level", "length", "I", false)
  | _ => ("TextEnds$Level", "sigma", "I", false)
def tyX1 : Nat → FieldType := fun k => match k with
  | 0 => .array .int
  | 1 => .int
  | _ => .int
abbrev wsX10 : List Cond := u_ws RX1 TX1 3
theorem nmX1 : ∀ a, a < 3 → ∀ b, b < 3 → a ≠ b → (TX1 a).2.1 ≠ (TX1 b).2.1 := by decide +kernel
theorem tyX1_ok : ∀ k, k < 3 → parseFieldDescriptor (TX1 k).2.2.1 = some (tyX1 k) := by decide +kernel
abbrev cX1_init : ByteArray := prog_3_method_1_code
def yX1_init : MethodName := ⟨RX1, "<init>", "(I)V"⟩
abbrev cX1_hold : ByteArray := prog_3_method_2_code
def yX1_hold : MethodName := ⟨RX1, "hold", "(II)V"⟩
def RX2 : String := "TextEnds"
def TX2 : u_T := fun k => match k with
  | 0 => ("TextEnds", "sigma", "I", true)
  | 1 => ("TextEnds", "sorter", "LTextEnds$EndSorter;", true)
  | 2 => ("TextEnds", "text", "[I", true)
  | 3 => ("TextEnds", "order", "[I", true)
  | 4 => ("TextEnds", "pattern", "[I", true)
  | 5 => ("TextEnds", "standing", "[I", true)
  | 6 => ("TextEnds", "alike", "[I", true)
  | 7 => ("TextEnds", "length", "I", false)
  | 8 => ("TextEnds", "patternLength", "I", false)
  | 9 => ("TextEnds", "built", "Z", false)
  | 10 => ("TextEnds", "firstHit", "I", false)
  | _ => ("TextEnds", "hits", "I", false)
def tyX2 : Nat → FieldType := fun k => match k with
  | 0 => .int
  | 1 => .object "TextEnds$EndSorter"
  | 2 => .array .int
  | 3 => .array .int
  | 4 => .array .int
  | 5 => .array .int
  | 6 => .array .int
  | 7 => .int
  | 8 => .int
  | 9 => .boolean
  | 10 => .int
  | _ => .int
abbrev wsX20 : List Cond := u_ws RX2 TX2 12
theorem nmX2 : ∀ a, a < 12 → ∀ b, b < 12 → a ≠ b → (TX2 a).2.1 ≠ (TX2 b).2.1 := by decide +kernel
theorem tyX2_ok : ∀ k, k < 12 → parseFieldDescriptor (TX2 k).2.2.1 = some (tyX2 k) := by decide +kernel
abbrev cX2_init : ByteArray := prog_1_method_1_code
def yX2_init : MethodName := ⟨RX2, "<init>", "(III)V"⟩
abbrev cX2_feed : ByteArray := prog_1_method_2_code
def yX2_feed : MethodName := ⟨RX2, "feed", "(I)Z"⟩
abbrev cX2_feedAll : ByteArray := prog_1_method_3_code
def yX2_feedAll : MethodName := ⟨RX2, "feedAll", "(IIIII)I"⟩
abbrev cX2_build : ByteArray := prog_1_method_4_code
def yX2_build : MethodName := ⟨RX2, "build", "()I"⟩
abbrev cX2_sa : ByteArray := prog_1_method_5_code
def yX2_sa : MethodName := ⟨RX2, "sa", "(I)I"⟩
abbrev cX2_lcp : ByteArray := prog_1_method_6_code
def yX2_lcp : MethodName := ⟨RX2, "lcp", "(I)I"⟩
abbrev cX2_rank : ByteArray := prog_1_method_7_code
def yX2_rank : MethodName := ⟨RX2, "rank", "(I)I"⟩
abbrev cX2_common : ByteArray := prog_1_method_8_code
def yX2_common : MethodName := ⟨RX2, "common", "(II)I"⟩
abbrev cX2_patFeed : ByteArray := prog_1_method_9_code
def yX2_patFeed : MethodName := ⟨RX2, "patFeed", "(I)Z"⟩
abbrev cX2_patClear : ByteArray := prog_1_method_10_code
def yX2_patClear : MethodName := ⟨RX2, "patClear", "()V"⟩
abbrev cX2_search : ByteArray := prog_1_method_11_code
def yX2_search : MethodName := ⟨RX2, "search", "()I"⟩
abbrev cX2_hit : ByteArray := prog_1_method_12_code
def yX2_hit : MethodName := ⟨RX2, "hit", "(I)I"⟩
abbrev cX2_repeated : ByteArray := prog_1_method_13_code
def yX2_repeated : MethodName := ⟨RX2, "repeated", "()I"⟩
abbrev cX2_repeatedAt : ByteArray := prog_1_method_14_code
def yX2_repeatedAt : MethodName := ⟨RX2, "repeatedAt", "()I"⟩
abbrev cX2_different : ByteArray := prog_1_method_15_code
def yX2_different : MethodName := ⟨RX2, "different", "()I"⟩
abbrev cX2_count : ByteArray := prog_1_method_16_code
def yX2_count : MethodName := ⟨RX2, "count", "(I)I"⟩
abbrev cX2_clear : ByteArray := prog_1_method_17_code
def yX2_clear : MethodName := ⟨RX2, "clear", "()V"⟩
abbrev cX2_nearest : ByteArray := prog_1_method_18_code
def yX2_nearest : MethodName := ⟨RX2, "nearest", "(II)I"⟩
abbrev cX2_at : ByteArray := prog_1_method_19_code
def yX2_at : MethodName := ⟨RX2, "at", "([II)I"⟩
abbrev cX2_put : ByteArray := prog_1_method_20_code
def yX2_put : MethodName := ⟨RX2, "put", "([III)V"⟩
abbrev cX2_packedLetter : ByteArray := prog_1_method_21_code
def yX2_packedLetter : MethodName := ⟨RX2, "packedLetter", "(IIIII)I"⟩
abbrev cX2_isLetter : ByteArray := prog_1_method_22_code
def yX2_isLetter : MethodName := ⟨RX2, "isLetter", "(I)Z"⟩
abbrev cX2_isEnd : ByteArray := prog_1_method_23_code
def yX2_isEnd : MethodName := ⟨RX2, "isEnd", "(I)Z"⟩
abbrev cX2_forgetHits : ByteArray := prog_1_method_24_code
def yX2_forgetHits : MethodName := ⟨RX2, "forgetHits", "()V"⟩
abbrev cX2_noteStanding : ByteArray := prog_1_method_25_code
def yX2_noteStanding : MethodName := ⟨RX2, "noteStanding", "()V"⟩
abbrev cX2_measureNeighbours : ByteArray := prog_1_method_26_code
def yX2_measureNeighbours : MethodName := ⟨RX2, "measureNeighbours", "()V"⟩
abbrev cX2_alikeFrom : ByteArray := prog_1_method_27_code
def yX2_alikeFrom : MethodName := ⟨RX2, "alikeFrom", "(III)I"⟩
abbrev cX2_firstEndFrom : ByteArray := prog_1_method_28_code
def yX2_firstEndFrom : MethodName := ⟨RX2, "firstEndFrom", "(I)I"⟩
abbrev cX2_compareWithPattern : ByteArray := prog_1_method_29_code
def yX2_compareWithPattern : MethodName := ⟨RX2, "compareWithPattern", "(I)I"⟩
abbrev cX2_longestAlike : ByteArray := prog_1_method_30_code
def yX2_longestAlike : MethodName := ⟨RX2, "longestAlike", "()I"⟩
abbrev cX2_leastPlaceOf : ByteArray := prog_1_method_31_code
def yX2_leastPlaceOf : MethodName := ⟨RX2, "leastPlaceOf", "(I)I"⟩
def RX3 : String := "TextEndsModel"
def TX3 : u_T := fun k => match k with
  | 0 => ("TextEndsModel", "room", "I", true)
  | 1 => ("TextEndsModel", "sigma", "I", true)
  | 2 => ("TextEndsModel", "patternRoom", "I", true)
  | 3 => ("TextEndsModel", "text", "[I", true)
  | 4 => ("TextEndsModel", "size", "I", false)
  | 5 => ("TextEndsModel", "built", "Z", false)
  | 6 => ("TextEndsModel", "order", "[I", true)
  | 7 => ("TextEndsModel", "other", "[I", true)
  | 8 => ("TextEndsModel", "pattern", "[I", true)
  | 9 => ("TextEndsModel", "patternSize", "I", false)
  | 10 => ("TextEndsModel", "first", "I", false)
  | 11 => ("TextEndsModel", "hits", "I", false)
  | _ => ("TextEndsModel", "found", "Z", false)
def tyX3 : Nat → FieldType := fun k => match k with
  | 0 => .int
  | 1 => .int
  | 2 => .int
  | 3 => .array .int
  | 4 => .int
  | 5 => .boolean
  | 6 => .array .int
  | 7 => .array .int
  | 8 => .array .int
  | 9 => .int
  | 10 => .int
  | 11 => .int
  | _ => .boolean
abbrev wsX30 : List Cond := u_ws RX3 TX3 13
theorem nmX3 : ∀ a, a < 13 → ∀ b, b < 13 → a ≠ b → (TX3 a).2.1 ≠ (TX3 b).2.1 := by decide +kernel
theorem tyX3_ok : ∀ k, k < 13 → parseFieldDescriptor (TX3 k).2.2.1 = some (tyX3 k) := by decide +kernel
abbrev cX3_init : ByteArray := prog_5_method_1_code
def yX3_init : MethodName := ⟨RX3, "<init>", "(III)V"⟩
abbrev cX3_feed : ByteArray := prog_5_method_3_code
def yX3_feed : MethodName := ⟨RX3, "feed", "(I)Z"⟩
abbrev cX3_feedAll : ByteArray := prog_5_method_4_code
def yX3_feedAll : MethodName := ⟨RX3, "feedAll", "(IIIII)I"⟩
abbrev cX3_commonOf : ByteArray := prog_5_method_5_code
def yX3_commonOf : MethodName := ⟨RX3, "commonOf", "(II)I"⟩
abbrev cX3_isBefore : ByteArray := prog_5_method_6_code
def yX3_isBefore : MethodName := ⟨RX3, "isBefore", "(II)Z"⟩
abbrev cX3_build : ByteArray := prog_5_method_7_code
def yX3_build : MethodName := ⟨RX3, "build", "()I"⟩
abbrev cX3_isEnd : ByteArray := prog_5_method_8_code
def yX3_isEnd : MethodName := ⟨RX3, "isEnd", "(I)Z"⟩
abbrev cX3_sa : ByteArray := prog_5_method_9_code
def yX3_sa : MethodName := ⟨RX3, "sa", "(I)I"⟩
abbrev cX3_lcp : ByteArray := prog_5_method_10_code
def yX3_lcp : MethodName := ⟨RX3, "lcp", "(I)I"⟩
abbrev cX3_rank : ByteArray := prog_5_method_11_code
def yX3_rank : MethodName := ⟨RX3, "rank", "(I)I"⟩
abbrev cX3_common : ByteArray := prog_5_method_12_code
def yX3_common : MethodName := ⟨RX3, "common", "(II)I"⟩
abbrev cX3_patFeed : ByteArray := prog_5_method_13_code
def yX3_patFeed : MethodName := ⟨RX3, "patFeed", "(I)Z"⟩
abbrev cX3_patClear : ByteArray := prog_5_method_14_code
def yX3_patClear : MethodName := ⟨RX3, "patClear", "()V"⟩
abbrev cX3_begins : ByteArray := prog_5_method_15_code
def yX3_begins : MethodName := ⟨RX3, "begins", "(I)Z"⟩
abbrev cX3_search : ByteArray := prog_5_method_16_code
def yX3_search : MethodName := ⟨RX3, "search", "()I"⟩
abbrev cX3_hit : ByteArray := prog_5_method_17_code
def yX3_hit : MethodName := ⟨RX3, "hit", "(I)I"⟩
abbrev cX3_repeated : ByteArray := prog_5_method_18_code
def yX3_repeated : MethodName := ⟨RX3, "repeated", "()I"⟩
abbrev cX3_repeatedAt : ByteArray := prog_5_method_19_code
def yX3_repeatedAt : MethodName := ⟨RX3, "repeatedAt", "()I"⟩
abbrev cX3_different : ByteArray := prog_5_method_20_code
def yX3_different : MethodName := ⟨RX3, "different", "()I"⟩
abbrev cX3_count : ByteArray := prog_5_method_21_code
def yX3_count : MethodName := ⟨RX3, "count", "(I)I"⟩
abbrev cX3_clear : ByteArray := prog_5_method_22_code
def yX3_clear : MethodName := ⟨RX3, "clear", "()V"⟩
def RJ9 : String := "java/lang/Math"
def TJ9 : u_T := fun k => match k with
  | _ => ("", "", "", false)
def tyJ9 : Nat → FieldType := fun k => match k with
  | _ => .int
abbrev wsJ90 : List Cond := u_ws RJ9 TJ9 0
theorem nmJ9 : ∀ a, a < 0 → ∀ b, b < 0 → a ≠ b → (TJ9 a).2.1 ≠ (TJ9 b).2.1 := by decide +kernel
theorem tyJ9_ok : ∀ k, k < 0 → parseFieldDescriptor (TJ9 k).2.2.1 = some (tyJ9 k) := by decide +kernel
abbrev cJ9_max_7cf53 : ByteArray := prog_6_method_65_code
def yJ9_max_7cf53 : MethodName := ⟨RJ9, "max", "(II)I"⟩
abbrev cJ9_min_7cf53 : ByteArray := prog_6_method_69_code
def yJ9_min_7cf53 : MethodName := ⟨RJ9, "min", "(II)I"⟩
def RL : String := "TextEndsLaw"
abbrev cL_cell : ByteArray := method_2_code
def yL_cell : MethodName := ⟨RL, "cell", "([II)I"⟩
abbrev cL_law : ByteArray := code
def yL_law : MethodName := ⟨RL, "law", "([I)Z"⟩
def wsX0_levelsFor : List Cond := .code yX0_levelsFor cX0_levelsFor 3 (some .int) :: ([])
def wsX1_init : List Cond := .code yX1_init cX1_init 2 none :: ([.methodLink RX1 1 objectInit, .instanceMethod objectInit, .code objectInit ⟨#[0xb1]⟩ 1 none, .methodLink RX1 7 Lib.Math.max.name, .static Lib.Math.max.name, .initialized "java/lang/Math", .code Lib.Math.max.name Lib.Math.max.code 2 (some .int), .arrayClass .int, .fieldLink RX1 13 "TextEnds$Level" "letters" "[I"] ++ wsX10)
def wsX0_init_r1 : List Cond := [Cond.methodLink RX0 3 objectInit, Cond.instanceMethod objectInit, Cond.code objectInit ⟨#[0xb1]⟩ 1 none, Cond.classLink RX0 15 RX1, Cond.fieldLink RX0 17 "TextEnds$EndSorter" "levels" "[LTextEnds$Level;", Cond.instantiable RX1 3, Cond.initialized RX1, Cond.methodLink RX0 24 Lib.Math.max.name, Cond.static Lib.Math.max.name, Cond.initialized "java/lang/Math", Cond.code Lib.Math.max.name Lib.Math.max.code 2 (some .int), Cond.fieldLink RX0 30 "TextEnds$EndSorter" "textSigma" "I", Cond.fieldLink RX0 34 "TextEnds$Level" "letters" "[I", Cond.fieldLink RX0 38 "TextEnds$EndSorter" "text" "[I", Cond.fieldLink RX0 41 "TextEnds$EndSorter" "letters" "[I", Cond.arrayClass .int, Cond.fieldLink RX0 42 "TextEnds$EndSorter" "order" "[I", Cond.arrayClass .boolean, Cond.fieldLink RX0 45 "TextEnds$EndSorter" "rising" "[Z", Cond.fieldLink RX0 49 "TextEnds$EndSorter" "valleyNumber" "[I", Cond.fieldLink RX0 52 "TextEnds$EndSorter" "valleys" "[I", Cond.fieldLink RX0 55 "TextEnds$EndSorter" "sortedValleys" "[I", Cond.fieldLink RX0 58 "TextEnds$EndSorter" "fallingFrom" "[I", Cond.fieldLink RX0 61 "TextEnds$EndSorter" "risingFrom" "[I"]
def wsX0_init_r2 : List Cond := [Cond.fieldLink RX0 64 "TextEnds$EndSorter" "nextSlot" "[I", Cond.methodLink RX0 9 yX0_levelsFor, Cond.static yX0_levelsFor, Cond.initialized RX0, Cond.code yX0_levelsFor cX0_levelsFor 3 (some .int), Cond.methodLink RX0 21 yX1_init, Cond.instanceMethod yX1_init, Cond.code yX1_init cX1_init 2 none, Cond.methodLink RX1 1 objectInit, Cond.methodLink RX1 7 Lib.Math.max.name, Cond.fieldLink RX1 13 "TextEnds$Level" "letters" "[I"]
def wsX0_init : List Cond := .code yX0_init cX0_init 4 none :: ((wsX0_init_r1 ++ wsX0_init_r2) ++ wsX00 ++ wsX10)
def wsX1_hold : List Cond := .code yX1_hold cX1_hold 3 none :: ([.fieldLink RX1 13 "TextEnds$Level" "letters" "[I", .methodLink RX1 19 Lib.Math.min.name, .static Lib.Math.min.name, .initialized "java/lang/Math", .code Lib.Math.min.name Lib.Math.min.code 2 (some .int), .fieldLink RX1 22 "TextEnds$Level" "length" "I", .fieldLink RX1 26 "TextEnds$Level" "sigma" "I"] ++ wsX10)
def wsX0_letterAt : List Cond := .code yX0_letterAt cX0_letterAt 2 (some .int) :: ([.fieldLink RX0 103 "TextEnds$EndSorter" "length" "I", .fieldLink RX0 41 "TextEnds$EndSorter" "letters" "[I"] ++ wsX00)
def wsX0_isRising : List Cond := .code yX0_isRising cX0_isRising 2 (some .boolean) :: ([.fieldLink RX0 103 "TextEnds$EndSorter" "length" "I", .fieldLink RX0 45 "TextEnds$EndSorter" "rising" "[Z"] ++ wsX00)
def wsX0_markRising : List Cond := .code yX0_markRising cX0_markRising 4 none :: ([.fieldLink RX0 103 "TextEnds$EndSorter" "length" "I", .fieldLink RX0 45 "TextEnds$EndSorter" "rising" "[Z", .methodLink RX0 117 yX0_letterAt, .instanceMethod yX0_letterAt, .selects RX0 yX0_letterAt yX0_letterAt, .initialized RX0, .code yX0_letterAt cX0_letterAt 2 (some .int), .fieldLink RX0 41 "TextEnds$EndSorter" "letters" "[I", .methodLink RX0 120 yX0_isRising, .instanceMethod yX0_isRising, .selects RX0 yX0_isRising yX0_isRising, .code yX0_isRising cX0_isRising 2 (some .boolean)] ++ wsX00)
def wsX0_isFalling : List Cond := .code yX0_isFalling cX0_isFalling 2 (some .boolean) :: ([.fieldLink RX0 103 "TextEnds$EndSorter" "length" "I", .fieldLink RX0 45 "TextEnds$EndSorter" "rising" "[Z"] ++ wsX00)
def wsX2_put : List Cond := .code yX2_put cX2_put 3 none :: ([])
def wsX0_findValleys : List Cond := .code yX0_findValleys cX0_findValleys 3 none :: ([.fieldLink RX0 97 "TextEnds$EndSorter" "valleyCount" "I", .fieldLink RX0 103 "TextEnds$EndSorter" "length" "I", .fieldLink RX0 49 "TextEnds$EndSorter" "valleyNumber" "[I", .fieldLink RX0 52 "TextEnds$EndSorter" "valleys" "[I", .methodLink RX0 120 yX0_isRising, .instanceMethod yX0_isRising, .selects RX0 yX0_isRising yX0_isRising, .initialized RX0, .code yX0_isRising cX0_isRising 2 (some .boolean), .fieldLink RX0 45 "TextEnds$EndSorter" "rising" "[Z", .methodLink RX0 124 yX0_isFalling, .instanceMethod yX0_isFalling, .selects RX0 yX0_isFalling yX0_isFalling, .code yX0_isFalling cX0_isFalling 2 (some .boolean), .static yX2_put, .initialized RX2, .code yX2_put cX2_put 3 none] ++ wsX00)
def wsX2_at : List Cond := .code yX2_at cX2_at 2 (some .int) :: ([])
def wsX0_findBuckets : List Cond := .code yX0_findBuckets cX0_findBuckets 5 none :: ([.fieldLink RX0 107 "TextEnds$EndSorter" "sigma" "I", .fieldLink RX0 58 "TextEnds$EndSorter" "fallingFrom" "[I", .fieldLink RX0 61 "TextEnds$EndSorter" "risingFrom" "[I", .fieldLink RX0 103 "TextEnds$EndSorter" "length" "I", .fieldLink RX0 45 "TextEnds$EndSorter" "rising" "[Z", .methodLink RX0 117 yX0_letterAt, .instanceMethod yX0_letterAt, .selects RX0 yX0_letterAt yX0_letterAt, .initialized RX0, .code yX0_letterAt cX0_letterAt 2 (some .int), .fieldLink RX0 41 "TextEnds$EndSorter" "letters" "[I", .static yX2_at, .initialized RX2, .code yX2_at cX2_at 2 (some .int), .static yX2_put, .code yX2_put cX2_put 3 none] ++ wsX00)
def wsX0_enter_r1 : List Cond := [Cond.fieldLink RX0 34 "TextEnds$Level" "letters" "[I", Cond.fieldLink RX0 41 "TextEnds$EndSorter" "letters" "[I", Cond.fieldLink RX0 100 "TextEnds$Level" "length" "I", Cond.fieldLink RX0 103 "TextEnds$EndSorter" "length" "I", Cond.fieldLink RX0 104 "TextEnds$Level" "sigma" "I", Cond.fieldLink RX0 107 "TextEnds$EndSorter" "sigma" "I", Cond.methodLink RX0 108 yX0_markRising, Cond.instanceMethod yX0_markRising, Cond.selects RX0 yX0_markRising yX0_markRising, Cond.initialized RX0, Cond.code yX0_markRising cX0_markRising 4 none, Cond.fieldLink RX0 45 "TextEnds$EndSorter" "rising" "[Z", Cond.methodLink RX0 117 yX0_letterAt, Cond.instanceMethod yX0_letterAt, Cond.selects RX0 yX0_letterAt yX0_letterAt, Cond.code yX0_letterAt cX0_letterAt 2 (some .int), Cond.methodLink RX0 120 yX0_isRising, Cond.instanceMethod yX0_isRising, Cond.selects RX0 yX0_isRising yX0_isRising, Cond.code yX0_isRising cX0_isRising 2 (some .boolean), Cond.methodLink RX0 111 yX0_findValleys, Cond.instanceMethod yX0_findValleys, Cond.selects RX0 yX0_findValleys yX0_findValleys, Cond.code yX0_findValleys cX0_findValleys 3 none]
def wsX0_enter_r2 : List Cond := [Cond.fieldLink RX0 97 "TextEnds$EndSorter" "valleyCount" "I", Cond.fieldLink RX0 49 "TextEnds$EndSorter" "valleyNumber" "[I", Cond.fieldLink RX0 52 "TextEnds$EndSorter" "valleys" "[I", Cond.methodLink RX0 124 yX0_isFalling, Cond.instanceMethod yX0_isFalling, Cond.selects RX0 yX0_isFalling yX0_isFalling, Cond.code yX0_isFalling cX0_isFalling 2 (some .boolean), Cond.static yX2_put, Cond.initialized RX2, Cond.code yX2_put cX2_put 3 none, Cond.methodLink RX0 114 yX0_findBuckets, Cond.instanceMethod yX0_findBuckets, Cond.selects RX0 yX0_findBuckets yX0_findBuckets, Cond.code yX0_findBuckets cX0_findBuckets 5 none, Cond.fieldLink RX0 58 "TextEnds$EndSorter" "fallingFrom" "[I", Cond.fieldLink RX0 61 "TextEnds$EndSorter" "risingFrom" "[I", Cond.static yX2_at, Cond.code yX2_at cX2_at 2 (some .int)]
def wsX0_enter : List Cond := .code yX0_enter cX0_enter 2 none :: ((wsX0_enter_r1 ++ wsX0_enter_r2) ++ wsX10 ++ wsX00)
def wsX0_startBuckets : List Cond := .code yX0_startBuckets cX0_startBuckets 4 none :: ([.fieldLink RX0 107 "TextEnds$EndSorter" "sigma" "I", .fieldLink RX0 64 "TextEnds$EndSorter" "nextSlot" "[I", .static yX2_at, .initialized RX2, .code yX2_at cX2_at 2 (some .int)] ++ wsX00)
def wsX0_placeFront : List Cond := .code yX0_placeFront cX0_placeFront 4 none :: ([.fieldLink RX0 64 "TextEnds$EndSorter" "nextSlot" "[I", .fieldLink RX0 42 "TextEnds$EndSorter" "order" "[I", .methodLink RX0 117 yX0_letterAt, .instanceMethod yX0_letterAt, .selects RX0 yX0_letterAt yX0_letterAt, .initialized RX0, .code yX0_letterAt cX0_letterAt 2 (some .int), .fieldLink RX0 103 "TextEnds$EndSorter" "length" "I", .fieldLink RX0 41 "TextEnds$EndSorter" "letters" "[I", .static yX2_at, .initialized RX2, .code yX2_at cX2_at 2 (some .int), .static yX2_put, .code yX2_put cX2_put 3 none] ++ wsX00)
def wsX0_induceFalling_r1 : List Cond := [Cond.fieldLink RX0 58 "TextEnds$EndSorter" "fallingFrom" "[I", Cond.fieldLink RX0 103 "TextEnds$EndSorter" "length" "I", Cond.fieldLink RX0 42 "TextEnds$EndSorter" "order" "[I", Cond.methodLink RX0 135 yX0_startBuckets, Cond.instanceMethod yX0_startBuckets, Cond.selects RX0 yX0_startBuckets yX0_startBuckets, Cond.initialized RX0, Cond.code yX0_startBuckets cX0_startBuckets 4 none, Cond.fieldLink RX0 107 "TextEnds$EndSorter" "sigma" "I", Cond.fieldLink RX0 64 "TextEnds$EndSorter" "nextSlot" "[I", Cond.static yX2_at, Cond.initialized RX2, Cond.code yX2_at cX2_at 2 (some .int), Cond.methodLink RX0 139 yX0_placeFront, Cond.instanceMethod yX0_placeFront, Cond.selects RX0 yX0_placeFront yX0_placeFront, Cond.code yX0_placeFront cX0_placeFront 4 none, Cond.methodLink RX0 117 yX0_letterAt, Cond.instanceMethod yX0_letterAt, Cond.selects RX0 yX0_letterAt yX0_letterAt, Cond.code yX0_letterAt cX0_letterAt 2 (some .int), Cond.fieldLink RX0 41 "TextEnds$EndSorter" "letters" "[I", Cond.static yX2_put, Cond.code yX2_put cX2_put 3 none]
def wsX0_induceFalling_r2 : List Cond := [Cond.methodLink RX0 124 yX0_isFalling, Cond.instanceMethod yX0_isFalling, Cond.selects RX0 yX0_isFalling yX0_isFalling, Cond.code yX0_isFalling cX0_isFalling 2 (some .boolean), Cond.fieldLink RX0 45 "TextEnds$EndSorter" "rising" "[Z"]
def wsX0_induceFalling : List Cond := .code yX0_induceFalling cX0_induceFalling 3 none :: ((wsX0_induceFalling_r1 ++ wsX0_induceFalling_r2) ++ wsX00)
def wsX0_placeBack : List Cond := .code yX0_placeBack cX0_placeBack 4 none :: ([.fieldLink RX0 64 "TextEnds$EndSorter" "nextSlot" "[I", .fieldLink RX0 42 "TextEnds$EndSorter" "order" "[I", .methodLink RX0 117 yX0_letterAt, .instanceMethod yX0_letterAt, .selects RX0 yX0_letterAt yX0_letterAt, .initialized RX0, .code yX0_letterAt cX0_letterAt 2 (some .int), .fieldLink RX0 103 "TextEnds$EndSorter" "length" "I", .fieldLink RX0 41 "TextEnds$EndSorter" "letters" "[I", .static yX2_at, .initialized RX2, .code yX2_at cX2_at 2 (some .int), .static yX2_put, .code yX2_put cX2_put 3 none] ++ wsX00)
def wsX0_induceRising_r1 : List Cond := [Cond.fieldLink RX0 58 "TextEnds$EndSorter" "fallingFrom" "[I", Cond.fieldLink RX0 103 "TextEnds$EndSorter" "length" "I", Cond.fieldLink RX0 42 "TextEnds$EndSorter" "order" "[I", Cond.methodLink RX0 135 yX0_startBuckets, Cond.instanceMethod yX0_startBuckets, Cond.selects RX0 yX0_startBuckets yX0_startBuckets, Cond.initialized RX0, Cond.code yX0_startBuckets cX0_startBuckets 4 none, Cond.fieldLink RX0 107 "TextEnds$EndSorter" "sigma" "I", Cond.fieldLink RX0 64 "TextEnds$EndSorter" "nextSlot" "[I", Cond.static yX2_at, Cond.initialized RX2, Cond.code yX2_at cX2_at 2 (some .int), Cond.methodLink RX0 120 yX0_isRising, Cond.instanceMethod yX0_isRising, Cond.selects RX0 yX0_isRising yX0_isRising, Cond.code yX0_isRising cX0_isRising 2 (some .boolean), Cond.fieldLink RX0 45 "TextEnds$EndSorter" "rising" "[Z", Cond.methodLink RX0 148 yX0_placeBack, Cond.instanceMethod yX0_placeBack, Cond.selects RX0 yX0_placeBack yX0_placeBack, Cond.code yX0_placeBack cX0_placeBack 4 none, Cond.methodLink RX0 117 yX0_letterAt, Cond.instanceMethod yX0_letterAt]
def wsX0_induceRising_r2 : List Cond := [Cond.selects RX0 yX0_letterAt yX0_letterAt, Cond.code yX0_letterAt cX0_letterAt 2 (some .int), Cond.fieldLink RX0 41 "TextEnds$EndSorter" "letters" "[I", Cond.static yX2_put, Cond.code yX2_put cX2_put 3 none]
def wsX0_induceRising : List Cond := .code yX0_induceRising cX0_induceRising 3 none :: ((wsX0_induceRising_r1 ++ wsX0_induceRising_r2) ++ wsX00)
def wsX0_induceFrom_r1 : List Cond := [Cond.fieldLink RX0 103 "TextEnds$EndSorter" "length" "I", Cond.fieldLink RX0 42 "TextEnds$EndSorter" "order" "[I", Cond.fieldLink RX0 61 "TextEnds$EndSorter" "risingFrom" "[I", Cond.fieldLink RX0 97 "TextEnds$EndSorter" "valleyCount" "I", Cond.methodLink RX0 135 yX0_startBuckets, Cond.instanceMethod yX0_startBuckets, Cond.selects RX0 yX0_startBuckets yX0_startBuckets, Cond.initialized RX0, Cond.code yX0_startBuckets cX0_startBuckets 4 none, Cond.fieldLink RX0 107 "TextEnds$EndSorter" "sigma" "I", Cond.fieldLink RX0 64 "TextEnds$EndSorter" "nextSlot" "[I", Cond.static yX2_at, Cond.initialized RX2, Cond.code yX2_at cX2_at 2 (some .int), Cond.methodLink RX0 139 yX0_placeFront, Cond.instanceMethod yX0_placeFront, Cond.selects RX0 yX0_placeFront yX0_placeFront, Cond.code yX0_placeFront cX0_placeFront 4 none, Cond.methodLink RX0 117 yX0_letterAt, Cond.instanceMethod yX0_letterAt, Cond.selects RX0 yX0_letterAt yX0_letterAt, Cond.code yX0_letterAt cX0_letterAt 2 (some .int), Cond.fieldLink RX0 41 "TextEnds$EndSorter" "letters" "[I", Cond.static yX2_put]
def wsX0_induceFrom_r2 : List Cond := [Cond.code yX2_put cX2_put 3 none, Cond.methodLink RX0 142 yX0_induceFalling, Cond.instanceMethod yX0_induceFalling, Cond.selects RX0 yX0_induceFalling yX0_induceFalling, Cond.code yX0_induceFalling cX0_induceFalling 3 none, Cond.fieldLink RX0 58 "TextEnds$EndSorter" "fallingFrom" "[I", Cond.methodLink RX0 124 yX0_isFalling, Cond.instanceMethod yX0_isFalling, Cond.selects RX0 yX0_isFalling yX0_isFalling, Cond.code yX0_isFalling cX0_isFalling 2 (some .boolean), Cond.fieldLink RX0 45 "TextEnds$EndSorter" "rising" "[Z", Cond.methodLink RX0 145 yX0_induceRising, Cond.instanceMethod yX0_induceRising, Cond.selects RX0 yX0_induceRising yX0_induceRising, Cond.code yX0_induceRising cX0_induceRising 3 none, Cond.methodLink RX0 120 yX0_isRising, Cond.instanceMethod yX0_isRising, Cond.selects RX0 yX0_isRising yX0_isRising, Cond.code yX0_isRising cX0_isRising 2 (some .boolean), Cond.methodLink RX0 148 yX0_placeBack, Cond.instanceMethod yX0_placeBack, Cond.selects RX0 yX0_placeBack yX0_placeBack, Cond.code yX0_placeBack cX0_placeBack 4 none]
def wsX0_induceFrom : List Cond := .code yX0_induceFrom cX0_induceFrom 3 none :: ((wsX0_induceFrom_r1 ++ wsX0_induceFrom_r2) ++ wsX00)
def wsX0_gatherValleys : List Cond := .code yX0_gatherValleys cX0_gatherValleys 4 none :: ([.fieldLink RX0 103 "TextEnds$EndSorter" "length" "I", .fieldLink RX0 42 "TextEnds$EndSorter" "order" "[I", .fieldLink RX0 49 "TextEnds$EndSorter" "valleyNumber" "[I", .fieldLink RX0 55 "TextEnds$EndSorter" "sortedValleys" "[I", .static yX2_at, .initialized RX2, .code yX2_at cX2_at 2 (some .int), .static yX2_put, .code yX2_put cX2_put 3 none] ++ wsX00)
def wsX0_stepsToNext : List Cond := .code yX0_stepsToNext cX0_stepsToNext 3 (some .int) :: ([.fieldLink RX0 49 "TextEnds$EndSorter" "valleyNumber" "[I", .fieldLink RX0 97 "TextEnds$EndSorter" "valleyCount" "I", .fieldLink RX0 52 "TextEnds$EndSorter" "valleys" "[I", .fieldLink RX0 103 "TextEnds$EndSorter" "length" "I", .static yX2_at, .initialized RX2, .code yX2_at cX2_at 2 (some .int)] ++ wsX00)
def wsX0_areAlike : List Cond := .code yX0_areAlike cX0_areAlike 5 (some .boolean) :: ([.methodLink RX0 155 yX0_stepsToNext, .instanceMethod yX0_stepsToNext, .selects RX0 yX0_stepsToNext yX0_stepsToNext, .initialized RX0, .code yX0_stepsToNext cX0_stepsToNext 3 (some .int), .fieldLink RX0 49 "TextEnds$EndSorter" "valleyNumber" "[I", .fieldLink RX0 97 "TextEnds$EndSorter" "valleyCount" "I", .fieldLink RX0 52 "TextEnds$EndSorter" "valleys" "[I", .fieldLink RX0 103 "TextEnds$EndSorter" "length" "I", .static yX2_at, .initialized RX2, .code yX2_at cX2_at 2 (some .int), .methodLink RX0 117 yX0_letterAt, .instanceMethod yX0_letterAt, .selects RX0 yX0_letterAt yX0_letterAt, .code yX0_letterAt cX0_letterAt 2 (some .int), .fieldLink RX0 41 "TextEnds$EndSorter" "letters" "[I"] ++ wsX00)
def wsX0_nameValleys : List Cond := .code yX0_nameValleys cX0_nameValleys 6 (some .int) :: ([.fieldLink RX0 97 "TextEnds$EndSorter" "valleyCount" "I", .fieldLink RX0 55 "TextEnds$EndSorter" "sortedValleys" "[I", .fieldLink RX0 49 "TextEnds$EndSorter" "valleyNumber" "[I", .static yX2_at, .initialized RX2, .code yX2_at cX2_at 2 (some .int), .methodLink RX0 151 yX0_areAlike, .instanceMethod yX0_areAlike, .selects RX0 yX0_areAlike yX0_areAlike, .initialized RX0, .code yX0_areAlike cX0_areAlike 5 (some .boolean), .methodLink RX0 155 yX0_stepsToNext, .instanceMethod yX0_stepsToNext, .selects RX0 yX0_stepsToNext yX0_stepsToNext, .code yX0_stepsToNext cX0_stepsToNext 3 (some .int), .fieldLink RX0 52 "TextEnds$EndSorter" "valleys" "[I", .fieldLink RX0 103 "TextEnds$EndSorter" "length" "I", .methodLink RX0 117 yX0_letterAt, .instanceMethod yX0_letterAt, .selects RX0 yX0_letterAt yX0_letterAt, .code yX0_letterAt cX0_letterAt 2 (some .int), .fieldLink RX0 41 "TextEnds$EndSorter" "letters" "[I", .static yX2_put, .code yX2_put cX2_put 3 none] ++ wsX00)
def wsX0_areAllNamed_r1 : List Cond := [Cond.fieldLink RX0 34 "TextEnds$Level" "letters" "[I", Cond.fieldLink RX0 97 "TextEnds$EndSorter" "valleyCount" "I", Cond.methodLink RX0 93 yX0_nameValleys, Cond.instanceMethod yX0_nameValleys, Cond.selects RX0 yX0_nameValleys yX0_nameValleys, Cond.initialized RX0, Cond.code yX0_nameValleys cX0_nameValleys 6 (some .int), Cond.fieldLink RX0 55 "TextEnds$EndSorter" "sortedValleys" "[I", Cond.fieldLink RX0 49 "TextEnds$EndSorter" "valleyNumber" "[I", Cond.static yX2_at, Cond.initialized RX2, Cond.code yX2_at cX2_at 2 (some .int), Cond.methodLink RX0 151 yX0_areAlike, Cond.instanceMethod yX0_areAlike, Cond.selects RX0 yX0_areAlike yX0_areAlike, Cond.code yX0_areAlike cX0_areAlike 5 (some .boolean), Cond.methodLink RX0 155 yX0_stepsToNext, Cond.instanceMethod yX0_stepsToNext, Cond.selects RX0 yX0_stepsToNext yX0_stepsToNext, Cond.code yX0_stepsToNext cX0_stepsToNext 3 (some .int), Cond.fieldLink RX0 52 "TextEnds$EndSorter" "valleys" "[I", Cond.fieldLink RX0 103 "TextEnds$EndSorter" "length" "I", Cond.methodLink RX0 117 yX0_letterAt, Cond.instanceMethod yX0_letterAt]
def wsX0_areAllNamed_r2 : List Cond := [Cond.selects RX0 yX0_letterAt yX0_letterAt, Cond.code yX0_letterAt cX0_letterAt 2 (some .int), Cond.fieldLink RX0 41 "TextEnds$EndSorter" "letters" "[I", Cond.static yX2_put, Cond.code yX2_put cX2_put 3 none, Cond.methodLink RX0 67 yX1_hold, Cond.instanceMethod yX1_hold, Cond.selects RX1 yX1_hold yX1_hold, Cond.initialized RX1, Cond.code yX1_hold cX1_hold 3 none, Cond.fieldLink RX1 13 "TextEnds$Level" "letters" "[I", Cond.methodLink RX1 19 Lib.Math.min.name, Cond.static Lib.Math.min.name, Cond.initialized "java/lang/Math", Cond.code Lib.Math.min.name Lib.Math.min.code 2 (some .int), Cond.fieldLink RX1 22 "TextEnds$Level" "length" "I", Cond.fieldLink RX1 26 "TextEnds$Level" "sigma" "I"]
def wsX0_areAllNamed : List Cond := .code yX0_areAllNamed cX0_areAllNamed 3 (some .boolean) :: ((wsX0_areAllNamed_r1 ++ wsX0_areAllNamed_r2) ++ wsX10 ++ wsX00)
def wsX0_goDown_r1 : List Cond := [Cond.fieldLink RX0 17 "TextEnds$EndSorter" "levels" "[LTextEnds$Level;", Cond.fieldLink RX0 52 "TextEnds$EndSorter" "valleys" "[I", Cond.methodLink RX0 79 yX0_enter, Cond.instanceMethod yX0_enter, Cond.selects RX0 yX0_enter yX0_enter, Cond.initialized RX0, Cond.code yX0_enter cX0_enter 2 none, Cond.fieldLink RX0 34 "TextEnds$Level" "letters" "[I", Cond.fieldLink RX0 41 "TextEnds$EndSorter" "letters" "[I", Cond.fieldLink RX0 100 "TextEnds$Level" "length" "I", Cond.fieldLink RX0 103 "TextEnds$EndSorter" "length" "I", Cond.fieldLink RX0 104 "TextEnds$Level" "sigma" "I", Cond.fieldLink RX0 107 "TextEnds$EndSorter" "sigma" "I", Cond.methodLink RX0 108 yX0_markRising, Cond.instanceMethod yX0_markRising, Cond.selects RX0 yX0_markRising yX0_markRising, Cond.code yX0_markRising cX0_markRising 4 none, Cond.fieldLink RX0 45 "TextEnds$EndSorter" "rising" "[Z", Cond.methodLink RX0 117 yX0_letterAt, Cond.instanceMethod yX0_letterAt, Cond.selects RX0 yX0_letterAt yX0_letterAt, Cond.code yX0_letterAt cX0_letterAt 2 (some .int), Cond.methodLink RX0 120 yX0_isRising, Cond.instanceMethod yX0_isRising]
def wsX0_goDown_r2 : List Cond := [Cond.selects RX0 yX0_isRising yX0_isRising, Cond.code yX0_isRising cX0_isRising 2 (some .boolean), Cond.methodLink RX0 111 yX0_findValleys, Cond.instanceMethod yX0_findValleys, Cond.selects RX0 yX0_findValleys yX0_findValleys, Cond.code yX0_findValleys cX0_findValleys 3 none, Cond.fieldLink RX0 97 "TextEnds$EndSorter" "valleyCount" "I", Cond.fieldLink RX0 49 "TextEnds$EndSorter" "valleyNumber" "[I", Cond.methodLink RX0 124 yX0_isFalling, Cond.instanceMethod yX0_isFalling, Cond.selects RX0 yX0_isFalling yX0_isFalling, Cond.code yX0_isFalling cX0_isFalling 2 (some .boolean), Cond.static yX2_put, Cond.initialized RX2, Cond.code yX2_put cX2_put 3 none, Cond.methodLink RX0 114 yX0_findBuckets, Cond.instanceMethod yX0_findBuckets, Cond.selects RX0 yX0_findBuckets yX0_findBuckets, Cond.code yX0_findBuckets cX0_findBuckets 5 none, Cond.fieldLink RX0 58 "TextEnds$EndSorter" "fallingFrom" "[I", Cond.fieldLink RX0 61 "TextEnds$EndSorter" "risingFrom" "[I", Cond.static yX2_at, Cond.code yX2_at cX2_at 2 (some .int), Cond.methodLink RX0 75 yX0_induceFrom]
def wsX0_goDown_r3 : List Cond := [Cond.instanceMethod yX0_induceFrom, Cond.selects RX0 yX0_induceFrom yX0_induceFrom, Cond.code yX0_induceFrom cX0_induceFrom 3 none, Cond.fieldLink RX0 42 "TextEnds$EndSorter" "order" "[I", Cond.methodLink RX0 135 yX0_startBuckets, Cond.instanceMethod yX0_startBuckets, Cond.selects RX0 yX0_startBuckets yX0_startBuckets, Cond.code yX0_startBuckets cX0_startBuckets 4 none, Cond.fieldLink RX0 64 "TextEnds$EndSorter" "nextSlot" "[I", Cond.methodLink RX0 139 yX0_placeFront, Cond.instanceMethod yX0_placeFront, Cond.selects RX0 yX0_placeFront yX0_placeFront, Cond.code yX0_placeFront cX0_placeFront 4 none, Cond.methodLink RX0 142 yX0_induceFalling, Cond.instanceMethod yX0_induceFalling, Cond.selects RX0 yX0_induceFalling yX0_induceFalling, Cond.code yX0_induceFalling cX0_induceFalling 3 none, Cond.methodLink RX0 145 yX0_induceRising, Cond.instanceMethod yX0_induceRising, Cond.selects RX0 yX0_induceRising yX0_induceRising, Cond.code yX0_induceRising cX0_induceRising 3 none, Cond.methodLink RX0 148 yX0_placeBack, Cond.instanceMethod yX0_placeBack, Cond.selects RX0 yX0_placeBack yX0_placeBack]
def wsX0_goDown_r4 : List Cond := [Cond.code yX0_placeBack cX0_placeBack 4 none, Cond.methodLink RX0 86 yX0_gatherValleys, Cond.instanceMethod yX0_gatherValleys, Cond.selects RX0 yX0_gatherValleys yX0_gatherValleys, Cond.code yX0_gatherValleys cX0_gatherValleys 4 none, Cond.fieldLink RX0 55 "TextEnds$EndSorter" "sortedValleys" "[I", Cond.methodLink RX0 89 yX0_areAllNamed, Cond.instanceMethod yX0_areAllNamed, Cond.selects RX0 yX0_areAllNamed yX0_areAllNamed, Cond.code yX0_areAllNamed cX0_areAllNamed 3 (some .boolean), Cond.methodLink RX0 93 yX0_nameValleys, Cond.instanceMethod yX0_nameValleys, Cond.selects RX0 yX0_nameValleys yX0_nameValleys, Cond.code yX0_nameValleys cX0_nameValleys 6 (some .int), Cond.methodLink RX0 151 yX0_areAlike, Cond.instanceMethod yX0_areAlike, Cond.selects RX0 yX0_areAlike yX0_areAlike, Cond.code yX0_areAlike cX0_areAlike 5 (some .boolean), Cond.methodLink RX0 155 yX0_stepsToNext, Cond.instanceMethod yX0_stepsToNext, Cond.selects RX0 yX0_stepsToNext yX0_stepsToNext, Cond.code yX0_stepsToNext cX0_stepsToNext 3 (some .int), Cond.methodLink RX0 67 yX1_hold, Cond.instanceMethod yX1_hold]
def wsX0_goDown_r5 : List Cond := [Cond.selects RX1 yX1_hold yX1_hold, Cond.initialized RX1, Cond.code yX1_hold cX1_hold 3 none, Cond.fieldLink RX1 13 "TextEnds$Level" "letters" "[I", Cond.methodLink RX1 19 Lib.Math.min.name, Cond.static Lib.Math.min.name, Cond.initialized "java/lang/Math", Cond.code Lib.Math.min.name Lib.Math.min.code 2 (some .int), Cond.fieldLink RX1 22 "TextEnds$Level" "length" "I", Cond.fieldLink RX1 26 "TextEnds$Level" "sigma" "I"]
def wsX0_goDown : List Cond := .code yX0_goDown cX0_goDown 4 (some .int) :: ((wsX0_goDown_r1 ++ (wsX0_goDown_r2 ++ (wsX0_goDown_r3 ++ (wsX0_goDown_r4 ++ wsX0_goDown_r5)))) ++ wsX00 ++ wsX10)
def wsX0_takeOrderFromBelow : List Cond := .code yX0_takeOrderFromBelow cX0_takeOrderFromBelow 2 none :: ([.fieldLink RX0 97 "TextEnds$EndSorter" "valleyCount" "I", .fieldLink RX0 55 "TextEnds$EndSorter" "sortedValleys" "[I", .fieldLink RX0 52 "TextEnds$EndSorter" "valleys" "[I", .fieldLink RX0 42 "TextEnds$EndSorter" "order" "[I", .static yX2_at, .initialized RX2, .code yX2_at cX2_at 2 (some .int), .static yX2_put, .code yX2_put cX2_put 3 none] ++ wsX00)
def wsX0_sortEnds_r1 : List Cond := [Cond.fieldLink RX0 17 "TextEnds$EndSorter" "levels" "[LTextEnds$Level;", Cond.fieldLink RX0 30 "TextEnds$EndSorter" "textSigma" "I", Cond.fieldLink RX0 55 "TextEnds$EndSorter" "sortedValleys" "[I", Cond.methodLink RX0 67 yX1_hold, Cond.instanceMethod yX1_hold, Cond.selects RX1 yX1_hold yX1_hold, Cond.initialized RX1, Cond.code yX1_hold cX1_hold 3 none, Cond.fieldLink RX1 13 "TextEnds$Level" "letters" "[I", Cond.methodLink RX1 19 Lib.Math.min.name, Cond.static Lib.Math.min.name, Cond.initialized "java/lang/Math", Cond.code Lib.Math.min.name Lib.Math.min.code 2 (some .int), Cond.fieldLink RX1 22 "TextEnds$Level" "length" "I", Cond.fieldLink RX1 26 "TextEnds$Level" "sigma" "I", Cond.methodLink RX0 71 yX0_goDown, Cond.instanceMethod yX0_goDown, Cond.selects RX0 yX0_goDown yX0_goDown, Cond.initialized RX0, Cond.code yX0_goDown cX0_goDown 4 (some .int), Cond.fieldLink RX0 52 "TextEnds$EndSorter" "valleys" "[I", Cond.methodLink RX0 79 yX0_enter, Cond.instanceMethod yX0_enter, Cond.selects RX0 yX0_enter yX0_enter]
def wsX0_sortEnds_r2 : List Cond := [Cond.code yX0_enter cX0_enter 2 none, Cond.fieldLink RX0 34 "TextEnds$Level" "letters" "[I", Cond.fieldLink RX0 41 "TextEnds$EndSorter" "letters" "[I", Cond.fieldLink RX0 100 "TextEnds$Level" "length" "I", Cond.fieldLink RX0 103 "TextEnds$EndSorter" "length" "I", Cond.fieldLink RX0 104 "TextEnds$Level" "sigma" "I", Cond.fieldLink RX0 107 "TextEnds$EndSorter" "sigma" "I", Cond.methodLink RX0 108 yX0_markRising, Cond.instanceMethod yX0_markRising, Cond.selects RX0 yX0_markRising yX0_markRising, Cond.code yX0_markRising cX0_markRising 4 none, Cond.fieldLink RX0 45 "TextEnds$EndSorter" "rising" "[Z", Cond.methodLink RX0 117 yX0_letterAt, Cond.instanceMethod yX0_letterAt, Cond.selects RX0 yX0_letterAt yX0_letterAt, Cond.code yX0_letterAt cX0_letterAt 2 (some .int), Cond.methodLink RX0 120 yX0_isRising, Cond.instanceMethod yX0_isRising, Cond.selects RX0 yX0_isRising yX0_isRising, Cond.code yX0_isRising cX0_isRising 2 (some .boolean), Cond.methodLink RX0 111 yX0_findValleys, Cond.instanceMethod yX0_findValleys, Cond.selects RX0 yX0_findValleys yX0_findValleys, Cond.code yX0_findValleys cX0_findValleys 3 none]
def wsX0_sortEnds_r3 : List Cond := [Cond.fieldLink RX0 97 "TextEnds$EndSorter" "valleyCount" "I", Cond.fieldLink RX0 49 "TextEnds$EndSorter" "valleyNumber" "[I", Cond.methodLink RX0 124 yX0_isFalling, Cond.instanceMethod yX0_isFalling, Cond.selects RX0 yX0_isFalling yX0_isFalling, Cond.code yX0_isFalling cX0_isFalling 2 (some .boolean), Cond.static yX2_put, Cond.initialized RX2, Cond.code yX2_put cX2_put 3 none, Cond.methodLink RX0 114 yX0_findBuckets, Cond.instanceMethod yX0_findBuckets, Cond.selects RX0 yX0_findBuckets yX0_findBuckets, Cond.code yX0_findBuckets cX0_findBuckets 5 none, Cond.fieldLink RX0 58 "TextEnds$EndSorter" "fallingFrom" "[I", Cond.fieldLink RX0 61 "TextEnds$EndSorter" "risingFrom" "[I", Cond.static yX2_at, Cond.code yX2_at cX2_at 2 (some .int), Cond.methodLink RX0 75 yX0_induceFrom, Cond.instanceMethod yX0_induceFrom, Cond.selects RX0 yX0_induceFrom yX0_induceFrom, Cond.code yX0_induceFrom cX0_induceFrom 3 none, Cond.fieldLink RX0 42 "TextEnds$EndSorter" "order" "[I", Cond.methodLink RX0 135 yX0_startBuckets, Cond.instanceMethod yX0_startBuckets]
def wsX0_sortEnds_r4 : List Cond := [Cond.selects RX0 yX0_startBuckets yX0_startBuckets, Cond.code yX0_startBuckets cX0_startBuckets 4 none, Cond.fieldLink RX0 64 "TextEnds$EndSorter" "nextSlot" "[I", Cond.methodLink RX0 139 yX0_placeFront, Cond.instanceMethod yX0_placeFront, Cond.selects RX0 yX0_placeFront yX0_placeFront, Cond.code yX0_placeFront cX0_placeFront 4 none, Cond.methodLink RX0 142 yX0_induceFalling, Cond.instanceMethod yX0_induceFalling, Cond.selects RX0 yX0_induceFalling yX0_induceFalling, Cond.code yX0_induceFalling cX0_induceFalling 3 none, Cond.methodLink RX0 145 yX0_induceRising, Cond.instanceMethod yX0_induceRising, Cond.selects RX0 yX0_induceRising yX0_induceRising, Cond.code yX0_induceRising cX0_induceRising 3 none, Cond.methodLink RX0 148 yX0_placeBack, Cond.instanceMethod yX0_placeBack, Cond.selects RX0 yX0_placeBack yX0_placeBack, Cond.code yX0_placeBack cX0_placeBack 4 none, Cond.methodLink RX0 86 yX0_gatherValleys, Cond.instanceMethod yX0_gatherValleys, Cond.selects RX0 yX0_gatherValleys yX0_gatherValleys, Cond.code yX0_gatherValleys cX0_gatherValleys 4 none, Cond.methodLink RX0 89 yX0_areAllNamed]
def wsX0_sortEnds_r5 : List Cond := [Cond.instanceMethod yX0_areAllNamed, Cond.selects RX0 yX0_areAllNamed yX0_areAllNamed, Cond.code yX0_areAllNamed cX0_areAllNamed 3 (some .boolean), Cond.methodLink RX0 93 yX0_nameValleys, Cond.instanceMethod yX0_nameValleys, Cond.selects RX0 yX0_nameValleys yX0_nameValleys, Cond.code yX0_nameValleys cX0_nameValleys 6 (some .int), Cond.methodLink RX0 151 yX0_areAlike, Cond.instanceMethod yX0_areAlike, Cond.selects RX0 yX0_areAlike yX0_areAlike, Cond.code yX0_areAlike cX0_areAlike 5 (some .boolean), Cond.methodLink RX0 155 yX0_stepsToNext, Cond.instanceMethod yX0_stepsToNext, Cond.selects RX0 yX0_stepsToNext yX0_stepsToNext, Cond.code yX0_stepsToNext cX0_stepsToNext 3 (some .int), Cond.methodLink RX0 83 yX0_takeOrderFromBelow, Cond.instanceMethod yX0_takeOrderFromBelow, Cond.selects RX0 yX0_takeOrderFromBelow yX0_takeOrderFromBelow, Cond.code yX0_takeOrderFromBelow cX0_takeOrderFromBelow 2 none]
def wsX0_sortEnds : List Cond := .code yX0_sortEnds cX0_sortEnds 4 none :: ((wsX0_sortEnds_r1 ++ (wsX0_sortEnds_r2 ++ (wsX0_sortEnds_r3 ++ (wsX0_sortEnds_r4 ++ wsX0_sortEnds_r5)))) ++ wsX00 ++ wsX10)
def wsX2_nearest : List Cond := .code yX2_nearest cX2_nearest 2 (some .int) :: ([.methodLink RX2 109 Lib.Math.min.name, .static Lib.Math.min.name, .initialized "java/lang/Math", .code Lib.Math.min.name Lib.Math.min.code 2 (some .int), .methodLink RX2 114 Lib.Math.max.name, .static Lib.Math.max.name, .code Lib.Math.max.name Lib.Math.max.code 2 (some .int)])
def wsX2_init_r1 : List Cond := [Cond.methodLink RX2 1 objectInit, Cond.instanceMethod objectInit, Cond.code objectInit ⟨#[0xb1]⟩ 1 none, Cond.fieldLink RX2 13 "TextEnds" "sigma" "I", Cond.classLink RX2 17 RX0, Cond.instantiable RX0 15, Cond.initialized RX0, Cond.fieldLink RX2 22 "TextEnds" "sorter" "LTextEnds$EndSorter;", Cond.fieldLink RX2 26 "TextEnds$EndSorter" "text" "[I", Cond.fieldLink RX2 30 "TextEnds" "text" "[I", Cond.fieldLink RX2 31 "TextEnds$EndSorter" "order" "[I", Cond.fieldLink RX2 34 "TextEnds" "order" "[I", Cond.arrayClass .int, Cond.fieldLink RX2 35 "TextEnds" "pattern" "[I", Cond.fieldLink RX2 38 "TextEnds" "standing" "[I", Cond.fieldLink RX2 41 "TextEnds" "alike" "[I", Cond.methodLink RX2 9 yX2_nearest, Cond.static yX2_nearest, Cond.initialized RX2, Cond.code yX2_nearest cX2_nearest 2 (some .int), Cond.methodLink RX2 109 Lib.Math.min.name, Cond.static Lib.Math.min.name, Cond.initialized "java/lang/Math", Cond.code Lib.Math.min.name Lib.Math.min.code 2 (some .int)]
def wsX2_init_r2 : List Cond := [Cond.methodLink RX2 114 Lib.Math.max.name, Cond.static Lib.Math.max.name, Cond.code Lib.Math.max.name Lib.Math.max.code 2 (some .int), Cond.methodLink RX2 19 yX0_init, Cond.instanceMethod yX0_init, Cond.code yX0_init cX0_init 4 none, Cond.methodLink RX0 3 objectInit, Cond.classLink RX0 15 RX1, Cond.fieldLink RX0 17 "TextEnds$EndSorter" "levels" "[LTextEnds$Level;", Cond.instantiable RX1 3, Cond.initialized RX1, Cond.methodLink RX0 24 Lib.Math.max.name, Cond.fieldLink RX0 30 "TextEnds$EndSorter" "textSigma" "I", Cond.fieldLink RX0 34 "TextEnds$Level" "letters" "[I", Cond.fieldLink RX0 38 "TextEnds$EndSorter" "text" "[I", Cond.fieldLink RX0 41 "TextEnds$EndSorter" "letters" "[I", Cond.fieldLink RX0 42 "TextEnds$EndSorter" "order" "[I", Cond.arrayClass .boolean, Cond.fieldLink RX0 45 "TextEnds$EndSorter" "rising" "[Z", Cond.fieldLink RX0 49 "TextEnds$EndSorter" "valleyNumber" "[I", Cond.fieldLink RX0 52 "TextEnds$EndSorter" "valleys" "[I", Cond.fieldLink RX0 55 "TextEnds$EndSorter" "sortedValleys" "[I", Cond.fieldLink RX0 58 "TextEnds$EndSorter" "fallingFrom" "[I", Cond.fieldLink RX0 61 "TextEnds$EndSorter" "risingFrom" "[I"]
def wsX2_init_r3 : List Cond := [Cond.fieldLink RX0 64 "TextEnds$EndSorter" "nextSlot" "[I", Cond.methodLink RX0 9 yX0_levelsFor, Cond.static yX0_levelsFor, Cond.code yX0_levelsFor cX0_levelsFor 3 (some .int), Cond.methodLink RX0 21 yX1_init, Cond.instanceMethod yX1_init, Cond.code yX1_init cX1_init 2 none, Cond.methodLink RX1 1 objectInit, Cond.methodLink RX1 7 Lib.Math.max.name, Cond.fieldLink RX1 13 "TextEnds$Level" "letters" "[I"]
def wsX2_init : List Cond := .code yX2_init cX2_init 5 none :: ((wsX2_init_r1 ++ (wsX2_init_r2 ++ wsX2_init_r3)) ++ wsX20 ++ wsX00 ++ wsX10)
def wsX2_isLetter : List Cond := .code yX2_isLetter cX2_isLetter 2 (some .boolean) :: ([.fieldLink RX2 13 "TextEnds" "sigma" "I"] ++ wsX20)
def wsX2_forgetHits : List Cond := .code yX2_forgetHits cX2_forgetHits 1 none :: ([.fieldLink RX2 92 "TextEnds" "hits" "I"] ++ wsX20)
def wsX2_feed : List Cond := .code yX2_feed cX2_feed 2 (some .boolean) :: ([.fieldLink RX2 48 "TextEnds" "length" "I", .fieldLink RX2 30 "TextEnds" "text" "[I", .fieldLink RX2 51 "TextEnds" "built" "Z", .methodLink RX2 44 yX2_isLetter, .instanceMethod yX2_isLetter, .selects RX2 yX2_isLetter yX2_isLetter, .initialized RX2, .code yX2_isLetter cX2_isLetter 2 (some .boolean), .fieldLink RX2 13 "TextEnds" "sigma" "I", .methodLink RX2 55 yX2_forgetHits, .instanceMethod yX2_forgetHits, .selects RX2 yX2_forgetHits yX2_forgetHits, .code yX2_forgetHits cX2_forgetHits 1 none, .fieldLink RX2 92 "TextEnds" "hits" "I"] ++ wsX20)
def wsX2_packedLetter : List Cond := .code yX2_packedLetter cX2_packedLetter 6 (some .int) :: ([])
def wsX2_feedAll : List Cond := .code yX2_feedAll cX2_feedAll 7 (some .int) :: ([.methodLink RX2 58 yX2_packedLetter, .static yX2_packedLetter, .initialized RX2, .code yX2_packedLetter cX2_packedLetter 6 (some .int), .methodLink RX2 62 yX2_feed, .instanceMethod yX2_feed, .selects RX2 yX2_feed yX2_feed, .code yX2_feed cX2_feed 2 (some .boolean), .fieldLink RX2 48 "TextEnds" "length" "I", .fieldLink RX2 30 "TextEnds" "text" "[I", .fieldLink RX2 51 "TextEnds" "built" "Z", .methodLink RX2 44 yX2_isLetter, .instanceMethod yX2_isLetter, .selects RX2 yX2_isLetter yX2_isLetter, .code yX2_isLetter cX2_isLetter 2 (some .boolean), .fieldLink RX2 13 "TextEnds" "sigma" "I", .methodLink RX2 55 yX2_forgetHits, .instanceMethod yX2_forgetHits, .selects RX2 yX2_forgetHits yX2_forgetHits, .code yX2_forgetHits cX2_forgetHits 1 none, .fieldLink RX2 92 "TextEnds" "hits" "I"] ++ wsX20)
def wsX2_noteStanding : List Cond := .code yX2_noteStanding cX2_noteStanding 2 none :: ([.fieldLink RX2 48 "TextEnds" "length" "I", .fieldLink RX2 38 "TextEnds" "standing" "[I", .fieldLink RX2 34 "TextEnds" "order" "[I", .methodLink RX2 117 yX2_put, .static yX2_put, .initialized RX2, .code yX2_put cX2_put 3 none] ++ wsX20)
def wsX2_alikeFrom : List Cond := .code yX2_alikeFrom cX2_alikeFrom 6 (some .int) :: ([.fieldLink RX2 48 "TextEnds" "length" "I", .methodLink RX2 114 Lib.Math.max.name, .static Lib.Math.max.name, .initialized "java/lang/Math", .code Lib.Math.max.name Lib.Math.max.code 2 (some .int), .fieldLink RX2 30 "TextEnds" "text" "[I", .methodLink RX2 95 yX2_at, .static yX2_at, .initialized RX2, .code yX2_at cX2_at 2 (some .int)] ++ wsX20)
def wsX2_measureNeighbours : List Cond := .code yX2_measureNeighbours cX2_measureNeighbours 4 none :: ([.fieldLink RX2 48 "TextEnds" "length" "I", .fieldLink RX2 38 "TextEnds" "standing" "[I", .fieldLink RX2 34 "TextEnds" "order" "[I", .fieldLink RX2 41 "TextEnds" "alike" "[I", .methodLink RX2 114 Lib.Math.max.name, .static Lib.Math.max.name, .initialized "java/lang/Math", .code Lib.Math.max.name Lib.Math.max.code 2 (some .int), .methodLink RX2 95 yX2_at, .static yX2_at, .initialized RX2, .code yX2_at cX2_at 2 (some .int), .methodLink RX2 78 yX2_alikeFrom, .instanceMethod yX2_alikeFrom, .selects RX2 yX2_alikeFrom yX2_alikeFrom, .code yX2_alikeFrom cX2_alikeFrom 6 (some .int), .fieldLink RX2 30 "TextEnds" "text" "[I", .methodLink RX2 117 yX2_put, .static yX2_put, .code yX2_put cX2_put 3 none] ++ wsX20)
def wsX2_build_r1 : List Cond := [Cond.fieldLink RX2 51 "TextEnds" "built" "Z", Cond.fieldLink RX2 22 "TextEnds" "sorter" "LTextEnds$EndSorter;", Cond.fieldLink RX2 48 "TextEnds" "length" "I", Cond.methodLink RX2 65 yX0_sortEnds, Cond.instanceMethod yX0_sortEnds, Cond.selects RX0 yX0_sortEnds yX0_sortEnds, Cond.initialized RX0, Cond.code yX0_sortEnds cX0_sortEnds 4 none, Cond.fieldLink RX0 17 "TextEnds$EndSorter" "levels" "[LTextEnds$Level;", Cond.fieldLink RX0 30 "TextEnds$EndSorter" "textSigma" "I", Cond.fieldLink RX0 55 "TextEnds$EndSorter" "sortedValleys" "[I", Cond.methodLink RX0 67 yX1_hold, Cond.instanceMethod yX1_hold, Cond.selects RX1 yX1_hold yX1_hold, Cond.initialized RX1, Cond.code yX1_hold cX1_hold 3 none, Cond.fieldLink RX1 13 "TextEnds$Level" "letters" "[I", Cond.methodLink RX1 19 Lib.Math.min.name, Cond.static Lib.Math.min.name, Cond.initialized "java/lang/Math", Cond.code Lib.Math.min.name Lib.Math.min.code 2 (some .int), Cond.fieldLink RX1 22 "TextEnds$Level" "length" "I", Cond.fieldLink RX1 26 "TextEnds$Level" "sigma" "I", Cond.methodLink RX0 71 yX0_goDown]
def wsX2_build_r2 : List Cond := [Cond.instanceMethod yX0_goDown, Cond.selects RX0 yX0_goDown yX0_goDown, Cond.code yX0_goDown cX0_goDown 4 (some .int), Cond.fieldLink RX0 52 "TextEnds$EndSorter" "valleys" "[I", Cond.methodLink RX0 79 yX0_enter, Cond.instanceMethod yX0_enter, Cond.selects RX0 yX0_enter yX0_enter, Cond.code yX0_enter cX0_enter 2 none, Cond.fieldLink RX0 34 "TextEnds$Level" "letters" "[I", Cond.fieldLink RX0 41 "TextEnds$EndSorter" "letters" "[I", Cond.fieldLink RX0 100 "TextEnds$Level" "length" "I", Cond.fieldLink RX0 103 "TextEnds$EndSorter" "length" "I", Cond.fieldLink RX0 104 "TextEnds$Level" "sigma" "I", Cond.fieldLink RX0 107 "TextEnds$EndSorter" "sigma" "I", Cond.methodLink RX0 108 yX0_markRising, Cond.instanceMethod yX0_markRising, Cond.selects RX0 yX0_markRising yX0_markRising, Cond.code yX0_markRising cX0_markRising 4 none, Cond.fieldLink RX0 45 "TextEnds$EndSorter" "rising" "[Z", Cond.methodLink RX0 117 yX0_letterAt, Cond.instanceMethod yX0_letterAt, Cond.selects RX0 yX0_letterAt yX0_letterAt, Cond.code yX0_letterAt cX0_letterAt 2 (some .int), Cond.methodLink RX0 120 yX0_isRising]
def wsX2_build_r3 : List Cond := [Cond.instanceMethod yX0_isRising, Cond.selects RX0 yX0_isRising yX0_isRising, Cond.code yX0_isRising cX0_isRising 2 (some .boolean), Cond.methodLink RX0 111 yX0_findValleys, Cond.instanceMethod yX0_findValleys, Cond.selects RX0 yX0_findValleys yX0_findValleys, Cond.code yX0_findValleys cX0_findValleys 3 none, Cond.fieldLink RX0 97 "TextEnds$EndSorter" "valleyCount" "I", Cond.fieldLink RX0 49 "TextEnds$EndSorter" "valleyNumber" "[I", Cond.methodLink RX0 124 yX0_isFalling, Cond.instanceMethod yX0_isFalling, Cond.selects RX0 yX0_isFalling yX0_isFalling, Cond.code yX0_isFalling cX0_isFalling 2 (some .boolean), Cond.static yX2_put, Cond.initialized RX2, Cond.code yX2_put cX2_put 3 none, Cond.methodLink RX0 114 yX0_findBuckets, Cond.instanceMethod yX0_findBuckets, Cond.selects RX0 yX0_findBuckets yX0_findBuckets, Cond.code yX0_findBuckets cX0_findBuckets 5 none, Cond.fieldLink RX0 58 "TextEnds$EndSorter" "fallingFrom" "[I", Cond.fieldLink RX0 61 "TextEnds$EndSorter" "risingFrom" "[I", Cond.static yX2_at, Cond.code yX2_at cX2_at 2 (some .int)]
def wsX2_build_r4 : List Cond := [Cond.methodLink RX0 75 yX0_induceFrom, Cond.instanceMethod yX0_induceFrom, Cond.selects RX0 yX0_induceFrom yX0_induceFrom, Cond.code yX0_induceFrom cX0_induceFrom 3 none, Cond.fieldLink RX0 42 "TextEnds$EndSorter" "order" "[I", Cond.methodLink RX0 135 yX0_startBuckets, Cond.instanceMethod yX0_startBuckets, Cond.selects RX0 yX0_startBuckets yX0_startBuckets, Cond.code yX0_startBuckets cX0_startBuckets 4 none, Cond.fieldLink RX0 64 "TextEnds$EndSorter" "nextSlot" "[I", Cond.methodLink RX0 139 yX0_placeFront, Cond.instanceMethod yX0_placeFront, Cond.selects RX0 yX0_placeFront yX0_placeFront, Cond.code yX0_placeFront cX0_placeFront 4 none, Cond.methodLink RX0 142 yX0_induceFalling, Cond.instanceMethod yX0_induceFalling, Cond.selects RX0 yX0_induceFalling yX0_induceFalling, Cond.code yX0_induceFalling cX0_induceFalling 3 none, Cond.methodLink RX0 145 yX0_induceRising, Cond.instanceMethod yX0_induceRising, Cond.selects RX0 yX0_induceRising yX0_induceRising, Cond.code yX0_induceRising cX0_induceRising 3 none, Cond.methodLink RX0 148 yX0_placeBack, Cond.instanceMethod yX0_placeBack]
def wsX2_build_r5 : List Cond := [Cond.selects RX0 yX0_placeBack yX0_placeBack, Cond.code yX0_placeBack cX0_placeBack 4 none, Cond.methodLink RX0 86 yX0_gatherValleys, Cond.instanceMethod yX0_gatherValleys, Cond.selects RX0 yX0_gatherValleys yX0_gatherValleys, Cond.code yX0_gatherValleys cX0_gatherValleys 4 none, Cond.methodLink RX0 89 yX0_areAllNamed, Cond.instanceMethod yX0_areAllNamed, Cond.selects RX0 yX0_areAllNamed yX0_areAllNamed, Cond.code yX0_areAllNamed cX0_areAllNamed 3 (some .boolean), Cond.methodLink RX0 93 yX0_nameValleys, Cond.instanceMethod yX0_nameValleys, Cond.selects RX0 yX0_nameValleys yX0_nameValleys, Cond.code yX0_nameValleys cX0_nameValleys 6 (some .int), Cond.methodLink RX0 151 yX0_areAlike, Cond.instanceMethod yX0_areAlike, Cond.selects RX0 yX0_areAlike yX0_areAlike, Cond.code yX0_areAlike cX0_areAlike 5 (some .boolean), Cond.methodLink RX0 155 yX0_stepsToNext, Cond.instanceMethod yX0_stepsToNext, Cond.selects RX0 yX0_stepsToNext yX0_stepsToNext, Cond.code yX0_stepsToNext cX0_stepsToNext 3 (some .int), Cond.methodLink RX0 83 yX0_takeOrderFromBelow, Cond.instanceMethod yX0_takeOrderFromBelow]
def wsX2_build_r6 : List Cond := [Cond.selects RX0 yX0_takeOrderFromBelow yX0_takeOrderFromBelow, Cond.code yX0_takeOrderFromBelow cX0_takeOrderFromBelow 2 none, Cond.methodLink RX2 69 yX2_noteStanding, Cond.instanceMethod yX2_noteStanding, Cond.selects RX2 yX2_noteStanding yX2_noteStanding, Cond.code yX2_noteStanding cX2_noteStanding 2 none, Cond.fieldLink RX2 38 "TextEnds" "standing" "[I", Cond.fieldLink RX2 34 "TextEnds" "order" "[I", Cond.methodLink RX2 117 yX2_put, Cond.methodLink RX2 72 yX2_measureNeighbours, Cond.instanceMethod yX2_measureNeighbours, Cond.selects RX2 yX2_measureNeighbours yX2_measureNeighbours, Cond.code yX2_measureNeighbours cX2_measureNeighbours 4 none, Cond.fieldLink RX2 41 "TextEnds" "alike" "[I", Cond.methodLink RX2 114 Lib.Math.max.name, Cond.static Lib.Math.max.name, Cond.code Lib.Math.max.name Lib.Math.max.code 2 (some .int), Cond.methodLink RX2 95 yX2_at, Cond.methodLink RX2 78 yX2_alikeFrom, Cond.instanceMethod yX2_alikeFrom, Cond.selects RX2 yX2_alikeFrom yX2_alikeFrom, Cond.code yX2_alikeFrom cX2_alikeFrom 6 (some .int), Cond.fieldLink RX2 30 "TextEnds" "text" "[I"]
def wsX2_build : List Cond := .code yX2_build cX2_build 1 (some .int) :: ((wsX2_build_r1 ++ (wsX2_build_r2 ++ (wsX2_build_r3 ++ (wsX2_build_r4 ++ (wsX2_build_r5 ++ wsX2_build_r6))))) ++ wsX20 ++ wsX00 ++ wsX10)
def wsX2_isEnd : List Cond := .code yX2_isEnd cX2_isEnd 2 (some .boolean) :: ([.fieldLink RX2 51 "TextEnds" "built" "Z", .fieldLink RX2 48 "TextEnds" "length" "I"] ++ wsX20)
def wsX2_sa : List Cond := .code yX2_sa cX2_sa 2 (some .int) :: ([.fieldLink RX2 34 "TextEnds" "order" "[I", .methodLink RX2 75 yX2_isEnd, .instanceMethod yX2_isEnd, .selects RX2 yX2_isEnd yX2_isEnd, .initialized RX2, .code yX2_isEnd cX2_isEnd 2 (some .boolean), .fieldLink RX2 51 "TextEnds" "built" "Z", .fieldLink RX2 48 "TextEnds" "length" "I"] ++ wsX20)
def wsX2_lcp : List Cond := .code yX2_lcp cX2_lcp 2 (some .int) :: ([.fieldLink RX2 41 "TextEnds" "alike" "[I", .methodLink RX2 75 yX2_isEnd, .instanceMethod yX2_isEnd, .selects RX2 yX2_isEnd yX2_isEnd, .initialized RX2, .code yX2_isEnd cX2_isEnd 2 (some .boolean), .fieldLink RX2 51 "TextEnds" "built" "Z", .fieldLink RX2 48 "TextEnds" "length" "I"] ++ wsX20)
def wsX2_rank : List Cond := .code yX2_rank cX2_rank 2 (some .int) :: ([.fieldLink RX2 38 "TextEnds" "standing" "[I", .methodLink RX2 75 yX2_isEnd, .instanceMethod yX2_isEnd, .selects RX2 yX2_isEnd yX2_isEnd, .initialized RX2, .code yX2_isEnd cX2_isEnd 2 (some .boolean), .fieldLink RX2 51 "TextEnds" "built" "Z", .fieldLink RX2 48 "TextEnds" "length" "I"] ++ wsX20)
def wsX2_common : List Cond := .code yX2_common cX2_common 3 (some .int) :: ([.methodLink RX2 75 yX2_isEnd, .instanceMethod yX2_isEnd, .selects RX2 yX2_isEnd yX2_isEnd, .initialized RX2, .code yX2_isEnd cX2_isEnd 2 (some .boolean), .fieldLink RX2 51 "TextEnds" "built" "Z", .fieldLink RX2 48 "TextEnds" "length" "I", .methodLink RX2 78 yX2_alikeFrom, .instanceMethod yX2_alikeFrom, .selects RX2 yX2_alikeFrom yX2_alikeFrom, .code yX2_alikeFrom cX2_alikeFrom 6 (some .int), .methodLink RX2 114 Lib.Math.max.name, .static Lib.Math.max.name, .initialized "java/lang/Math", .code Lib.Math.max.name Lib.Math.max.code 2 (some .int), .fieldLink RX2 30 "TextEnds" "text" "[I", .methodLink RX2 95 yX2_at, .static yX2_at, .code yX2_at cX2_at 2 (some .int)] ++ wsX20)
def wsX2_patFeed : List Cond := .code yX2_patFeed cX2_patFeed 2 (some .boolean) :: ([.fieldLink RX2 82 "TextEnds" "patternLength" "I", .fieldLink RX2 35 "TextEnds" "pattern" "[I", .methodLink RX2 44 yX2_isLetter, .instanceMethod yX2_isLetter, .selects RX2 yX2_isLetter yX2_isLetter, .initialized RX2, .code yX2_isLetter cX2_isLetter 2 (some .boolean), .fieldLink RX2 13 "TextEnds" "sigma" "I", .methodLink RX2 55 yX2_forgetHits, .instanceMethod yX2_forgetHits, .selects RX2 yX2_forgetHits yX2_forgetHits, .code yX2_forgetHits cX2_forgetHits 1 none, .fieldLink RX2 92 "TextEnds" "hits" "I"] ++ wsX20)
def wsX2_patClear : List Cond := .code yX2_patClear cX2_patClear 1 none :: ([.fieldLink RX2 82 "TextEnds" "patternLength" "I", .methodLink RX2 55 yX2_forgetHits, .instanceMethod yX2_forgetHits, .selects RX2 yX2_forgetHits yX2_forgetHits, .initialized RX2, .code yX2_forgetHits cX2_forgetHits 1 none, .fieldLink RX2 92 "TextEnds" "hits" "I"] ++ wsX20)
def wsX2_compareWithPattern : List Cond := .code yX2_compareWithPattern cX2_compareWithPattern 4 (some .int) :: ([.fieldLink RX2 82 "TextEnds" "patternLength" "I", .fieldLink RX2 48 "TextEnds" "length" "I", .fieldLink RX2 30 "TextEnds" "text" "[I", .fieldLink RX2 35 "TextEnds" "pattern" "[I", .methodLink RX2 95 yX2_at, .static yX2_at, .initialized RX2, .code yX2_at cX2_at 2 (some .int)] ++ wsX20)
def wsX2_firstEndFrom : List Cond := .code yX2_firstEndFrom cX2_firstEndFrom 5 (some .int) :: ([.fieldLink RX2 48 "TextEnds" "length" "I", .fieldLink RX2 34 "TextEnds" "order" "[I", .methodLink RX2 95 yX2_at, .static yX2_at, .initialized RX2, .code yX2_at cX2_at 2 (some .int), .methodLink RX2 121 yX2_compareWithPattern, .instanceMethod yX2_compareWithPattern, .selects RX2 yX2_compareWithPattern yX2_compareWithPattern, .code yX2_compareWithPattern cX2_compareWithPattern 4 (some .int), .fieldLink RX2 82 "TextEnds" "patternLength" "I", .fieldLink RX2 30 "TextEnds" "text" "[I", .fieldLink RX2 35 "TextEnds" "pattern" "[I"] ++ wsX20)
def wsX2_search : List Cond := .code yX2_search cX2_search 1 (some .int) :: ([.fieldLink RX2 51 "TextEnds" "built" "Z", .fieldLink RX2 89 "TextEnds" "firstHit" "I", .fieldLink RX2 92 "TextEnds" "hits" "I", .methodLink RX2 85 yX2_firstEndFrom, .instanceMethod yX2_firstEndFrom, .selects RX2 yX2_firstEndFrom yX2_firstEndFrom, .initialized RX2, .code yX2_firstEndFrom cX2_firstEndFrom 5 (some .int), .fieldLink RX2 48 "TextEnds" "length" "I", .fieldLink RX2 34 "TextEnds" "order" "[I", .methodLink RX2 95 yX2_at, .static yX2_at, .code yX2_at cX2_at 2 (some .int), .methodLink RX2 121 yX2_compareWithPattern, .instanceMethod yX2_compareWithPattern, .selects RX2 yX2_compareWithPattern yX2_compareWithPattern, .code yX2_compareWithPattern cX2_compareWithPattern 4 (some .int), .fieldLink RX2 82 "TextEnds" "patternLength" "I", .fieldLink RX2 30 "TextEnds" "text" "[I", .fieldLink RX2 35 "TextEnds" "pattern" "[I"] ++ wsX20)
def wsX2_hit : List Cond := .code yX2_hit cX2_hit 2 (some .int) :: ([.fieldLink RX2 92 "TextEnds" "hits" "I", .fieldLink RX2 34 "TextEnds" "order" "[I", .fieldLink RX2 89 "TextEnds" "firstHit" "I", .methodLink RX2 95 yX2_at, .static yX2_at, .initialized RX2, .code yX2_at cX2_at 2 (some .int)] ++ wsX20)
def wsX2_longestAlike : List Cond := .code yX2_longestAlike cX2_longestAlike 3 (some .int) :: ([.fieldLink RX2 48 "TextEnds" "length" "I", .fieldLink RX2 41 "TextEnds" "alike" "[I", .methodLink RX2 114 Lib.Math.max.name, .static Lib.Math.max.name, .initialized "java/lang/Math", .code Lib.Math.max.name Lib.Math.max.code 2 (some .int)] ++ wsX20)
def wsX2_repeated : List Cond := .code yX2_repeated cX2_repeated 1 (some .int) :: ([.fieldLink RX2 51 "TextEnds" "built" "Z", .methodLink RX2 99 yX2_longestAlike, .instanceMethod yX2_longestAlike, .selects RX2 yX2_longestAlike yX2_longestAlike, .initialized RX2, .code yX2_longestAlike cX2_longestAlike 3 (some .int), .fieldLink RX2 48 "TextEnds" "length" "I", .fieldLink RX2 41 "TextEnds" "alike" "[I", .methodLink RX2 114 Lib.Math.max.name, .static Lib.Math.max.name, .initialized "java/lang/Math", .code Lib.Math.max.name Lib.Math.max.code 2 (some .int)] ++ wsX20)
def wsX2_leastPlaceOf : List Cond := .code yX2_leastPlaceOf cX2_leastPlaceOf 4 (some .int) :: ([.fieldLink RX2 48 "TextEnds" "length" "I", .fieldLink RX2 41 "TextEnds" "alike" "[I", .fieldLink RX2 34 "TextEnds" "order" "[I", .methodLink RX2 109 Lib.Math.min.name, .static Lib.Math.min.name, .initialized "java/lang/Math", .code Lib.Math.min.name Lib.Math.min.code 2 (some .int), .methodLink RX2 95 yX2_at, .static yX2_at, .initialized RX2, .code yX2_at cX2_at 2 (some .int)] ++ wsX20)
def wsX2_repeatedAt : List Cond := .code yX2_repeatedAt cX2_repeatedAt 2 (some .int) :: ([.fieldLink RX2 51 "TextEnds" "built" "Z", .methodLink RX2 99 yX2_longestAlike, .instanceMethod yX2_longestAlike, .selects RX2 yX2_longestAlike yX2_longestAlike, .initialized RX2, .code yX2_longestAlike cX2_longestAlike 3 (some .int), .fieldLink RX2 48 "TextEnds" "length" "I", .fieldLink RX2 41 "TextEnds" "alike" "[I", .methodLink RX2 114 Lib.Math.max.name, .static Lib.Math.max.name, .initialized "java/lang/Math", .code Lib.Math.max.name Lib.Math.max.code 2 (some .int), .methodLink RX2 103 yX2_leastPlaceOf, .instanceMethod yX2_leastPlaceOf, .selects RX2 yX2_leastPlaceOf yX2_leastPlaceOf, .code yX2_leastPlaceOf cX2_leastPlaceOf 4 (some .int), .fieldLink RX2 34 "TextEnds" "order" "[I", .methodLink RX2 109 Lib.Math.min.name, .static Lib.Math.min.name, .code Lib.Math.min.name Lib.Math.min.code 2 (some .int), .methodLink RX2 95 yX2_at, .static yX2_at, .code yX2_at cX2_at 2 (some .int)] ++ wsX20)
def wsX2_different : List Cond := .code yX2_different cX2_different 3 (some .int) :: ([.fieldLink RX2 51 "TextEnds" "built" "Z", .fieldLink RX2 48 "TextEnds" "length" "I", .fieldLink RX2 34 "TextEnds" "order" "[I", .fieldLink RX2 41 "TextEnds" "alike" "[I"] ++ wsX20)
def wsX2_count : List Cond := .code yX2_count cX2_count 2 (some .int) :: ([.fieldLink RX2 48 "TextEnds" "length" "I", .fieldLink RX2 82 "TextEnds" "patternLength" "I", .fieldLink RX2 51 "TextEnds" "built" "Z", .fieldLink RX2 30 "TextEnds" "text" "[I", .fieldLink RX2 13 "TextEnds" "sigma" "I", .fieldLink RX2 35 "TextEnds" "pattern" "[I"] ++ wsX20)
def wsX2_clear : List Cond := .code yX2_clear cX2_clear 1 none :: ([.fieldLink RX2 48 "TextEnds" "length" "I", .fieldLink RX2 51 "TextEnds" "built" "Z", .methodLink RX2 106 yX2_patClear, .instanceMethod yX2_patClear, .selects RX2 yX2_patClear yX2_patClear, .initialized RX2, .code yX2_patClear cX2_patClear 1 none, .fieldLink RX2 82 "TextEnds" "patternLength" "I", .methodLink RX2 55 yX2_forgetHits, .instanceMethod yX2_forgetHits, .selects RX2 yX2_forgetHits yX2_forgetHits, .code yX2_forgetHits cX2_forgetHits 1 none, .fieldLink RX2 92 "TextEnds" "hits" "I"] ++ wsX20)
def wsX3_init : List Cond := .code yX3_init cX3_init 4 none :: ([.methodLink RX3 1 objectInit, .instanceMethod objectInit, .code objectInit ⟨#[0xb1]⟩ 1 none, .arrayClass .int, .fieldLink RX3 7 "TextEndsModel" "text" "[I", .fieldLink RX3 13 "TextEndsModel" "order" "[I", .fieldLink RX3 16 "TextEndsModel" "other" "[I", .fieldLink RX3 19 "TextEndsModel" "pattern" "[I", .fieldLink RX3 22 "TextEndsModel" "room" "I", .fieldLink RX3 26 "TextEndsModel" "sigma" "I", .fieldLink RX3 29 "TextEndsModel" "patternRoom" "I"] ++ wsX30)
def wsX3_feed : List Cond := .code yX3_feed cX3_feed 2 (some .boolean) :: ([.fieldLink RX3 26 "TextEndsModel" "sigma" "I", .fieldLink RX3 32 "TextEndsModel" "size" "I", .fieldLink RX3 22 "TextEndsModel" "room" "I", .fieldLink RX3 7 "TextEndsModel" "text" "[I", .fieldLink RX3 35 "TextEndsModel" "built" "Z", .fieldLink RX3 39 "TextEndsModel" "found" "Z"] ++ wsX30)
def wsX3_feedAll : List Cond := .code yX3_feedAll cX3_feedAll 10 (some .int) :: ([.methodLink RX3 42 yX3_feed, .instanceMethod yX3_feed, .selects RX3 yX3_feed yX3_feed, .initialized RX3, .code yX3_feed cX3_feed 2 (some .boolean), .fieldLink RX3 26 "TextEndsModel" "sigma" "I", .fieldLink RX3 32 "TextEndsModel" "size" "I", .fieldLink RX3 22 "TextEndsModel" "room" "I", .fieldLink RX3 7 "TextEndsModel" "text" "[I", .fieldLink RX3 35 "TextEndsModel" "built" "Z", .fieldLink RX3 39 "TextEndsModel" "found" "Z"] ++ wsX30)
def wsX3_commonOf : List Cond := .code yX3_commonOf cX3_commonOf 4 (some .int) :: ([.fieldLink RX3 32 "TextEndsModel" "size" "I", .fieldLink RX3 7 "TextEndsModel" "text" "[I"] ++ wsX30)
def wsX3_isBefore : List Cond := .code yX3_isBefore cX3_isBefore 4 (some .boolean) :: ([.fieldLink RX3 32 "TextEndsModel" "size" "I", .fieldLink RX3 7 "TextEndsModel" "text" "[I", .methodLink RX3 46 yX3_commonOf, .instanceMethod yX3_commonOf, .selects RX3 yX3_commonOf yX3_commonOf, .initialized RX3, .code yX3_commonOf cX3_commonOf 4 (some .int)] ++ wsX30)
def wsX3_build : List Cond := .code yX3_build cX3_build 9 (some .int) :: ([.fieldLink RX3 35 "TextEndsModel" "built" "Z", .fieldLink RX3 32 "TextEndsModel" "size" "I", .fieldLink RX3 13 "TextEndsModel" "order" "[I", .fieldLink RX3 16 "TextEndsModel" "other" "[I", .methodLink RX3 50 yX3_isBefore, .instanceMethod yX3_isBefore, .selects RX3 yX3_isBefore yX3_isBefore, .initialized RX3, .code yX3_isBefore cX3_isBefore 4 (some .boolean), .fieldLink RX3 7 "TextEndsModel" "text" "[I", .methodLink RX3 46 yX3_commonOf, .instanceMethod yX3_commonOf, .selects RX3 yX3_commonOf yX3_commonOf, .code yX3_commonOf cX3_commonOf 4 (some .int)] ++ wsX30)
def wsX3_isEnd : List Cond := .code yX3_isEnd cX3_isEnd 2 (some .boolean) :: ([.fieldLink RX3 35 "TextEndsModel" "built" "Z", .fieldLink RX3 32 "TextEndsModel" "size" "I"] ++ wsX30)
def wsX3_sa : List Cond := .code yX3_sa cX3_sa 2 (some .int) :: ([.fieldLink RX3 13 "TextEndsModel" "order" "[I", .methodLink RX3 54 yX3_isEnd, .instanceMethod yX3_isEnd, .selects RX3 yX3_isEnd yX3_isEnd, .initialized RX3, .code yX3_isEnd cX3_isEnd 2 (some .boolean), .fieldLink RX3 35 "TextEndsModel" "built" "Z", .fieldLink RX3 32 "TextEndsModel" "size" "I"] ++ wsX30)
def wsX3_lcp : List Cond := .code yX3_lcp cX3_lcp 2 (some .int) :: ([.fieldLink RX3 13 "TextEndsModel" "order" "[I", .methodLink RX3 54 yX3_isEnd, .instanceMethod yX3_isEnd, .selects RX3 yX3_isEnd yX3_isEnd, .initialized RX3, .code yX3_isEnd cX3_isEnd 2 (some .boolean), .fieldLink RX3 35 "TextEndsModel" "built" "Z", .fieldLink RX3 32 "TextEndsModel" "size" "I", .methodLink RX3 46 yX3_commonOf, .instanceMethod yX3_commonOf, .selects RX3 yX3_commonOf yX3_commonOf, .code yX3_commonOf cX3_commonOf 4 (some .int), .fieldLink RX3 7 "TextEndsModel" "text" "[I"] ++ wsX30)
def wsX3_rank : List Cond := .code yX3_rank cX3_rank 3 (some .int) :: ([.fieldLink RX3 13 "TextEndsModel" "order" "[I", .methodLink RX3 54 yX3_isEnd, .instanceMethod yX3_isEnd, .selects RX3 yX3_isEnd yX3_isEnd, .initialized RX3, .code yX3_isEnd cX3_isEnd 2 (some .boolean), .fieldLink RX3 35 "TextEndsModel" "built" "Z", .fieldLink RX3 32 "TextEndsModel" "size" "I"] ++ wsX30)
def wsX3_common : List Cond := .code yX3_common cX3_common 3 (some .int) :: ([.methodLink RX3 54 yX3_isEnd, .instanceMethod yX3_isEnd, .selects RX3 yX3_isEnd yX3_isEnd, .initialized RX3, .code yX3_isEnd cX3_isEnd 2 (some .boolean), .fieldLink RX3 35 "TextEndsModel" "built" "Z", .fieldLink RX3 32 "TextEndsModel" "size" "I", .methodLink RX3 46 yX3_commonOf, .instanceMethod yX3_commonOf, .selects RX3 yX3_commonOf yX3_commonOf, .code yX3_commonOf cX3_commonOf 4 (some .int), .fieldLink RX3 7 "TextEndsModel" "text" "[I"] ++ wsX30)
def wsX3_patFeed : List Cond := .code yX3_patFeed cX3_patFeed 2 (some .boolean) :: ([.fieldLink RX3 26 "TextEndsModel" "sigma" "I", .fieldLink RX3 57 "TextEndsModel" "patternSize" "I", .fieldLink RX3 29 "TextEndsModel" "patternRoom" "I", .fieldLink RX3 19 "TextEndsModel" "pattern" "[I", .fieldLink RX3 39 "TextEndsModel" "found" "Z"] ++ wsX30)
def wsX3_patClear : List Cond := .code yX3_patClear cX3_patClear 1 none :: ([.fieldLink RX3 57 "TextEndsModel" "patternSize" "I", .fieldLink RX3 39 "TextEndsModel" "found" "Z"] ++ wsX30)
def wsX3_begins : List Cond := .code yX3_begins cX3_begins 3 (some .boolean) :: ([.fieldLink RX3 57 "TextEndsModel" "patternSize" "I", .fieldLink RX3 32 "TextEndsModel" "size" "I", .fieldLink RX3 7 "TextEndsModel" "text" "[I", .fieldLink RX3 19 "TextEndsModel" "pattern" "[I"] ++ wsX30)
def wsX3_search : List Cond := .code yX3_search cX3_search 2 (some .int) :: ([.fieldLink RX3 35 "TextEndsModel" "built" "Z", .fieldLink RX3 39 "TextEndsModel" "found" "Z", .fieldLink RX3 60 "TextEndsModel" "hits" "I", .fieldLink RX3 32 "TextEndsModel" "size" "I", .fieldLink RX3 13 "TextEndsModel" "order" "[I", .fieldLink RX3 66 "TextEndsModel" "first" "I", .methodLink RX3 63 yX3_begins, .instanceMethod yX3_begins, .selects RX3 yX3_begins yX3_begins, .initialized RX3, .code yX3_begins cX3_begins 3 (some .boolean), .fieldLink RX3 57 "TextEndsModel" "patternSize" "I", .fieldLink RX3 7 "TextEndsModel" "text" "[I", .fieldLink RX3 19 "TextEndsModel" "pattern" "[I"] ++ wsX30)
def wsX3_hit : List Cond := .code yX3_hit cX3_hit 2 (some .int) :: ([.fieldLink RX3 39 "TextEndsModel" "found" "Z", .fieldLink RX3 60 "TextEndsModel" "hits" "I", .fieldLink RX3 13 "TextEndsModel" "order" "[I", .fieldLink RX3 66 "TextEndsModel" "first" "I"] ++ wsX30)
def wsX3_repeated : List Cond := .code yX3_repeated cX3_repeated 4 (some .int) :: ([.fieldLink RX3 35 "TextEndsModel" "built" "Z", .fieldLink RX3 32 "TextEndsModel" "size" "I", .fieldLink RX3 13 "TextEndsModel" "order" "[I", .methodLink RX3 46 yX3_commonOf, .instanceMethod yX3_commonOf, .selects RX3 yX3_commonOf yX3_commonOf, .initialized RX3, .code yX3_commonOf cX3_commonOf 4 (some .int), .fieldLink RX3 7 "TextEndsModel" "text" "[I"] ++ wsX30)
def wsX3_repeatedAt : List Cond := .code yX3_repeatedAt cX3_repeatedAt 4 (some .int) :: ([.fieldLink RX3 13 "TextEndsModel" "order" "[I", .fieldLink RX3 32 "TextEndsModel" "size" "I", .methodLink RX3 69 yX3_repeated, .instanceMethod yX3_repeated, .selects RX3 yX3_repeated yX3_repeated, .initialized RX3, .code yX3_repeated cX3_repeated 4 (some .int), .fieldLink RX3 35 "TextEndsModel" "built" "Z", .methodLink RX3 46 yX3_commonOf, .instanceMethod yX3_commonOf, .selects RX3 yX3_commonOf yX3_commonOf, .code yX3_commonOf cX3_commonOf 4 (some .int), .fieldLink RX3 7 "TextEndsModel" "text" "[I"] ++ wsX30)
def wsX3_different : List Cond := .code yX3_different cX3_different 3 (some .int) :: ([.fieldLink RX3 35 "TextEndsModel" "built" "Z", .fieldLink RX3 32 "TextEndsModel" "size" "I", .fieldLink RX3 13 "TextEndsModel" "order" "[I", .methodLink RX3 46 yX3_commonOf, .instanceMethod yX3_commonOf, .selects RX3 yX3_commonOf yX3_commonOf, .initialized RX3, .code yX3_commonOf cX3_commonOf 4 (some .int), .fieldLink RX3 7 "TextEndsModel" "text" "[I"] ++ wsX30)
def wsX3_count : List Cond := .code yX3_count cX3_count 2 (some .int) :: ([.fieldLink RX3 32 "TextEndsModel" "size" "I", .fieldLink RX3 57 "TextEndsModel" "patternSize" "I", .fieldLink RX3 35 "TextEndsModel" "built" "Z", .fieldLink RX3 22 "TextEndsModel" "room" "I", .fieldLink RX3 26 "TextEndsModel" "sigma" "I", .fieldLink RX3 29 "TextEndsModel" "patternRoom" "I"] ++ wsX30)
def wsX3_clear : List Cond := .code yX3_clear cX3_clear 1 none :: ([.fieldLink RX3 32 "TextEndsModel" "size" "I", .fieldLink RX3 57 "TextEndsModel" "patternSize" "I", .fieldLink RX3 35 "TextEndsModel" "built" "Z", .fieldLink RX3 39 "TextEndsModel" "found" "Z"] ++ wsX30)
def wsJ9_max_7cf53 : List Cond := .code yJ9_max_7cf53 cJ9_max_7cf53 2 (some .int) :: ([])
def wsJ9_min_7cf53 : List Cond := .code yJ9_min_7cf53 cJ9_min_7cf53 2 (some .int) :: ([])
def wsL_cell : List Cond := .code yL_cell cL_cell 2 (some .int) :: ([])
def wsL_law_r1 : List Cond := [Cond.classLink RL 7 RX2, Cond.instantiable RX2 12, Cond.initialized RX2, Cond.classLink RL 18 RX3, Cond.instantiable RX3 13, Cond.initialized RX3, Cond.methodLink RL 9 yL_cell, Cond.static yL_cell, Cond.initialized RL, Cond.code yL_cell cL_cell 2 (some .int), Cond.methodLink RL 15 yX2_init, Cond.instanceMethod yX2_init, Cond.code yX2_init cX2_init 5 none, Cond.methodLink RX2 1 objectInit, Cond.instanceMethod objectInit, Cond.code objectInit ⟨#[0xb1]⟩ 1 none, Cond.fieldLink RX2 13 "TextEnds" "sigma" "I", Cond.classLink RX2 17 RX0, Cond.instantiable RX0 15, Cond.initialized RX0, Cond.fieldLink RX2 22 "TextEnds" "sorter" "LTextEnds$EndSorter;", Cond.fieldLink RX2 26 "TextEnds$EndSorter" "text" "[I", Cond.fieldLink RX2 30 "TextEnds" "text" "[I", Cond.fieldLink RX2 31 "TextEnds$EndSorter" "order" "[I"]
def wsL_law_r2 : List Cond := [Cond.fieldLink RX2 34 "TextEnds" "order" "[I", Cond.arrayClass .int, Cond.fieldLink RX2 35 "TextEnds" "pattern" "[I", Cond.fieldLink RX2 38 "TextEnds" "standing" "[I", Cond.fieldLink RX2 41 "TextEnds" "alike" "[I", Cond.methodLink RX2 9 yX2_nearest, Cond.static yX2_nearest, Cond.code yX2_nearest cX2_nearest 2 (some .int), Cond.methodLink RX2 109 Lib.Math.min.name, Cond.static Lib.Math.min.name, Cond.initialized "java/lang/Math", Cond.code Lib.Math.min.name Lib.Math.min.code 2 (some .int), Cond.methodLink RX2 114 Lib.Math.max.name, Cond.static Lib.Math.max.name, Cond.code Lib.Math.max.name Lib.Math.max.code 2 (some .int), Cond.methodLink RX2 19 yX0_init, Cond.instanceMethod yX0_init, Cond.code yX0_init cX0_init 4 none, Cond.methodLink RX0 3 objectInit, Cond.classLink RX0 15 RX1, Cond.fieldLink RX0 17 "TextEnds$EndSorter" "levels" "[LTextEnds$Level;", Cond.instantiable RX1 3, Cond.initialized RX1, Cond.methodLink RX0 24 Lib.Math.max.name]
def wsL_law_r3 : List Cond := [Cond.fieldLink RX0 30 "TextEnds$EndSorter" "textSigma" "I", Cond.fieldLink RX0 34 "TextEnds$Level" "letters" "[I", Cond.fieldLink RX0 38 "TextEnds$EndSorter" "text" "[I", Cond.fieldLink RX0 41 "TextEnds$EndSorter" "letters" "[I", Cond.fieldLink RX0 42 "TextEnds$EndSorter" "order" "[I", Cond.arrayClass .boolean, Cond.fieldLink RX0 45 "TextEnds$EndSorter" "rising" "[Z", Cond.fieldLink RX0 49 "TextEnds$EndSorter" "valleyNumber" "[I", Cond.fieldLink RX0 52 "TextEnds$EndSorter" "valleys" "[I", Cond.fieldLink RX0 55 "TextEnds$EndSorter" "sortedValleys" "[I", Cond.fieldLink RX0 58 "TextEnds$EndSorter" "fallingFrom" "[I", Cond.fieldLink RX0 61 "TextEnds$EndSorter" "risingFrom" "[I", Cond.fieldLink RX0 64 "TextEnds$EndSorter" "nextSlot" "[I", Cond.methodLink RX0 9 yX0_levelsFor, Cond.static yX0_levelsFor, Cond.code yX0_levelsFor cX0_levelsFor 3 (some .int), Cond.methodLink RX0 21 yX1_init, Cond.instanceMethod yX1_init, Cond.code yX1_init cX1_init 2 none, Cond.methodLink RX1 1 objectInit, Cond.methodLink RX1 7 Lib.Math.max.name, Cond.fieldLink RX1 13 "TextEnds$Level" "letters" "[I", Cond.methodLink RL 20 yX3_init, Cond.instanceMethod yX3_init]
def wsL_law_r4 : List Cond := [Cond.code yX3_init cX3_init 4 none, Cond.methodLink RX3 1 objectInit, Cond.fieldLink RX3 7 "TextEndsModel" "text" "[I", Cond.fieldLink RX3 13 "TextEndsModel" "order" "[I", Cond.fieldLink RX3 16 "TextEndsModel" "other" "[I", Cond.fieldLink RX3 19 "TextEndsModel" "pattern" "[I", Cond.fieldLink RX3 22 "TextEndsModel" "room" "I", Cond.fieldLink RX3 26 "TextEndsModel" "sigma" "I", Cond.fieldLink RX3 29 "TextEndsModel" "patternRoom" "I", Cond.methodLink RL 21 yX2_feed, Cond.instanceMethod yX2_feed, Cond.selects RX2 yX2_feed yX2_feed, Cond.code yX2_feed cX2_feed 2 (some .boolean), Cond.fieldLink RX2 48 "TextEnds" "length" "I", Cond.fieldLink RX2 51 "TextEnds" "built" "Z", Cond.methodLink RX2 44 yX2_isLetter, Cond.instanceMethod yX2_isLetter, Cond.selects RX2 yX2_isLetter yX2_isLetter, Cond.code yX2_isLetter cX2_isLetter 2 (some .boolean), Cond.methodLink RX2 55 yX2_forgetHits, Cond.instanceMethod yX2_forgetHits, Cond.selects RX2 yX2_forgetHits yX2_forgetHits, Cond.code yX2_forgetHits cX2_forgetHits 1 none, Cond.fieldLink RX2 92 "TextEnds" "hits" "I"]
def wsL_law_r5 : List Cond := [Cond.methodLink RL 25 yX3_feed, Cond.instanceMethod yX3_feed, Cond.selects RX3 yX3_feed yX3_feed, Cond.code yX3_feed cX3_feed 2 (some .boolean), Cond.fieldLink RX3 32 "TextEndsModel" "size" "I", Cond.fieldLink RX3 35 "TextEndsModel" "built" "Z", Cond.fieldLink RX3 39 "TextEndsModel" "found" "Z", Cond.methodLink RL 26 yX2_feedAll, Cond.instanceMethod yX2_feedAll, Cond.selects RX2 yX2_feedAll yX2_feedAll, Cond.code yX2_feedAll cX2_feedAll 7 (some .int), Cond.methodLink RX2 58 yX2_packedLetter, Cond.static yX2_packedLetter, Cond.code yX2_packedLetter cX2_packedLetter 6 (some .int), Cond.methodLink RX2 62 yX2_feed, Cond.methodLink RL 30 yX3_feedAll, Cond.instanceMethod yX3_feedAll, Cond.selects RX3 yX3_feedAll yX3_feedAll, Cond.code yX3_feedAll cX3_feedAll 10 (some .int), Cond.methodLink RX3 42 yX3_feed, Cond.methodLink RL 31 yX2_build, Cond.instanceMethod yX2_build, Cond.selects RX2 yX2_build yX2_build, Cond.code yX2_build cX2_build 1 (some .int)]
def wsL_law_r6 : List Cond := [Cond.methodLink RX2 65 yX0_sortEnds, Cond.instanceMethod yX0_sortEnds, Cond.selects RX0 yX0_sortEnds yX0_sortEnds, Cond.code yX0_sortEnds cX0_sortEnds 4 none, Cond.methodLink RX0 67 yX1_hold, Cond.instanceMethod yX1_hold, Cond.selects RX1 yX1_hold yX1_hold, Cond.code yX1_hold cX1_hold 3 none, Cond.methodLink RX1 19 Lib.Math.min.name, Cond.fieldLink RX1 22 "TextEnds$Level" "length" "I", Cond.fieldLink RX1 26 "TextEnds$Level" "sigma" "I", Cond.methodLink RX0 71 yX0_goDown, Cond.instanceMethod yX0_goDown, Cond.selects RX0 yX0_goDown yX0_goDown, Cond.code yX0_goDown cX0_goDown 4 (some .int), Cond.methodLink RX0 79 yX0_enter, Cond.instanceMethod yX0_enter, Cond.selects RX0 yX0_enter yX0_enter, Cond.code yX0_enter cX0_enter 2 none, Cond.fieldLink RX0 100 "TextEnds$Level" "length" "I", Cond.fieldLink RX0 103 "TextEnds$EndSorter" "length" "I", Cond.fieldLink RX0 104 "TextEnds$Level" "sigma" "I", Cond.fieldLink RX0 107 "TextEnds$EndSorter" "sigma" "I", Cond.methodLink RX0 108 yX0_markRising]
def wsL_law_r7 : List Cond := [Cond.instanceMethod yX0_markRising, Cond.selects RX0 yX0_markRising yX0_markRising, Cond.code yX0_markRising cX0_markRising 4 none, Cond.methodLink RX0 117 yX0_letterAt, Cond.instanceMethod yX0_letterAt, Cond.selects RX0 yX0_letterAt yX0_letterAt, Cond.code yX0_letterAt cX0_letterAt 2 (some .int), Cond.methodLink RX0 120 yX0_isRising, Cond.instanceMethod yX0_isRising, Cond.selects RX0 yX0_isRising yX0_isRising, Cond.code yX0_isRising cX0_isRising 2 (some .boolean), Cond.methodLink RX0 111 yX0_findValleys, Cond.instanceMethod yX0_findValleys, Cond.selects RX0 yX0_findValleys yX0_findValleys, Cond.code yX0_findValleys cX0_findValleys 3 none, Cond.fieldLink RX0 97 "TextEnds$EndSorter" "valleyCount" "I", Cond.methodLink RX0 124 yX0_isFalling, Cond.instanceMethod yX0_isFalling, Cond.selects RX0 yX0_isFalling yX0_isFalling, Cond.code yX0_isFalling cX0_isFalling 2 (some .boolean), Cond.static yX2_put, Cond.code yX2_put cX2_put 3 none, Cond.methodLink RX0 114 yX0_findBuckets, Cond.instanceMethod yX0_findBuckets]
def wsL_law_r8 : List Cond := [Cond.selects RX0 yX0_findBuckets yX0_findBuckets, Cond.code yX0_findBuckets cX0_findBuckets 5 none, Cond.static yX2_at, Cond.code yX2_at cX2_at 2 (some .int), Cond.methodLink RX0 75 yX0_induceFrom, Cond.instanceMethod yX0_induceFrom, Cond.selects RX0 yX0_induceFrom yX0_induceFrom, Cond.code yX0_induceFrom cX0_induceFrom 3 none, Cond.methodLink RX0 135 yX0_startBuckets, Cond.instanceMethod yX0_startBuckets, Cond.selects RX0 yX0_startBuckets yX0_startBuckets, Cond.code yX0_startBuckets cX0_startBuckets 4 none, Cond.methodLink RX0 139 yX0_placeFront, Cond.instanceMethod yX0_placeFront, Cond.selects RX0 yX0_placeFront yX0_placeFront, Cond.code yX0_placeFront cX0_placeFront 4 none, Cond.methodLink RX0 142 yX0_induceFalling, Cond.instanceMethod yX0_induceFalling, Cond.selects RX0 yX0_induceFalling yX0_induceFalling, Cond.code yX0_induceFalling cX0_induceFalling 3 none, Cond.methodLink RX0 145 yX0_induceRising, Cond.instanceMethod yX0_induceRising, Cond.selects RX0 yX0_induceRising yX0_induceRising, Cond.code yX0_induceRising cX0_induceRising 3 none]
def wsL_law_r9 : List Cond := [Cond.methodLink RX0 148 yX0_placeBack, Cond.instanceMethod yX0_placeBack, Cond.selects RX0 yX0_placeBack yX0_placeBack, Cond.code yX0_placeBack cX0_placeBack 4 none, Cond.methodLink RX0 86 yX0_gatherValleys, Cond.instanceMethod yX0_gatherValleys, Cond.selects RX0 yX0_gatherValleys yX0_gatherValleys, Cond.code yX0_gatherValleys cX0_gatherValleys 4 none, Cond.methodLink RX0 89 yX0_areAllNamed, Cond.instanceMethod yX0_areAllNamed, Cond.selects RX0 yX0_areAllNamed yX0_areAllNamed, Cond.code yX0_areAllNamed cX0_areAllNamed 3 (some .boolean), Cond.methodLink RX0 93 yX0_nameValleys, Cond.instanceMethod yX0_nameValleys, Cond.selects RX0 yX0_nameValleys yX0_nameValleys, Cond.code yX0_nameValleys cX0_nameValleys 6 (some .int), Cond.methodLink RX0 151 yX0_areAlike, Cond.instanceMethod yX0_areAlike, Cond.selects RX0 yX0_areAlike yX0_areAlike, Cond.code yX0_areAlike cX0_areAlike 5 (some .boolean), Cond.methodLink RX0 155 yX0_stepsToNext, Cond.instanceMethod yX0_stepsToNext, Cond.selects RX0 yX0_stepsToNext yX0_stepsToNext, Cond.code yX0_stepsToNext cX0_stepsToNext 3 (some .int)]
def wsL_law_r10 : List Cond := [Cond.methodLink RX0 83 yX0_takeOrderFromBelow, Cond.instanceMethod yX0_takeOrderFromBelow, Cond.selects RX0 yX0_takeOrderFromBelow yX0_takeOrderFromBelow, Cond.code yX0_takeOrderFromBelow cX0_takeOrderFromBelow 2 none, Cond.methodLink RX2 69 yX2_noteStanding, Cond.instanceMethod yX2_noteStanding, Cond.selects RX2 yX2_noteStanding yX2_noteStanding, Cond.code yX2_noteStanding cX2_noteStanding 2 none, Cond.methodLink RX2 117 yX2_put, Cond.methodLink RX2 72 yX2_measureNeighbours, Cond.instanceMethod yX2_measureNeighbours, Cond.selects RX2 yX2_measureNeighbours yX2_measureNeighbours, Cond.code yX2_measureNeighbours cX2_measureNeighbours 4 none, Cond.methodLink RX2 95 yX2_at, Cond.methodLink RX2 78 yX2_alikeFrom, Cond.instanceMethod yX2_alikeFrom, Cond.selects RX2 yX2_alikeFrom yX2_alikeFrom, Cond.code yX2_alikeFrom cX2_alikeFrom 6 (some .int), Cond.methodLink RL 35 yX3_build, Cond.instanceMethod yX3_build, Cond.selects RX3 yX3_build yX3_build, Cond.code yX3_build cX3_build 9 (some .int), Cond.methodLink RX3 50 yX3_isBefore, Cond.instanceMethod yX3_isBefore]
def wsL_law_r11 : List Cond := [Cond.selects RX3 yX3_isBefore yX3_isBefore, Cond.code yX3_isBefore cX3_isBefore 4 (some .boolean), Cond.methodLink RX3 46 yX3_commonOf, Cond.instanceMethod yX3_commonOf, Cond.selects RX3 yX3_commonOf yX3_commonOf, Cond.code yX3_commonOf cX3_commonOf 4 (some .int), Cond.methodLink RL 36 yX2_sa, Cond.instanceMethod yX2_sa, Cond.selects RX2 yX2_sa yX2_sa, Cond.code yX2_sa cX2_sa 2 (some .int), Cond.methodLink RX2 75 yX2_isEnd, Cond.instanceMethod yX2_isEnd, Cond.selects RX2 yX2_isEnd yX2_isEnd, Cond.code yX2_isEnd cX2_isEnd 2 (some .boolean), Cond.methodLink RL 40 yX3_sa, Cond.instanceMethod yX3_sa, Cond.selects RX3 yX3_sa yX3_sa, Cond.code yX3_sa cX3_sa 2 (some .int), Cond.methodLink RX3 54 yX3_isEnd, Cond.instanceMethod yX3_isEnd, Cond.selects RX3 yX3_isEnd yX3_isEnd, Cond.code yX3_isEnd cX3_isEnd 2 (some .boolean), Cond.methodLink RL 41 yX2_lcp, Cond.instanceMethod yX2_lcp]
def wsL_law_r12 : List Cond := [Cond.selects RX2 yX2_lcp yX2_lcp, Cond.code yX2_lcp cX2_lcp 2 (some .int), Cond.methodLink RL 44 yX3_lcp, Cond.instanceMethod yX3_lcp, Cond.selects RX3 yX3_lcp yX3_lcp, Cond.code yX3_lcp cX3_lcp 2 (some .int), Cond.methodLink RL 45 yX2_rank, Cond.instanceMethod yX2_rank, Cond.selects RX2 yX2_rank yX2_rank, Cond.code yX2_rank cX2_rank 2 (some .int), Cond.methodLink RL 48 yX3_rank, Cond.instanceMethod yX3_rank, Cond.selects RX3 yX3_rank yX3_rank, Cond.code yX3_rank cX3_rank 3 (some .int), Cond.methodLink RL 49 yX2_common, Cond.instanceMethod yX2_common, Cond.selects RX2 yX2_common yX2_common, Cond.code yX2_common cX2_common 3 (some .int), Cond.methodLink RL 53 yX3_common, Cond.instanceMethod yX3_common, Cond.selects RX3 yX3_common yX3_common, Cond.code yX3_common cX3_common 3 (some .int), Cond.methodLink RL 54 yX2_patFeed, Cond.instanceMethod yX2_patFeed]
def wsL_law_r13 : List Cond := [Cond.selects RX2 yX2_patFeed yX2_patFeed, Cond.code yX2_patFeed cX2_patFeed 2 (some .boolean), Cond.fieldLink RX2 82 "TextEnds" "patternLength" "I", Cond.methodLink RL 57 yX3_patFeed, Cond.instanceMethod yX3_patFeed, Cond.selects RX3 yX3_patFeed yX3_patFeed, Cond.code yX3_patFeed cX3_patFeed 2 (some .boolean), Cond.fieldLink RX3 57 "TextEndsModel" "patternSize" "I", Cond.methodLink RL 58 yX2_patClear, Cond.instanceMethod yX2_patClear, Cond.selects RX2 yX2_patClear yX2_patClear, Cond.code yX2_patClear cX2_patClear 1 none, Cond.methodLink RL 61 yX3_patClear, Cond.instanceMethod yX3_patClear, Cond.selects RX3 yX3_patClear yX3_patClear, Cond.code yX3_patClear cX3_patClear 1 none, Cond.methodLink RL 62 yX2_search, Cond.instanceMethod yX2_search, Cond.selects RX2 yX2_search yX2_search, Cond.code yX2_search cX2_search 1 (some .int), Cond.fieldLink RX2 89 "TextEnds" "firstHit" "I", Cond.methodLink RX2 85 yX2_firstEndFrom, Cond.instanceMethod yX2_firstEndFrom, Cond.selects RX2 yX2_firstEndFrom yX2_firstEndFrom]
def wsL_law_r14 : List Cond := [Cond.code yX2_firstEndFrom cX2_firstEndFrom 5 (some .int), Cond.methodLink RX2 121 yX2_compareWithPattern, Cond.instanceMethod yX2_compareWithPattern, Cond.selects RX2 yX2_compareWithPattern yX2_compareWithPattern, Cond.code yX2_compareWithPattern cX2_compareWithPattern 4 (some .int), Cond.methodLink RL 65 yX3_search, Cond.instanceMethod yX3_search, Cond.selects RX3 yX3_search yX3_search, Cond.code yX3_search cX3_search 2 (some .int), Cond.fieldLink RX3 60 "TextEndsModel" "hits" "I", Cond.fieldLink RX3 66 "TextEndsModel" "first" "I", Cond.methodLink RX3 63 yX3_begins, Cond.instanceMethod yX3_begins, Cond.selects RX3 yX3_begins yX3_begins, Cond.code yX3_begins cX3_begins 3 (some .boolean), Cond.methodLink RL 66 yX2_hit, Cond.instanceMethod yX2_hit, Cond.selects RX2 yX2_hit yX2_hit, Cond.code yX2_hit cX2_hit 2 (some .int), Cond.methodLink RL 69 yX3_hit, Cond.instanceMethod yX3_hit, Cond.selects RX3 yX3_hit yX3_hit, Cond.code yX3_hit cX3_hit 2 (some .int), Cond.methodLink RL 70 yX2_repeated]
def wsL_law_r15 : List Cond := [Cond.instanceMethod yX2_repeated, Cond.selects RX2 yX2_repeated yX2_repeated, Cond.code yX2_repeated cX2_repeated 1 (some .int), Cond.methodLink RX2 99 yX2_longestAlike, Cond.instanceMethod yX2_longestAlike, Cond.selects RX2 yX2_longestAlike yX2_longestAlike, Cond.code yX2_longestAlike cX2_longestAlike 3 (some .int), Cond.methodLink RL 73 yX3_repeated, Cond.instanceMethod yX3_repeated, Cond.selects RX3 yX3_repeated yX3_repeated, Cond.code yX3_repeated cX3_repeated 4 (some .int), Cond.methodLink RL 74 yX2_repeatedAt, Cond.instanceMethod yX2_repeatedAt, Cond.selects RX2 yX2_repeatedAt yX2_repeatedAt, Cond.code yX2_repeatedAt cX2_repeatedAt 2 (some .int), Cond.methodLink RX2 103 yX2_leastPlaceOf, Cond.instanceMethod yX2_leastPlaceOf, Cond.selects RX2 yX2_leastPlaceOf yX2_leastPlaceOf, Cond.code yX2_leastPlaceOf cX2_leastPlaceOf 4 (some .int), Cond.methodLink RL 77 yX3_repeatedAt, Cond.instanceMethod yX3_repeatedAt, Cond.selects RX3 yX3_repeatedAt yX3_repeatedAt, Cond.code yX3_repeatedAt cX3_repeatedAt 4 (some .int), Cond.methodLink RX3 69 yX3_repeated]
def wsL_law_r16 : List Cond := [Cond.methodLink RL 78 yX2_different, Cond.instanceMethod yX2_different, Cond.selects RX2 yX2_different yX2_different, Cond.code yX2_different cX2_different 3 (some .int), Cond.methodLink RL 81 yX3_different, Cond.instanceMethod yX3_different, Cond.selects RX3 yX3_different yX3_different, Cond.code yX3_different cX3_different 3 (some .int), Cond.methodLink RL 82 yX2_count, Cond.instanceMethod yX2_count, Cond.selects RX2 yX2_count yX2_count, Cond.code yX2_count cX2_count 2 (some .int), Cond.methodLink RL 85 yX3_count, Cond.instanceMethod yX3_count, Cond.selects RX3 yX3_count yX3_count, Cond.code yX3_count cX3_count 2 (some .int), Cond.methodLink RL 86 yX2_clear, Cond.instanceMethod yX2_clear, Cond.selects RX2 yX2_clear yX2_clear, Cond.code yX2_clear cX2_clear 1 none, Cond.methodLink RX2 106 yX2_patClear, Cond.methodLink RL 89 yX3_clear, Cond.instanceMethod yX3_clear, Cond.selects RX3 yX3_clear yX3_clear]
def wsL_law_r17 : List Cond := [Cond.code yX3_clear cX3_clear 1 none]
def wsL_law : List Cond := (wsL_law_r1 ++ (wsL_law_r2 ++ (wsL_law_r3 ++ (wsL_law_r4 ++ (wsL_law_r5 ++ (wsL_law_r6 ++ (wsL_law_r7 ++ (wsL_law_r8 ++ (wsL_law_r9 ++ (wsL_law_r10 ++ (wsL_law_r11 ++ (wsL_law_r12 ++ (wsL_law_r13 ++ (wsL_law_r14 ++ (wsL_law_r15 ++ (wsL_law_r16 ++ wsL_law_r17)))))))))))))))) ++ wsX20 ++ wsX30 ++ wsX00 ++ wsX10 ++ ([] : List Cond)
set_option maxRecDepth 20000 in
theorem wsL_law_in : ∀ w ∈ wsL_law, w ∈ lw_tbl := fun w h => (goodIn_p wsL_law [383, 44, 47, 50, 53, 56, 61, 65, 71, 388, 178, 182, 186, 433, 190, 193, 437, 198, 202, 206, 211, 215, 219, 223, 227, 231, 235, 238, 242, 245, 249, 253, 257, 261, 265, 269, 273, 277, 281, 285, 289, 293, 297, 302, 307, 442, 446, 450, 311, 315, 454, 458, 319, 462, 323, 466, 327, 470, 331, 474, 335, 478, 339, 343, 347, 482, 486, 351, 490, 355, 359, 494, 363, 367, 498, 371, 503, 375, 507, 379, 511] (by decide +kernel) (by decide +kernel) w h).1
theorem inlX0 : ∀ w ∈ wsX00, w ∈ wsL_law := fun _ h => List.mem_append_left _ (List.mem_append_left _ (List.mem_append_right _ h))
theorem inX0 : ∀ w ∈ wsX00, w ∈ lw_tbl := fun w h => wsL_law_in w (inlX0 w h)
theorem inlX1 : ∀ w ∈ wsX10, w ∈ wsL_law := fun _ h => List.mem_append_left _ (List.mem_append_right _ h)
theorem inX1 : ∀ w ∈ wsX10, w ∈ lw_tbl := fun w h => wsL_law_in w (inlX1 w h)
theorem inlX2 : ∀ w ∈ wsX20, w ∈ wsL_law := fun _ h => List.mem_append_left _ (List.mem_append_left _ (List.mem_append_left _ (List.mem_append_left _ (List.mem_append_right _ h))))
theorem inX2 : ∀ w ∈ wsX20, w ∈ lw_tbl := fun w h => wsL_law_in w (inlX2 w h)
theorem inlX3 : ∀ w ∈ wsX30, w ∈ wsL_law := fun _ h => List.mem_append_left _ (List.mem_append_left _ (List.mem_append_left _ (List.mem_append_right _ h)))
theorem inX3 : ∀ w ∈ wsX30, w ∈ lw_tbl := fun w h => wsL_law_in w (inlX3 w h)
theorem inJ9 : ∀ w ∈ wsJ90, w ∈ lw_tbl := by decide +kernel
set_option maxRecDepth 20000 in
theorem ggX0_init_X0_levelsFor : GoodIn wsX0_init wsX0_levelsFor := goodIn_r _ [29] (by decide +kernel) (by decide +kernel)
set_option maxRecDepth 20000 in
theorem gX0_init_X0_levelsFor : GoodIn wsX0_init (va_wsS RX0 9 yX0_levelsFor wsX0_levelsFor) := goodIn_app (goodIn_of _ (by decide +kernel)) ggX0_init_X0_levelsFor
set_option maxRecDepth 20000 in
theorem ggX0_init_X1_init : GoodIn wsX0_init wsX1_init := goodIn_r _ [32, 33, 2, 3, 34, 9, 10, 11, 16, 35, 51, 52, 53] (by decide +kernel) (by decide +kernel)
set_option maxRecDepth 20000 in
theorem gX0_init_X1_init : GoodIn wsX0_init (wsX1_init) := ggX0_init_X1_init
theorem dX0_init_0 : decode cX0_init 0 = .ok (.aload_n 0, 1) := by decide +kernel
theorem dX0_init_1 : decode cX0_init 1 = .ok (.invokespecial 3, 3) := by decide +kernel
theorem dX0_init_4 : decode cX0_init 4 = .ok (.aload_n 0, 1) := by decide +kernel
theorem dX0_init_5 : decode cX0_init 5 = .ok (.iload_n 1, 1) := by decide +kernel
theorem dX0_init_6 : decode cX0_init 6 = .ok (.invokestatic 9, 3) := by decide +kernel
theorem dX0_init_9 : decode cX0_init 9 = .ok (.anewarray 15, 3) := by decide +kernel
theorem dX0_init_12 : decode cX0_init 12 = .ok (.putfield 17, 3) := by decide +kernel
theorem dX0_init_15 : decode cX0_init 15 = .ok (.iconst 0, 1) := by decide +kernel
theorem dX0_init_16 : decode cX0_init 16 = .ok (.istore_n 3, 1) := by decide +kernel
theorem dX0_init_17 : decode cX0_init 17 = .ok (.iload_n 3, 1) := by decide +kernel
theorem dX0_init_18 : decode cX0_init 18 = .ok (.aload_n 0, 1) := by decide +kernel
theorem dX0_init_19 : decode cX0_init 19 = .ok (.getfield 17, 3) := by decide +kernel
theorem dX0_init_22 : decode cX0_init 22 = .ok (.arraylength, 1) := by decide +kernel
theorem dX0_init_23 : decode cX0_init 23 = .ok (.if_icmp .ge 25, 3) := by decide +kernel
theorem dX0_init_26 : decode cX0_init 26 = .ok (.aload_n 0, 1) := by decide +kernel
theorem dX0_init_27 : decode cX0_init 27 = .ok (.getfield 17, 3) := by decide +kernel
theorem dX0_init_30 : decode cX0_init 30 = .ok (.iload_n 3, 1) := by decide +kernel
theorem dX0_init_31 : decode cX0_init 31 = .ok (.new 15, 3) := by decide +kernel
theorem dX0_init_34 : decode cX0_init 34 = .ok (.dup, 1) := by decide +kernel
theorem dX0_init_35 : decode cX0_init 35 = .ok (.iload_n 1, 1) := by decide +kernel
theorem dX0_init_36 : decode cX0_init 36 = .ok (.iload_n 3, 1) := by decide +kernel
theorem dX0_init_37 : decode cX0_init 37 = .ok (.ishr, 1) := by decide +kernel
theorem dX0_init_38 : decode cX0_init 38 = .ok (.invokespecial 21, 3) := by decide +kernel
theorem dX0_init_41 : decode cX0_init 41 = .ok (.aastore, 1) := by decide +kernel
theorem dX0_init_42 : decode cX0_init 42 = .ok (.iinc 3 1, 3) := by decide +kernel
theorem dX0_init_45 : decode cX0_init 45 = .ok (.goto (-28), 3) := by decide +kernel
theorem dX0_init_48 : decode cX0_init 48 = .ok (.iload_n 2, 1) := by decide +kernel
theorem dX0_init_49 : decode cX0_init 49 = .ok (.iload_n 1, 1) := by decide +kernel
theorem dX0_init_50 : decode cX0_init 50 = .ok (.iconst 2, 1) := by decide +kernel
theorem dX0_init_51 : decode cX0_init 51 = .ok (.idiv, 1) := by decide +kernel
theorem dX0_init_52 : decode cX0_init 52 = .ok (.invokestatic 24, 3) := by decide +kernel
theorem dX0_init_55 : decode cX0_init 55 = .ok (.istore_n 3, 1) := by decide +kernel
theorem dX0_init_56 : decode cX0_init 56 = .ok (.aload_n 0, 1) := by decide +kernel
theorem dX0_init_57 : decode cX0_init 57 = .ok (.iload_n 2, 1) := by decide +kernel
theorem dX0_init_58 : decode cX0_init 58 = .ok (.putfield 30, 3) := by decide +kernel
theorem dX0_init_61 : decode cX0_init 61 = .ok (.aload_n 0, 1) := by decide +kernel
theorem dX0_init_62 : decode cX0_init 62 = .ok (.aload_n 0, 1) := by decide +kernel
theorem dX0_init_63 : decode cX0_init 63 = .ok (.getfield 17, 3) := by decide +kernel
theorem dX0_init_66 : decode cX0_init 66 = .ok (.iconst 0, 1) := by decide +kernel
theorem dX0_init_67 : decode cX0_init 67 = .ok (.aaload, 1) := by decide +kernel
theorem dX0_init_68 : decode cX0_init 68 = .ok (.getfield 34, 3) := by decide +kernel
theorem dX0_init_71 : decode cX0_init 71 = .ok (.putfield 38, 3) := by decide +kernel
theorem dX0_init_74 : decode cX0_init 74 = .ok (.aload_n 0, 1) := by decide +kernel
theorem dX0_init_75 : decode cX0_init 75 = .ok (.aload_n 0, 1) := by decide +kernel
theorem dX0_init_76 : decode cX0_init 76 = .ok (.getfield 38, 3) := by decide +kernel
theorem dX0_init_79 : decode cX0_init 79 = .ok (.putfield 41, 3) := by decide +kernel
theorem dX0_init_82 : decode cX0_init 82 = .ok (.aload_n 0, 1) := by decide +kernel
theorem dX0_init_83 : decode cX0_init 83 = .ok (.iload_n 1, 1) := by decide +kernel
theorem dX0_init_84 : decode cX0_init 84 = .ok (.newarray .int, 2) := by decide +kernel
theorem dX0_init_86 : decode cX0_init 86 = .ok (.putfield 42, 3) := by decide +kernel
theorem dX0_init_89 : decode cX0_init 89 = .ok (.aload_n 0, 1) := by decide +kernel
theorem dX0_init_90 : decode cX0_init 90 = .ok (.iload_n 1, 1) := by decide +kernel
theorem dX0_init_91 : decode cX0_init 91 = .ok (.newarray .boolean, 2) := by decide +kernel
theorem dX0_init_93 : decode cX0_init 93 = .ok (.putfield 45, 3) := by decide +kernel
theorem dX0_init_96 : decode cX0_init 96 = .ok (.aload_n 0, 1) := by decide +kernel
theorem dX0_init_97 : decode cX0_init 97 = .ok (.iload_n 1, 1) := by decide +kernel
theorem dX0_init_98 : decode cX0_init 98 = .ok (.newarray .int, 2) := by decide +kernel
theorem dX0_init_100 : decode cX0_init 100 = .ok (.putfield 49, 3) := by decide +kernel
theorem dX0_init_103 : decode cX0_init 103 = .ok (.aload_n 0, 1) := by decide +kernel
theorem dX0_init_104 : decode cX0_init 104 = .ok (.iload_n 1, 1) := by decide +kernel
theorem dX0_init_105 : decode cX0_init 105 = .ok (.iconst 2, 1) := by decide +kernel
end
section
theorem dX0_init_106 : decode cX0_init 106 = .ok (.idiv, 1) := by decide +kernel
theorem dX0_init_107 : decode cX0_init 107 = .ok (.newarray .int, 2) := by decide +kernel
theorem dX0_init_109 : decode cX0_init 109 = .ok (.putfield 52, 3) := by decide +kernel
theorem dX0_init_112 : decode cX0_init 112 = .ok (.aload_n 0, 1) := by decide +kernel
theorem dX0_init_113 : decode cX0_init 113 = .ok (.iload_n 1, 1) := by decide +kernel
theorem dX0_init_114 : decode cX0_init 114 = .ok (.iconst 2, 1) := by decide +kernel
theorem dX0_init_115 : decode cX0_init 115 = .ok (.idiv, 1) := by decide +kernel
theorem dX0_init_116 : decode cX0_init 116 = .ok (.newarray .int, 2) := by decide +kernel
theorem dX0_init_118 : decode cX0_init 118 = .ok (.putfield 55, 3) := by decide +kernel
theorem dX0_init_121 : decode cX0_init 121 = .ok (.aload_n 0, 1) := by decide +kernel
theorem dX0_init_122 : decode cX0_init 122 = .ok (.iload_n 3, 1) := by decide +kernel
theorem dX0_init_123 : decode cX0_init 123 = .ok (.iconst 1, 1) := by decide +kernel
theorem dX0_init_124 : decode cX0_init 124 = .ok (.iadd, 1) := by decide +kernel
theorem dX0_init_125 : decode cX0_init 125 = .ok (.newarray .int, 2) := by decide +kernel
theorem dX0_init_127 : decode cX0_init 127 = .ok (.putfield 58, 3) := by decide +kernel
theorem dX0_init_130 : decode cX0_init 130 = .ok (.aload_n 0, 1) := by decide +kernel
theorem dX0_init_131 : decode cX0_init 131 = .ok (.iload_n 3, 1) := by decide +kernel
theorem dX0_init_132 : decode cX0_init 132 = .ok (.newarray .int, 2) := by decide +kernel
theorem dX0_init_134 : decode cX0_init 134 = .ok (.putfield 61, 3) := by decide +kernel
theorem dX0_init_137 : decode cX0_init 137 = .ok (.aload_n 0, 1) := by decide +kernel
theorem dX0_init_138 : decode cX0_init 138 = .ok (.iload_n 3, 1) := by decide +kernel
theorem dX0_init_139 : decode cX0_init 139 = .ok (.newarray .int, 2) := by decide +kernel
theorem dX0_init_141 : decode cX0_init 141 = .ok (.putfield 64, 3) := by decide +kernel
theorem dX0_init_144 : decode cX0_init 144 = .ok (.return_, 1) := by decide +kernel
set_option maxRecDepth 20000 in
theorem ggX0_sortEnds_X1_hold : GoodIn wsX0_sortEnds wsX1_hold := goodIn_r _ [8, 9, 10, 11, 12, 13, 14, 15, 131, 132, 133] (by decide +kernel) (by decide +kernel)
set_option maxRecDepth 20000 in
theorem gX0_sortEnds_X1_hold : GoodIn wsX0_sortEnds (wsV RX0 67 RX1 yX1_hold wsX1_hold) := goodIn_app (goodIn_of _ (by decide +kernel)) ggX0_sortEnds_X1_hold
set_option maxRecDepth 20000 in
theorem ggX0_sortEnds_X0_goDown : GoodIn wsX0_sortEnds wsX0_goDown := goodIn_r _ [20, 1, 21, 22, 23, 24, 19, 25, 26, 27, 28, 29, 30, 31, 32, 33, 34, 35, 36, 37, 38, 39, 40, 41, 42, 43, 44, 45, 46, 47, 48, 49, 50, 51, 52, 53, 54, 55, 56, 57, 58, 59, 60, 61, 62, 63, 64, 65, 66, 67, 68, 69, 70, 71, 72, 73, 74, 75, 76, 77, 78, 79, 80, 81, 82, 83, 84, 85, 86, 87, 88, 89, 90, 91, 92, 93, 94, 95, 3, 96, 97, 98, 99, 100, 101, 102, 103, 104, 105, 106, 107, 108, 109, 110, 111, 4, 5, 6, 7, 8, 9, 10, 11, 12, 13, 14, 15, 116, 117, 118, 119, 120, 121, 122, 123, 124, 125, 126, 127, 128, 129, 130, 131, 132, 133] (by decide +kernel) (by decide +kernel)
set_option maxRecDepth 20000 in
theorem gX0_sortEnds_X0_goDown : GoodIn wsX0_sortEnds (wsV RX0 71 RX0 yX0_goDown wsX0_goDown) := goodIn_app (goodIn_of _ (by decide +kernel)) ggX0_sortEnds_X0_goDown
set_option maxRecDepth 20000 in
theorem ggX0_sortEnds_X0_induceFrom : GoodIn wsX0_sortEnds wsX0_induceFrom := goodIn_r _ [69, 29, 70, 63, 49, 71, 72, 73, 19, 74, 31, 75, 64, 56, 65, 76, 77, 78, 79, 37, 38, 39, 40, 27, 55, 57, 80, 81, 82, 83, 62, 51, 52, 53, 54, 36, 84, 85, 86, 87, 41, 42, 43, 44, 88, 89, 90, 91, 116, 117, 118, 119, 120, 121, 122, 123, 124, 125, 126, 127, 128, 129, 130] (by decide +kernel) (by decide +kernel)
set_option maxRecDepth 20000 in
theorem gX0_sortEnds_X0_induceFrom : GoodIn wsX0_sortEnds (wsV RX0 75 RX0 yX0_induceFrom wsX0_induceFrom) := goodIn_app (goodIn_of _ (by decide +kernel)) ggX0_sortEnds_X0_induceFrom
set_option maxRecDepth 20000 in
theorem ggX0_sortEnds_X0_enter : GoodIn wsX0_sortEnds wsX0_enter := goodIn_r _ [25, 26, 27, 28, 29, 30, 31, 32, 33, 34, 19, 35, 36, 37, 38, 39, 40, 41, 42, 43, 44, 45, 46, 47, 48, 49, 50, 21, 51, 52, 53, 54, 55, 56, 57, 58, 59, 60, 61, 62, 63, 64, 65, 131, 132, 133, 116, 117, 118, 119, 120, 121, 122, 123, 124, 125, 126, 127, 128, 129, 130] (by decide +kernel) (by decide +kernel)
set_option maxRecDepth 20000 in
theorem gX0_sortEnds_X0_enter : GoodIn wsX0_sortEnds (wsV RX0 79 RX0 yX0_enter wsX0_enter) := goodIn_app (goodIn_of _ (by decide +kernel)) ggX0_sortEnds_X0_enter
set_option maxRecDepth 20000 in
theorem ggX0_sortEnds_X0_takeOrderFromBelow : GoodIn wsX0_sortEnds wsX0_takeOrderFromBelow := goodIn_r _ [115, 49, 3, 21, 70, 64, 56, 65, 55, 57, 116, 117, 118, 119, 120, 121, 122, 123, 124, 125, 126, 127, 128, 129, 130] (by decide +kernel) (by decide +kernel)
set_option maxRecDepth 20000 in
theorem gX0_sortEnds_X0_takeOrderFromBelow : GoodIn wsX0_sortEnds (wsV RX0 83 RX0 yX0_takeOrderFromBelow wsX0_takeOrderFromBelow) := goodIn_app (goodIn_of _ (by decide +kernel)) ggX0_sortEnds_X0_takeOrderFromBelow
theorem dX0_sortEnds_0 : decode cX0_sortEnds 0 = .ok (.iload_n 1, 1) := by decide +kernel
theorem dX0_sortEnds_1 : decode cX0_sortEnds 1 = .ok (.iconst 1, 1) := by decide +kernel
theorem dX0_sortEnds_2 : decode cX0_sortEnds 2 = .ok (.if_icmp .ge 4, 3) := by decide +kernel
theorem dX0_sortEnds_5 : decode cX0_sortEnds 5 = .ok (.return_, 1) := by decide +kernel
theorem dX0_sortEnds_6 : decode cX0_sortEnds 6 = .ok (.aload_n 0, 1) := by decide +kernel
theorem dX0_sortEnds_7 : decode cX0_sortEnds 7 = .ok (.getfield 17, 3) := by decide +kernel
theorem dX0_sortEnds_10 : decode cX0_sortEnds 10 = .ok (.iconst 0, 1) := by decide +kernel
theorem dX0_sortEnds_11 : decode cX0_sortEnds 11 = .ok (.aaload, 1) := by decide +kernel
theorem dX0_sortEnds_12 : decode cX0_sortEnds 12 = .ok (.iload_n 1, 1) := by decide +kernel
theorem dX0_sortEnds_13 : decode cX0_sortEnds 13 = .ok (.aload_n 0, 1) := by decide +kernel
theorem dX0_sortEnds_14 : decode cX0_sortEnds 14 = .ok (.getfield 30, 3) := by decide +kernel
theorem dX0_sortEnds_17 : decode cX0_sortEnds 17 = .ok (.invokevirtual 67, 3) := by decide +kernel
theorem dX0_sortEnds_20 : decode cX0_sortEnds 20 = .ok (.aload_n 0, 1) := by decide +kernel
theorem dX0_sortEnds_21 : decode cX0_sortEnds 21 = .ok (.invokevirtual 71, 3) := by decide +kernel
theorem dX0_sortEnds_24 : decode cX0_sortEnds 24 = .ok (.istore_n 2, 1) := by decide +kernel
theorem dX0_sortEnds_25 : decode cX0_sortEnds 25 = .ok (.aload_n 0, 1) := by decide +kernel
theorem dX0_sortEnds_26 : decode cX0_sortEnds 26 = .ok (.aload_n 0, 1) := by decide +kernel
theorem dX0_sortEnds_27 : decode cX0_sortEnds 27 = .ok (.getfield 55, 3) := by decide +kernel
theorem dX0_sortEnds_30 : decode cX0_sortEnds 30 = .ok (.invokevirtual 75, 3) := by decide +kernel
theorem dX0_sortEnds_33 : decode cX0_sortEnds 33 = .ok (.iload_n 2, 1) := by decide +kernel
theorem dX0_sortEnds_34 : decode cX0_sortEnds 34 = .ok (.iconst 1, 1) := by decide +kernel
theorem dX0_sortEnds_35 : decode cX0_sortEnds 35 = .ok (.isub, 1) := by decide +kernel
theorem dX0_sortEnds_36 : decode cX0_sortEnds 36 = .ok (.istore_n 3, 1) := by decide +kernel
theorem dX0_sortEnds_37 : decode cX0_sortEnds 37 = .ok (.iload_n 3, 1) := by decide +kernel
theorem dX0_sortEnds_38 : decode cX0_sortEnds 38 = .ok (.ifCond .lt 31, 3) := by decide +kernel
theorem dX0_sortEnds_41 : decode cX0_sortEnds 41 = .ok (.aload_n 0, 1) := by decide +kernel
theorem dX0_sortEnds_42 : decode cX0_sortEnds 42 = .ok (.aload_n 0, 1) := by decide +kernel
theorem dX0_sortEnds_43 : decode cX0_sortEnds 43 = .ok (.getfield 17, 3) := by decide +kernel
theorem dX0_sortEnds_46 : decode cX0_sortEnds 46 = .ok (.iload_n 3, 1) := by decide +kernel
theorem dX0_sortEnds_47 : decode cX0_sortEnds 47 = .ok (.aaload, 1) := by decide +kernel
theorem dX0_sortEnds_48 : decode cX0_sortEnds 48 = .ok (.invokevirtual 79, 3) := by decide +kernel
theorem dX0_sortEnds_51 : decode cX0_sortEnds 51 = .ok (.aload_n 0, 1) := by decide +kernel
theorem dX0_sortEnds_52 : decode cX0_sortEnds 52 = .ok (.invokevirtual 83, 3) := by decide +kernel
theorem dX0_sortEnds_55 : decode cX0_sortEnds 55 = .ok (.aload_n 0, 1) := by decide +kernel
theorem dX0_sortEnds_56 : decode cX0_sortEnds 56 = .ok (.aload_n 0, 1) := by decide +kernel
theorem dX0_sortEnds_57 : decode cX0_sortEnds 57 = .ok (.getfield 55, 3) := by decide +kernel
theorem dX0_sortEnds_60 : decode cX0_sortEnds 60 = .ok (.invokevirtual 75, 3) := by decide +kernel
theorem dX0_sortEnds_63 : decode cX0_sortEnds 63 = .ok (.iinc 3 (-1), 3) := by decide +kernel
theorem dX0_sortEnds_66 : decode cX0_sortEnds 66 = .ok (.goto (-29), 3) := by decide +kernel
theorem dX0_sortEnds_69 : decode cX0_sortEnds 69 = .ok (.return_, 1) := by decide +kernel
theorem dX0_levelsFor_0 : decode cX0_levelsFor 0 = .ok (.iconst 1, 1) := by decide +kernel
theorem dX0_levelsFor_1 : decode cX0_levelsFor 1 = .ok (.istore_n 1, 1) := by decide +kernel
theorem dX0_levelsFor_2 : decode cX0_levelsFor 2 = .ok (.iload_n 0, 1) := by decide +kernel
theorem dX0_levelsFor_3 : decode cX0_levelsFor 3 = .ok (.iconst 2, 1) := by decide +kernel
theorem dX0_levelsFor_4 : decode cX0_levelsFor 4 = .ok (.idiv, 1) := by decide +kernel
theorem dX0_levelsFor_5 : decode cX0_levelsFor 5 = .ok (.istore_n 2, 1) := by decide +kernel
theorem dX0_levelsFor_6 : decode cX0_levelsFor 6 = .ok (.iload_n 2, 1) := by decide +kernel
theorem dX0_levelsFor_7 : decode cX0_levelsFor 7 = .ok (.iconst 1, 1) := by decide +kernel
theorem dX0_levelsFor_8 : decode cX0_levelsFor 8 = .ok (.if_icmp .le 13, 3) := by decide +kernel
theorem dX0_levelsFor_11 : decode cX0_levelsFor 11 = .ok (.iinc 1 1, 3) := by decide +kernel
theorem dX0_levelsFor_14 : decode cX0_levelsFor 14 = .ok (.iload_n 2, 1) := by decide +kernel
theorem dX0_levelsFor_15 : decode cX0_levelsFor 15 = .ok (.iconst 2, 1) := by decide +kernel
theorem dX0_levelsFor_16 : decode cX0_levelsFor 16 = .ok (.idiv, 1) := by decide +kernel
theorem dX0_levelsFor_17 : decode cX0_levelsFor 17 = .ok (.istore_n 2, 1) := by decide +kernel
theorem dX0_levelsFor_18 : decode cX0_levelsFor 18 = .ok (.goto (-12), 3) := by decide +kernel
theorem dX0_levelsFor_21 : decode cX0_levelsFor 21 = .ok (.iload_n 1, 1) := by decide +kernel
theorem dX0_levelsFor_22 : decode cX0_levelsFor 22 = .ok (.ireturn, 1) := by decide +kernel
set_option maxRecDepth 20000 in
theorem ggX0_goDown_X0_enter : GoodIn wsX0_goDown wsX0_enter := goodIn_r _ [7, 8, 9, 10, 11, 12, 13, 14, 15, 16, 6, 17, 18, 19, 20, 21, 22, 23, 24, 25, 26, 27, 28, 29, 30, 31, 32, 2, 33, 34, 35, 36, 37, 38, 39, 40, 41, 42, 43, 44, 45, 46, 47, 122, 123, 124, 107, 108, 109, 110, 111, 112, 113, 114, 115, 116, 117, 118, 119, 120, 121] (by decide +kernel) (by decide +kernel)
set_option maxRecDepth 20000 in
theorem gX0_goDown_X0_enter : GoodIn wsX0_goDown (wsV RX0 79 RX0 yX0_enter wsX0_enter) := goodIn_app (goodIn_of _ (by decide +kernel)) ggX0_goDown_X0_enter
set_option maxRecDepth 20000 in
theorem ggX0_goDown_X0_induceFrom : GoodIn wsX0_goDown wsX0_induceFrom := goodIn_r _ [51, 11, 52, 45, 31, 53, 54, 55, 6, 56, 13, 57, 46, 38, 47, 58, 59, 60, 61, 19, 20, 21, 22, 9, 37, 39, 62, 63, 64, 65, 44, 33, 34, 35, 36, 18, 66, 67, 68, 69, 23, 24, 25, 26, 70, 71, 72, 73, 107, 108, 109, 110, 111, 112, 113, 114, 115, 116, 117, 118, 119, 120, 121] (by decide +kernel) (by decide +kernel)
set_option maxRecDepth 20000 in
theorem gX0_goDown_X0_induceFrom : GoodIn wsX0_goDown (wsV RX0 75 RX0 yX0_induceFrom wsX0_induceFrom) := goodIn_app (goodIn_of _ (by decide +kernel)) ggX0_goDown_X0_induceFrom
set_option maxRecDepth 20000 in
theorem ggX0_goDown_X0_gatherValleys : GoodIn wsX0_goDown wsX0_gatherValleys := goodIn_r _ [77, 11, 52, 32, 78, 46, 38, 47, 37, 39, 107, 108, 109, 110, 111, 112, 113, 114, 115, 116, 117, 118, 119, 120, 121] (by decide +kernel) (by decide +kernel)
set_option maxRecDepth 20000 in
theorem gX0_goDown_X0_gatherValleys : GoodIn wsX0_goDown (wsV RX0 86 RX0 yX0_gatherValleys wsX0_gatherValleys) := goodIn_app (goodIn_of _ (by decide +kernel)) ggX0_goDown_X0_gatherValleys
set_option maxRecDepth 20000 in
theorem ggX0_goDown_X0_areAllNamed : GoodIn wsX0_goDown wsX0_areAllNamed := goodIn_r _ [82, 8, 31, 83, 84, 85, 6, 86, 78, 32, 46, 38, 47, 87, 88, 89, 90, 91, 92, 93, 94, 2, 11, 19, 20, 21, 22, 9, 37, 39, 95, 96, 97, 98, 99, 100, 101, 102, 103, 104, 105, 106, 122, 123, 124, 107, 108, 109, 110, 111, 112, 113, 114, 115, 116, 117, 118, 119, 120, 121] (by decide +kernel) (by decide +kernel)
set_option maxRecDepth 20000 in
theorem gX0_goDown_X0_areAllNamed : GoodIn wsX0_goDown (wsV RX0 89 RX0 yX0_areAllNamed wsX0_areAllNamed) := goodIn_app (goodIn_of _ (by decide +kernel)) ggX0_goDown_X0_areAllNamed
theorem dX0_goDown_0 : decode cX0_goDown 0 = .ok (.iconst 0, 1) := by decide +kernel
theorem dX0_goDown_1 : decode cX0_goDown 1 = .ok (.istore_n 1, 1) := by decide +kernel
theorem dX0_goDown_2 : decode cX0_goDown 2 = .ok (.iconst 0, 1) := by decide +kernel
theorem dX0_goDown_3 : decode cX0_goDown 3 = .ok (.istore_n 2, 1) := by decide +kernel
theorem dX0_goDown_4 : decode cX0_goDown 4 = .ok (.iconst 0, 1) := by decide +kernel
theorem dX0_goDown_5 : decode cX0_goDown 5 = .ok (.istore_n 3, 1) := by decide +kernel
theorem dX0_goDown_6 : decode cX0_goDown 6 = .ok (.iload_n 3, 1) := by decide +kernel
theorem dX0_goDown_7 : decode cX0_goDown 7 = .ok (.aload_n 0, 1) := by decide +kernel
theorem dX0_goDown_8 : decode cX0_goDown 8 = .ok (.getfield 17, 3) := by decide +kernel
theorem dX0_goDown_11 : decode cX0_goDown 11 = .ok (.arraylength, 1) := by decide +kernel
theorem dX0_goDown_12 : decode cX0_goDown 12 = .ok (.if_icmp .ge 69, 3) := by decide +kernel
theorem dX0_goDown_15 : decode cX0_goDown 15 = .ok (.iload_n 2, 1) := by decide +kernel
theorem dX0_goDown_16 : decode cX0_goDown 16 = .ok (.ifCond .ne 65, 3) := by decide +kernel
theorem dX0_goDown_19 : decode cX0_goDown 19 = .ok (.aload_n 0, 1) := by decide +kernel
theorem dX0_goDown_20 : decode cX0_goDown 20 = .ok (.aload_n 0, 1) := by decide +kernel
theorem dX0_goDown_21 : decode cX0_goDown 21 = .ok (.getfield 17, 3) := by decide +kernel
theorem dX0_goDown_24 : decode cX0_goDown 24 = .ok (.iload_n 3, 1) := by decide +kernel
theorem dX0_goDown_25 : decode cX0_goDown 25 = .ok (.aaload, 1) := by decide +kernel
theorem dX0_goDown_26 : decode cX0_goDown 26 = .ok (.invokevirtual 79, 3) := by decide +kernel
theorem dX0_goDown_29 : decode cX0_goDown 29 = .ok (.aload_n 0, 1) := by decide +kernel
theorem dX0_goDown_30 : decode cX0_goDown 30 = .ok (.aload_n 0, 1) := by decide +kernel
theorem dX0_goDown_31 : decode cX0_goDown 31 = .ok (.getfield 52, 3) := by decide +kernel
theorem dX0_goDown_34 : decode cX0_goDown 34 = .ok (.invokevirtual 75, 3) := by decide +kernel
theorem dX0_goDown_37 : decode cX0_goDown 37 = .ok (.aload_n 0, 1) := by decide +kernel
theorem dX0_goDown_38 : decode cX0_goDown 38 = .ok (.invokevirtual 86, 3) := by decide +kernel
theorem dX0_goDown_41 : decode cX0_goDown 41 = .ok (.iload_n 3, 1) := by decide +kernel
theorem dX0_goDown_42 : decode cX0_goDown 42 = .ok (.iconst 1, 1) := by decide +kernel
theorem dX0_goDown_43 : decode cX0_goDown 43 = .ok (.iadd, 1) := by decide +kernel
theorem dX0_goDown_44 : decode cX0_goDown 44 = .ok (.aload_n 0, 1) := by decide +kernel
theorem dX0_goDown_45 : decode cX0_goDown 45 = .ok (.getfield 17, 3) := by decide +kernel
theorem dX0_goDown_48 : decode cX0_goDown 48 = .ok (.arraylength, 1) := by decide +kernel
theorem dX0_goDown_49 : decode cX0_goDown 49 = .ok (.if_icmp .eq 18, 3) := by decide +kernel
theorem dX0_goDown_52 : decode cX0_goDown 52 = .ok (.aload_n 0, 1) := by decide +kernel
theorem dX0_goDown_53 : decode cX0_goDown 53 = .ok (.aload_n 0, 1) := by decide +kernel
theorem dX0_goDown_54 : decode cX0_goDown 54 = .ok (.getfield 17, 3) := by decide +kernel
theorem dX0_goDown_57 : decode cX0_goDown 57 = .ok (.iload_n 3, 1) := by decide +kernel
theorem dX0_goDown_58 : decode cX0_goDown 58 = .ok (.iconst 1, 1) := by decide +kernel
theorem dX0_goDown_59 : decode cX0_goDown 59 = .ok (.iadd, 1) := by decide +kernel
theorem dX0_goDown_60 : decode cX0_goDown 60 = .ok (.aaload, 1) := by decide +kernel
theorem dX0_goDown_61 : decode cX0_goDown 61 = .ok (.invokevirtual 89, 3) := by decide +kernel
theorem dX0_goDown_64 : decode cX0_goDown 64 = .ok (.ifCond .eq 7, 3) := by decide +kernel
theorem dX0_goDown_67 : decode cX0_goDown 67 = .ok (.iconst 1, 1) := by decide +kernel
theorem dX0_goDown_68 : decode cX0_goDown 68 = .ok (.goto 4, 3) := by decide +kernel
theorem dX0_goDown_71 : decode cX0_goDown 71 = .ok (.iconst 0, 1) := by decide +kernel
theorem dX0_goDown_72 : decode cX0_goDown 72 = .ok (.istore_n 2, 1) := by decide +kernel
theorem dX0_goDown_73 : decode cX0_goDown 73 = .ok (.iload_n 3, 1) := by decide +kernel
theorem dX0_goDown_74 : decode cX0_goDown 74 = .ok (.istore_n 1, 1) := by decide +kernel
theorem dX0_goDown_75 : decode cX0_goDown 75 = .ok (.iinc 3 1, 3) := by decide +kernel
theorem dX0_goDown_78 : decode cX0_goDown 78 = .ok (.goto (-72), 3) := by decide +kernel
theorem dX0_goDown_81 : decode cX0_goDown 81 = .ok (.iload_n 1, 1) := by decide +kernel
theorem dX0_goDown_82 : decode cX0_goDown 82 = .ok (.ireturn, 1) := by decide +kernel
set_option maxRecDepth 20000 in
theorem ggX0_areAllNamed_X0_nameValleys : GoodIn wsX0_areAllNamed wsX0_nameValleys := goodIn_r _ [7, 2, 8, 9, 10, 11, 12, 13, 14, 15, 6, 16, 17, 18, 19, 20, 21, 22, 23, 24, 25, 26, 27, 28, 29, 45, 46, 47, 48, 49, 50, 51, 52, 53, 54, 55, 56, 57, 58, 59] (by decide +kernel) (by decide +kernel)
set_option maxRecDepth 20000 in
theorem gX0_areAllNamed_X0_nameValleys : GoodIn wsX0_areAllNamed (wsV RX0 93 RX0 yX0_nameValleys wsX0_nameValleys) := goodIn_app (goodIn_of _ (by decide +kernel)) ggX0_areAllNamed_X0_nameValleys
set_option maxRecDepth 20000 in
theorem ggX0_areAllNamed_X1_hold : GoodIn wsX0_areAllNamed wsX1_hold := goodIn_r _ [34, 35, 36, 37, 38, 39, 40, 41, 42, 43, 44] (by decide +kernel) (by decide +kernel)
set_option maxRecDepth 20000 in
theorem gX0_areAllNamed_X1_hold : GoodIn wsX0_areAllNamed (wsV RX0 67 RX1 yX1_hold wsX1_hold) := goodIn_app (goodIn_of _ (by decide +kernel)) ggX0_areAllNamed_X1_hold
theorem dX0_areAllNamed_0 : decode cX0_areAllNamed 0 = .ok (.aload_n 0, 1) := by decide +kernel
theorem dX0_areAllNamed_1 : decode cX0_areAllNamed 1 = .ok (.aload_n 1, 1) := by decide +kernel
theorem dX0_areAllNamed_2 : decode cX0_areAllNamed 2 = .ok (.getfield 34, 3) := by decide +kernel
theorem dX0_areAllNamed_5 : decode cX0_areAllNamed 5 = .ok (.invokevirtual 93, 3) := by decide +kernel
theorem dX0_areAllNamed_8 : decode cX0_areAllNamed 8 = .ok (.istore_n 2, 1) := by decide +kernel
theorem dX0_areAllNamed_9 : decode cX0_areAllNamed 9 = .ok (.aload_n 1, 1) := by decide +kernel
theorem dX0_areAllNamed_10 : decode cX0_areAllNamed 10 = .ok (.aload_n 0, 1) := by decide +kernel
theorem dX0_areAllNamed_11 : decode cX0_areAllNamed 11 = .ok (.getfield 97, 3) := by decide +kernel
theorem dX0_areAllNamed_14 : decode cX0_areAllNamed 14 = .ok (.iload_n 2, 1) := by decide +kernel
theorem dX0_areAllNamed_15 : decode cX0_areAllNamed 15 = .ok (.invokevirtual 67, 3) := by decide +kernel
theorem dX0_areAllNamed_18 : decode cX0_areAllNamed 18 = .ok (.iload_n 2, 1) := by decide +kernel
theorem dX0_areAllNamed_19 : decode cX0_areAllNamed 19 = .ok (.aload_n 0, 1) := by decide +kernel
theorem dX0_areAllNamed_20 : decode cX0_areAllNamed 20 = .ok (.getfield 97, 3) := by decide +kernel
theorem dX0_areAllNamed_23 : decode cX0_areAllNamed 23 = .ok (.if_icmp .ne 7, 3) := by decide +kernel
theorem dX0_areAllNamed_26 : decode cX0_areAllNamed 26 = .ok (.iconst 1, 1) := by decide +kernel
theorem dX0_areAllNamed_27 : decode cX0_areAllNamed 27 = .ok (.goto 4, 3) := by decide +kernel
theorem dX0_areAllNamed_30 : decode cX0_areAllNamed 30 = .ok (.iconst 0, 1) := by decide +kernel
theorem dX0_areAllNamed_31 : decode cX0_areAllNamed 31 = .ok (.ireturn, 1) := by decide +kernel
set_option maxRecDepth 20000 in
theorem ggX0_enter_X0_markRising : GoodIn wsX0_enter wsX0_markRising := goodIn_r _ [11, 4, 12, 13, 14, 15, 10, 16, 2, 17, 18, 19, 20, 46, 47, 48, 49, 50, 51, 52, 53, 54, 55, 56, 57, 58, 59, 60] (by decide +kernel) (by decide +kernel)
set_option maxRecDepth 20000 in
theorem gX0_enter_X0_markRising : GoodIn wsX0_enter (wsV RX0 108 RX0 yX0_markRising wsX0_markRising) := goodIn_app (goodIn_of _ (by decide +kernel)) ggX0_enter_X0_markRising
set_option maxRecDepth 20000 in
theorem ggX0_enter_X0_findValleys : GoodIn wsX0_enter wsX0_findValleys := goodIn_r _ [24, 25, 4, 26, 27, 17, 18, 19, 10, 20, 12, 28, 29, 30, 31, 32, 33, 34, 46, 47, 48, 49, 50, 51, 52, 53, 54, 55, 56, 57, 58, 59, 60] (by decide +kernel) (by decide +kernel)
set_option maxRecDepth 20000 in
theorem gX0_enter_X0_findValleys : GoodIn wsX0_enter (wsV RX0 111 RX0 yX0_findValleys wsX0_findValleys) := goodIn_app (goodIn_of _ (by decide +kernel)) ggX0_enter_X0_findValleys
set_option maxRecDepth 20000 in
theorem ggX0_enter_X0_findBuckets : GoodIn wsX0_enter wsX0_findBuckets := goodIn_r _ [38, 6, 39, 40, 4, 12, 13, 14, 15, 10, 16, 2, 41, 33, 42, 32, 34, 46, 47, 48, 49, 50, 51, 52, 53, 54, 55, 56, 57, 58, 59, 60] (by decide +kernel) (by decide +kernel)
set_option maxRecDepth 20000 in
theorem gX0_enter_X0_findBuckets : GoodIn wsX0_enter (wsV RX0 114 RX0 yX0_findBuckets wsX0_findBuckets) := goodIn_app (goodIn_of _ (by decide +kernel)) ggX0_enter_X0_findBuckets
theorem dX0_enter_0 : decode cX0_enter 0 = .ok (.aload_n 0, 1) := by decide +kernel
theorem dX0_enter_1 : decode cX0_enter 1 = .ok (.aload_n 1, 1) := by decide +kernel
theorem dX0_enter_2 : decode cX0_enter 2 = .ok (.getfield 34, 3) := by decide +kernel
theorem dX0_enter_5 : decode cX0_enter 5 = .ok (.putfield 41, 3) := by decide +kernel
theorem dX0_enter_8 : decode cX0_enter 8 = .ok (.aload_n 0, 1) := by decide +kernel
theorem dX0_enter_9 : decode cX0_enter 9 = .ok (.aload_n 1, 1) := by decide +kernel
theorem dX0_enter_10 : decode cX0_enter 10 = .ok (.getfield 100, 3) := by decide +kernel
theorem dX0_enter_13 : decode cX0_enter 13 = .ok (.putfield 103, 3) := by decide +kernel
theorem dX0_enter_16 : decode cX0_enter 16 = .ok (.aload_n 0, 1) := by decide +kernel
theorem dX0_enter_17 : decode cX0_enter 17 = .ok (.aload_n 1, 1) := by decide +kernel
theorem dX0_enter_18 : decode cX0_enter 18 = .ok (.getfield 104, 3) := by decide +kernel
theorem dX0_enter_21 : decode cX0_enter 21 = .ok (.putfield 107, 3) := by decide +kernel
theorem dX0_enter_24 : decode cX0_enter 24 = .ok (.aload_n 0, 1) := by decide +kernel
theorem dX0_enter_25 : decode cX0_enter 25 = .ok (.invokevirtual 108, 3) := by decide +kernel
theorem dX0_enter_28 : decode cX0_enter 28 = .ok (.aload_n 0, 1) := by decide +kernel
theorem dX0_enter_29 : decode cX0_enter 29 = .ok (.invokevirtual 111, 3) := by decide +kernel
theorem dX0_enter_32 : decode cX0_enter 32 = .ok (.aload_n 0, 1) := by decide +kernel
theorem dX0_enter_33 : decode cX0_enter 33 = .ok (.invokevirtual 114, 3) := by decide +kernel
theorem dX0_enter_36 : decode cX0_enter 36 = .ok (.return_, 1) := by decide +kernel
set_option maxRecDepth 20000 in
theorem ggX0_markRising_X0_letterAt : GoodIn wsX0_markRising wsX0_letterAt := goodIn_r _ [7, 1, 8, 13, 14, 15, 16, 17, 18, 19, 20, 21, 22, 23, 24, 25, 26, 27] (by decide +kernel) (by decide +kernel)
set_option maxRecDepth 20000 in
theorem gX0_markRising_X0_letterAt : GoodIn wsX0_markRising (wsV RX0 117 RX0 yX0_letterAt wsX0_letterAt) := goodIn_app (goodIn_of _ (by decide +kernel)) ggX0_markRising_X0_letterAt
set_option maxRecDepth 20000 in
theorem ggX0_markRising_X0_isRising : GoodIn wsX0_markRising wsX0_isRising := goodIn_r _ [12, 1, 2, 13, 14, 15, 16, 17, 18, 19, 20, 21, 22, 23, 24, 25, 26, 27] (by decide +kernel) (by decide +kernel)
set_option maxRecDepth 20000 in
theorem gX0_markRising_X0_isRising : GoodIn wsX0_markRising (wsV RX0 120 RX0 yX0_isRising wsX0_isRising) := goodIn_app (goodIn_of _ (by decide +kernel)) ggX0_markRising_X0_isRising
theorem dX0_markRising_0 : decode cX0_markRising 0 = .ok (.aload_n 0, 1) := by decide +kernel
theorem dX0_markRising_1 : decode cX0_markRising 1 = .ok (.getfield 103, 3) := by decide +kernel
theorem dX0_markRising_4 : decode cX0_markRising 4 = .ok (.iconst 1, 1) := by decide +kernel
theorem dX0_markRising_5 : decode cX0_markRising 5 = .ok (.isub, 1) := by decide +kernel
theorem dX0_markRising_6 : decode cX0_markRising 6 = .ok (.istore_n 1, 1) := by decide +kernel
theorem dX0_markRising_7 : decode cX0_markRising 7 = .ok (.iload_n 1, 1) := by decide +kernel
theorem dX0_markRising_8 : decode cX0_markRising 8 = .ok (.ifCond .lt 54, 3) := by decide +kernel
theorem dX0_markRising_11 : decode cX0_markRising 11 = .ok (.aload_n 0, 1) := by decide +kernel
theorem dX0_markRising_12 : decode cX0_markRising 12 = .ok (.iload_n 1, 1) := by decide +kernel
theorem dX0_markRising_13 : decode cX0_markRising 13 = .ok (.invokevirtual 117, 3) := by decide +kernel
theorem dX0_markRising_16 : decode cX0_markRising 16 = .ok (.istore_n 2, 1) := by decide +kernel
theorem dX0_markRising_17 : decode cX0_markRising 17 = .ok (.aload_n 0, 1) := by decide +kernel
theorem dX0_markRising_18 : decode cX0_markRising 18 = .ok (.iload_n 1, 1) := by decide +kernel
theorem dX0_markRising_19 : decode cX0_markRising 19 = .ok (.iconst 1, 1) := by decide +kernel
theorem dX0_markRising_20 : decode cX0_markRising 20 = .ok (.iadd, 1) := by decide +kernel
theorem dX0_markRising_21 : decode cX0_markRising 21 = .ok (.invokevirtual 117, 3) := by decide +kernel
theorem dX0_markRising_24 : decode cX0_markRising 24 = .ok (.istore_n 3, 1) := by decide +kernel
theorem dX0_markRising_25 : decode cX0_markRising 25 = .ok (.aload_n 0, 1) := by decide +kernel
theorem dX0_markRising_26 : decode cX0_markRising 26 = .ok (.getfield 45, 3) := by decide +kernel
theorem dX0_markRising_29 : decode cX0_markRising 29 = .ok (.iload_n 1, 1) := by decide +kernel
theorem dX0_markRising_30 : decode cX0_markRising 30 = .ok (.iload_n 2, 1) := by decide +kernel
theorem dX0_markRising_31 : decode cX0_markRising 31 = .ok (.iload_n 3, 1) := by decide +kernel
theorem dX0_markRising_32 : decode cX0_markRising 32 = .ok (.if_icmp .ne 13, 3) := by decide +kernel
theorem dX0_markRising_35 : decode cX0_markRising 35 = .ok (.aload_n 0, 1) := by decide +kernel
theorem dX0_markRising_36 : decode cX0_markRising 36 = .ok (.iload_n 1, 1) := by decide +kernel
theorem dX0_markRising_37 : decode cX0_markRising 37 = .ok (.iconst 1, 1) := by decide +kernel
theorem dX0_markRising_38 : decode cX0_markRising 38 = .ok (.iadd, 1) := by decide +kernel
theorem dX0_markRising_39 : decode cX0_markRising 39 = .ok (.invokevirtual 120, 3) := by decide +kernel
theorem dX0_markRising_42 : decode cX0_markRising 42 = .ok (.goto 13, 3) := by decide +kernel
theorem dX0_markRising_45 : decode cX0_markRising 45 = .ok (.iload_n 2, 1) := by decide +kernel
theorem dX0_markRising_46 : decode cX0_markRising 46 = .ok (.iload_n 3, 1) := by decide +kernel
theorem dX0_markRising_47 : decode cX0_markRising 47 = .ok (.if_icmp .ge 7, 3) := by decide +kernel
theorem dX0_markRising_50 : decode cX0_markRising 50 = .ok (.iconst 1, 1) := by decide +kernel
theorem dX0_markRising_51 : decode cX0_markRising 51 = .ok (.goto 4, 3) := by decide +kernel
theorem dX0_markRising_54 : decode cX0_markRising 54 = .ok (.iconst 0, 1) := by decide +kernel
theorem dX0_markRising_55 : decode cX0_markRising 55 = .ok (.bastore, 1) := by decide +kernel
theorem dX0_markRising_56 : decode cX0_markRising 56 = .ok (.iinc 1 (-1), 3) := by decide +kernel
theorem dX0_markRising_59 : decode cX0_markRising 59 = .ok (.goto (-52), 3) := by decide +kernel
theorem dX0_markRising_62 : decode cX0_markRising 62 = .ok (.return_, 1) := by decide +kernel
set_option maxRecDepth 20000 in
theorem ggX0_findValleys_X0_isRising : GoodIn wsX0_findValleys wsX0_isRising := goodIn_r _ [9, 2, 10, 18, 19, 20, 21, 22, 23, 24, 25, 26, 27, 28, 29, 30, 31, 32] (by decide +kernel) (by decide +kernel)
set_option maxRecDepth 20000 in
theorem gX0_findValleys_X0_isRising : GoodIn wsX0_findValleys (wsV RX0 120 RX0 yX0_isRising wsX0_isRising) := goodIn_app (goodIn_of _ (by decide +kernel)) ggX0_findValleys_X0_isRising
set_option maxRecDepth 20000 in
theorem ggX0_findValleys_X0_isFalling : GoodIn wsX0_findValleys wsX0_isFalling := goodIn_r _ [14, 2, 10, 18, 19, 20, 21, 22, 23, 24, 25, 26, 27, 28, 29, 30, 31, 32] (by decide +kernel) (by decide +kernel)
set_option maxRecDepth 20000 in
theorem gX0_findValleys_X0_isFalling : GoodIn wsX0_findValleys (wsV RX0 124 RX0 yX0_isFalling wsX0_isFalling) := goodIn_app (goodIn_of _ (by decide +kernel)) ggX0_findValleys_X0_isFalling
set_option maxRecDepth 20000 in
theorem ggX0_findValleys_X2_put : GoodIn wsX0_findValleys wsX2_put := goodIn_r _ [17] (by decide +kernel) (by decide +kernel)
set_option maxRecDepth 20000 in
theorem gX0_findValleys_X2_put_n127 : GoodIn wsX0_findValleys (wsX2_put) := ggX0_findValleys_X2_put
theorem dX0_findValleys_0 : decode cX0_findValleys 0 = .ok (.aload_n 0, 1) := by decide +kernel
theorem dX0_findValleys_1 : decode cX0_findValleys 1 = .ok (.iconst 0, 1) := by decide +kernel
theorem dX0_findValleys_2 : decode cX0_findValleys 2 = .ok (.putfield 97, 3) := by decide +kernel
theorem dX0_findValleys_5 : decode cX0_findValleys 5 = .ok (.iconst 0, 1) := by decide +kernel
theorem dX0_findValleys_6 : decode cX0_findValleys 6 = .ok (.istore_n 1, 1) := by decide +kernel
theorem dX0_findValleys_7 : decode cX0_findValleys 7 = .ok (.iload_n 1, 1) := by decide +kernel
theorem dX0_findValleys_8 : decode cX0_findValleys 8 = .ok (.aload_n 0, 1) := by decide +kernel
theorem dX0_findValleys_9 : decode cX0_findValleys 9 = .ok (.getfield 103, 3) := by decide +kernel
theorem dX0_findValleys_12 : decode cX0_findValleys 12 = .ok (.if_icmp .ge 77, 3) := by decide +kernel
theorem dX0_findValleys_15 : decode cX0_findValleys 15 = .ok (.aload_n 0, 1) := by decide +kernel
theorem dX0_findValleys_16 : decode cX0_findValleys 16 = .ok (.iload_n 1, 1) := by decide +kernel
theorem dX0_findValleys_17 : decode cX0_findValleys 17 = .ok (.invokevirtual 120, 3) := by decide +kernel
theorem dX0_findValleys_20 : decode cX0_findValleys 20 = .ok (.ifCond .eq 17, 3) := by decide +kernel
theorem dX0_findValleys_23 : decode cX0_findValleys 23 = .ok (.aload_n 0, 1) := by decide +kernel
theorem dX0_findValleys_24 : decode cX0_findValleys 24 = .ok (.iload_n 1, 1) := by decide +kernel
theorem dX0_findValleys_25 : decode cX0_findValleys 25 = .ok (.iconst 1, 1) := by decide +kernel
theorem dX0_findValleys_26 : decode cX0_findValleys 26 = .ok (.isub, 1) := by decide +kernel
theorem dX0_findValleys_27 : decode cX0_findValleys 27 = .ok (.invokevirtual 124, 3) := by decide +kernel
theorem dX0_findValleys_30 : decode cX0_findValleys 30 = .ok (.ifCond .eq 7, 3) := by decide +kernel
theorem dX0_findValleys_33 : decode cX0_findValleys 33 = .ok (.iconst 1, 1) := by decide +kernel
theorem dX0_findValleys_34 : decode cX0_findValleys 34 = .ok (.goto 4, 3) := by decide +kernel
theorem dX0_findValleys_37 : decode cX0_findValleys 37 = .ok (.iconst 0, 1) := by decide +kernel
theorem dX0_findValleys_38 : decode cX0_findValleys 38 = .ok (.istore_n 2, 1) := by decide +kernel
theorem dX0_findValleys_39 : decode cX0_findValleys 39 = .ok (.aload_n 0, 1) := by decide +kernel
theorem dX0_findValleys_40 : decode cX0_findValleys 40 = .ok (.getfield 49, 3) := by decide +kernel
theorem dX0_findValleys_43 : decode cX0_findValleys 43 = .ok (.iload_n 1, 1) := by decide +kernel
theorem dX0_findValleys_44 : decode cX0_findValleys 44 = .ok (.iload_n 2, 1) := by decide +kernel
theorem dX0_findValleys_45 : decode cX0_findValleys 45 = .ok (.ifCond .eq 10, 3) := by decide +kernel
theorem dX0_findValleys_48 : decode cX0_findValleys 48 = .ok (.aload_n 0, 1) := by decide +kernel
theorem dX0_findValleys_49 : decode cX0_findValleys 49 = .ok (.getfield 97, 3) := by decide +kernel
theorem dX0_findValleys_52 : decode cX0_findValleys 52 = .ok (.goto 4, 3) := by decide +kernel
theorem dX0_findValleys_55 : decode cX0_findValleys 55 = .ok (.iconst (-1), 1) := by decide +kernel
theorem dX0_findValleys_56 : decode cX0_findValleys 56 = .ok (.iastore, 1) := by decide +kernel
theorem dX0_findValleys_57 : decode cX0_findValleys 57 = .ok (.iload_n 2, 1) := by decide +kernel
theorem dX0_findValleys_58 : decode cX0_findValleys 58 = .ok (.ifCond .eq 25, 3) := by decide +kernel
theorem dX0_findValleys_61 : decode cX0_findValleys 61 = .ok (.aload_n 0, 1) := by decide +kernel
theorem dX0_findValleys_62 : decode cX0_findValleys 62 = .ok (.getfield 52, 3) := by decide +kernel
theorem dX0_findValleys_65 : decode cX0_findValleys 65 = .ok (.aload_n 0, 1) := by decide +kernel
theorem dX0_findValleys_66 : decode cX0_findValleys 66 = .ok (.getfield 97, 3) := by decide +kernel
theorem dX0_findValleys_69 : decode cX0_findValleys 69 = .ok (.iload_n 1, 1) := by decide +kernel
theorem dX0_findValleys_70 : decode cX0_findValleys 70 = .ok (.invokestatic 127, 3) := by decide +kernel
theorem dX0_findValleys_73 : decode cX0_findValleys 73 = .ok (.aload_n 0, 1) := by decide +kernel
theorem dX0_findValleys_74 : decode cX0_findValleys 74 = .ok (.dup, 1) := by decide +kernel
theorem dX0_findValleys_75 : decode cX0_findValleys 75 = .ok (.getfield 97, 3) := by decide +kernel
theorem dX0_findValleys_78 : decode cX0_findValleys 78 = .ok (.iconst 1, 1) := by decide +kernel
theorem dX0_findValleys_79 : decode cX0_findValleys 79 = .ok (.iadd, 1) := by decide +kernel
theorem dX0_findValleys_80 : decode cX0_findValleys 80 = .ok (.putfield 97, 3) := by decide +kernel
theorem dX0_findValleys_83 : decode cX0_findValleys 83 = .ok (.iinc 1 1, 3) := by decide +kernel
theorem dX0_findValleys_86 : decode cX0_findValleys 86 = .ok (.goto (-79), 3) := by decide +kernel
theorem dX0_findValleys_89 : decode cX0_findValleys 89 = .ok (.return_, 1) := by decide +kernel
set_option maxRecDepth 20000 in
theorem ggX0_findBuckets_X0_letterAt : GoodIn wsX0_findBuckets wsX0_letterAt := goodIn_r _ [10, 4, 11, 17, 18, 19, 20, 21, 22, 23, 24, 25, 26, 27, 28, 29, 30, 31] (by decide +kernel) (by decide +kernel)
set_option maxRecDepth 20000 in
theorem gX0_findBuckets_X0_letterAt : GoodIn wsX0_findBuckets (wsV RX0 117 RX0 yX0_letterAt wsX0_letterAt) := goodIn_app (goodIn_of _ (by decide +kernel)) ggX0_findBuckets_X0_letterAt
set_option maxRecDepth 20000 in
theorem ggX0_findBuckets_X2_at : GoodIn wsX0_findBuckets wsX2_at := goodIn_r _ [14] (by decide +kernel) (by decide +kernel)
set_option maxRecDepth 20000 in
theorem gX0_findBuckets_X2_at_n131 : GoodIn wsX0_findBuckets (wsX2_at) := ggX0_findBuckets_X2_at
set_option maxRecDepth 20000 in
theorem ggX0_findBuckets_X2_put : GoodIn wsX0_findBuckets wsX2_put := goodIn_r _ [16] (by decide +kernel) (by decide +kernel)
set_option maxRecDepth 20000 in
theorem gX0_findBuckets_X2_put_n127 : GoodIn wsX0_findBuckets (wsX2_put) := ggX0_findBuckets_X2_put
theorem dX0_findBuckets_0 : decode cX0_findBuckets 0 = .ok (.iconst 0, 1) := by decide +kernel
theorem dX0_findBuckets_1 : decode cX0_findBuckets 1 = .ok (.istore_n 1, 1) := by decide +kernel
theorem dX0_findBuckets_2 : decode cX0_findBuckets 2 = .ok (.iload_n 1, 1) := by decide +kernel
theorem dX0_findBuckets_3 : decode cX0_findBuckets 3 = .ok (.aload_n 0, 1) := by decide +kernel
theorem dX0_findBuckets_4 : decode cX0_findBuckets 4 = .ok (.getfield 107, 3) := by decide +kernel
theorem dX0_findBuckets_7 : decode cX0_findBuckets 7 = .ok (.if_icmp .ge 23, 3) := by decide +kernel
theorem dX0_findBuckets_10 : decode cX0_findBuckets 10 = .ok (.aload_n 0, 1) := by decide +kernel
theorem dX0_findBuckets_11 : decode cX0_findBuckets 11 = .ok (.getfield 58, 3) := by decide +kernel
theorem dX0_findBuckets_14 : decode cX0_findBuckets 14 = .ok (.iload_n 1, 1) := by decide +kernel
theorem dX0_findBuckets_15 : decode cX0_findBuckets 15 = .ok (.iconst 0, 1) := by decide +kernel
theorem dX0_findBuckets_16 : decode cX0_findBuckets 16 = .ok (.iastore, 1) := by decide +kernel
theorem dX0_findBuckets_17 : decode cX0_findBuckets 17 = .ok (.aload_n 0, 1) := by decide +kernel
theorem dX0_findBuckets_18 : decode cX0_findBuckets 18 = .ok (.getfield 61, 3) := by decide +kernel
theorem dX0_findBuckets_21 : decode cX0_findBuckets 21 = .ok (.iload_n 1, 1) := by decide +kernel
theorem dX0_findBuckets_22 : decode cX0_findBuckets 22 = .ok (.iconst 0, 1) := by decide +kernel
theorem dX0_findBuckets_23 : decode cX0_findBuckets 23 = .ok (.iastore, 1) := by decide +kernel
theorem dX0_findBuckets_24 : decode cX0_findBuckets 24 = .ok (.iinc 1 1, 3) := by decide +kernel
theorem dX0_findBuckets_27 : decode cX0_findBuckets 27 = .ok (.goto (-25), 3) := by decide +kernel
theorem dX0_findBuckets_30 : decode cX0_findBuckets 30 = .ok (.iconst 0, 1) := by decide +kernel
theorem dX0_findBuckets_31 : decode cX0_findBuckets 31 = .ok (.istore_n 1, 1) := by decide +kernel
theorem dX0_findBuckets_32 : decode cX0_findBuckets 32 = .ok (.iload_n 1, 1) := by decide +kernel
theorem dX0_findBuckets_33 : decode cX0_findBuckets 33 = .ok (.aload_n 0, 1) := by decide +kernel
theorem dX0_findBuckets_34 : decode cX0_findBuckets 34 = .ok (.getfield 103, 3) := by decide +kernel
theorem dX0_findBuckets_37 : decode cX0_findBuckets 37 = .ok (.if_icmp .ge 48, 3) := by decide +kernel
theorem dX0_findBuckets_40 : decode cX0_findBuckets 40 = .ok (.aload_n 0, 1) := by decide +kernel
theorem dX0_findBuckets_41 : decode cX0_findBuckets 41 = .ok (.getfield 45, 3) := by decide +kernel
theorem dX0_findBuckets_44 : decode cX0_findBuckets 44 = .ok (.iload_n 1, 1) := by decide +kernel
theorem dX0_findBuckets_45 : decode cX0_findBuckets 45 = .ok (.baload, 1) := by decide +kernel
theorem dX0_findBuckets_46 : decode cX0_findBuckets 46 = .ok (.ifCond .eq 10, 3) := by decide +kernel
theorem dX0_findBuckets_49 : decode cX0_findBuckets 49 = .ok (.aload_n 0, 1) := by decide +kernel
theorem dX0_findBuckets_50 : decode cX0_findBuckets 50 = .ok (.getfield 61, 3) := by decide +kernel
theorem dX0_findBuckets_53 : decode cX0_findBuckets 53 = .ok (.goto 7, 3) := by decide +kernel
theorem dX0_findBuckets_56 : decode cX0_findBuckets 56 = .ok (.aload_n 0, 1) := by decide +kernel
theorem dX0_findBuckets_57 : decode cX0_findBuckets 57 = .ok (.getfield 58, 3) := by decide +kernel
theorem dX0_findBuckets_60 : decode cX0_findBuckets 60 = .ok (.astore_n 2, 1) := by decide +kernel
theorem dX0_findBuckets_61 : decode cX0_findBuckets 61 = .ok (.aload_n 0, 1) := by decide +kernel
theorem dX0_findBuckets_62 : decode cX0_findBuckets 62 = .ok (.iload_n 1, 1) := by decide +kernel
theorem dX0_findBuckets_63 : decode cX0_findBuckets 63 = .ok (.invokevirtual 117, 3) := by decide +kernel
theorem dX0_findBuckets_66 : decode cX0_findBuckets 66 = .ok (.istore_n 3, 1) := by decide +kernel
theorem dX0_findBuckets_67 : decode cX0_findBuckets 67 = .ok (.aload_n 2, 1) := by decide +kernel
theorem dX0_findBuckets_68 : decode cX0_findBuckets 68 = .ok (.iload_n 3, 1) := by decide +kernel
theorem dX0_findBuckets_69 : decode cX0_findBuckets 69 = .ok (.aload_n 2, 1) := by decide +kernel
theorem dX0_findBuckets_70 : decode cX0_findBuckets 70 = .ok (.iload_n 3, 1) := by decide +kernel
theorem dX0_findBuckets_71 : decode cX0_findBuckets 71 = .ok (.invokestatic 131, 3) := by decide +kernel
theorem dX0_findBuckets_74 : decode cX0_findBuckets 74 = .ok (.iconst 1, 1) := by decide +kernel
theorem dX0_findBuckets_75 : decode cX0_findBuckets 75 = .ok (.iadd, 1) := by decide +kernel
theorem dX0_findBuckets_76 : decode cX0_findBuckets 76 = .ok (.invokestatic 127, 3) := by decide +kernel
theorem dX0_findBuckets_79 : decode cX0_findBuckets 79 = .ok (.iinc 1 1, 3) := by decide +kernel
theorem dX0_findBuckets_82 : decode cX0_findBuckets 82 = .ok (.goto (-50), 3) := by decide +kernel
theorem dX0_findBuckets_85 : decode cX0_findBuckets 85 = .ok (.iconst 0, 1) := by decide +kernel
theorem dX0_findBuckets_86 : decode cX0_findBuckets 86 = .ok (.istore_n 1, 1) := by decide +kernel
theorem dX0_findBuckets_87 : decode cX0_findBuckets 87 = .ok (.iconst 0, 1) := by decide +kernel
theorem dX0_findBuckets_88 : decode cX0_findBuckets 88 = .ok (.istore_n 2, 1) := by decide +kernel
theorem dX0_findBuckets_89 : decode cX0_findBuckets 89 = .ok (.iload_n 2, 1) := by decide +kernel
theorem dX0_findBuckets_90 : decode cX0_findBuckets 90 = .ok (.aload_n 0, 1) := by decide +kernel
theorem dX0_findBuckets_91 : decode cX0_findBuckets 91 = .ok (.getfield 107, 3) := by decide +kernel
theorem dX0_findBuckets_94 : decode cX0_findBuckets 94 = .ok (.if_icmp .ge 45, 3) := by decide +kernel
theorem dX0_findBuckets_97 : decode cX0_findBuckets 97 = .ok (.iload_n 1, 1) := by decide +kernel
theorem dX0_findBuckets_98 : decode cX0_findBuckets 98 = .ok (.aload_n 0, 1) := by decide +kernel
theorem dX0_findBuckets_99 : decode cX0_findBuckets 99 = .ok (.getfield 58, 3) := by decide +kernel
theorem dX0_findBuckets_102 : decode cX0_findBuckets 102 = .ok (.iload_n 2, 1) := by decide +kernel
theorem dX0_findBuckets_103 : decode cX0_findBuckets 103 = .ok (.iaload, 1) := by decide +kernel
theorem dX0_findBuckets_104 : decode cX0_findBuckets 104 = .ok (.iadd, 1) := by decide +kernel
theorem dX0_findBuckets_105 : decode cX0_findBuckets 105 = .ok (.istore_n 3, 1) := by decide +kernel
theorem dX0_findBuckets_106 : decode cX0_findBuckets 106 = .ok (.iload_n 3, 1) := by decide +kernel
theorem dX0_findBuckets_107 : decode cX0_findBuckets 107 = .ok (.aload_n 0, 1) := by decide +kernel
theorem dX0_findBuckets_108 : decode cX0_findBuckets 108 = .ok (.getfield 61, 3) := by decide +kernel
theorem dX0_findBuckets_111 : decode cX0_findBuckets 111 = .ok (.iload_n 2, 1) := by decide +kernel
theorem dX0_findBuckets_112 : decode cX0_findBuckets 112 = .ok (.iaload, 1) := by decide +kernel
theorem dX0_findBuckets_113 : decode cX0_findBuckets 113 = .ok (.iadd, 1) := by decide +kernel
theorem dX0_findBuckets_114 : decode cX0_findBuckets 114 = .ok (.istore 4, 2) := by decide +kernel
theorem dX0_findBuckets_116 : decode cX0_findBuckets 116 = .ok (.aload_n 0, 1) := by decide +kernel
theorem dX0_findBuckets_117 : decode cX0_findBuckets 117 = .ok (.getfield 58, 3) := by decide +kernel
theorem dX0_findBuckets_120 : decode cX0_findBuckets 120 = .ok (.iload_n 2, 1) := by decide +kernel
theorem dX0_findBuckets_121 : decode cX0_findBuckets 121 = .ok (.iload_n 1, 1) := by decide +kernel
theorem dX0_findBuckets_122 : decode cX0_findBuckets 122 = .ok (.iastore, 1) := by decide +kernel
theorem dX0_findBuckets_123 : decode cX0_findBuckets 123 = .ok (.aload_n 0, 1) := by decide +kernel
theorem dX0_findBuckets_124 : decode cX0_findBuckets 124 = .ok (.getfield 61, 3) := by decide +kernel
theorem dX0_findBuckets_127 : decode cX0_findBuckets 127 = .ok (.iload_n 2, 1) := by decide +kernel
theorem dX0_findBuckets_128 : decode cX0_findBuckets 128 = .ok (.iload_n 3, 1) := by decide +kernel
theorem dX0_findBuckets_129 : decode cX0_findBuckets 129 = .ok (.iastore, 1) := by decide +kernel
theorem dX0_findBuckets_130 : decode cX0_findBuckets 130 = .ok (.iload 4, 2) := by decide +kernel
theorem dX0_findBuckets_132 : decode cX0_findBuckets 132 = .ok (.istore_n 1, 1) := by decide +kernel
theorem dX0_findBuckets_133 : decode cX0_findBuckets 133 = .ok (.iinc 2 1, 3) := by decide +kernel
theorem dX0_findBuckets_136 : decode cX0_findBuckets 136 = .ok (.goto (-47), 3) := by decide +kernel
theorem dX0_findBuckets_139 : decode cX0_findBuckets 139 = .ok (.aload_n 0, 1) := by decide +kernel
theorem dX0_findBuckets_140 : decode cX0_findBuckets 140 = .ok (.getfield 58, 3) := by decide +kernel
theorem dX0_findBuckets_143 : decode cX0_findBuckets 143 = .ok (.aload_n 0, 1) := by decide +kernel
theorem dX0_findBuckets_144 : decode cX0_findBuckets 144 = .ok (.getfield 107, 3) := by decide +kernel
theorem dX0_findBuckets_147 : decode cX0_findBuckets 147 = .ok (.iload_n 1, 1) := by decide +kernel
theorem dX0_findBuckets_148 : decode cX0_findBuckets 148 = .ok (.iastore, 1) := by decide +kernel
theorem dX0_findBuckets_149 : decode cX0_findBuckets 149 = .ok (.return_, 1) := by decide +kernel
set_option maxRecDepth 20000 in
theorem ggX0_induceFrom_X0_startBuckets : GoodIn wsX0_induceFrom wsX0_startBuckets := goodIn_r _ [9, 10, 11, 12, 13, 14, 48, 49, 50, 51, 52, 53, 54, 55, 56, 57, 58, 59, 60, 61, 62] (by decide +kernel) (by decide +kernel)
set_option maxRecDepth 20000 in
theorem gX0_induceFrom_X0_startBuckets : GoodIn wsX0_induceFrom (wsV RX0 135 RX0 yX0_startBuckets wsX0_startBuckets) := goodIn_app (goodIn_of _ (by decide +kernel)) ggX0_induceFrom_X0_startBuckets
set_option maxRecDepth 20000 in
theorem ggX0_induceFrom_X2_at : GoodIn wsX0_induceFrom wsX2_at := goodIn_r _ [14] (by decide +kernel) (by decide +kernel)
set_option maxRecDepth 20000 in
theorem gX0_induceFrom_X2_at_n131 : GoodIn wsX0_induceFrom (wsX2_at) := ggX0_induceFrom_X2_at
set_option maxRecDepth 20000 in
theorem ggX0_induceFrom_X0_placeFront : GoodIn wsX0_induceFrom wsX0_placeFront := goodIn_r _ [18, 11, 2, 19, 20, 21, 8, 22, 1, 23, 12, 13, 14, 24, 25, 48, 49, 50, 51, 52, 53, 54, 55, 56, 57, 58, 59, 60, 61, 62] (by decide +kernel) (by decide +kernel)
set_option maxRecDepth 20000 in
theorem gX0_induceFrom_X0_placeFront : GoodIn wsX0_induceFrom (wsV RX0 139 RX0 yX0_placeFront wsX0_placeFront) := goodIn_app (goodIn_of _ (by decide +kernel)) ggX0_induceFrom_X0_placeFront
set_option maxRecDepth 20000 in
theorem ggX0_induceFrom_X0_induceFalling : GoodIn wsX0_induceFrom wsX0_induceFalling := goodIn_r _ [29, 30, 1, 2, 5, 6, 7, 8, 9, 10, 11, 12, 13, 14, 15, 16, 17, 18, 19, 20, 21, 22, 23, 24, 25, 31, 32, 33, 34, 35, 48, 49, 50, 51, 52, 53, 54, 55, 56, 57, 58, 59, 60, 61, 62] (by decide +kernel) (by decide +kernel)
set_option maxRecDepth 20000 in
theorem gX0_induceFrom_X0_induceFalling : GoodIn wsX0_induceFrom (wsV RX0 142 RX0 yX0_induceFalling wsX0_induceFalling) := goodIn_app (goodIn_of _ (by decide +kernel)) ggX0_induceFrom_X0_induceFalling
set_option maxRecDepth 20000 in
theorem ggX0_induceFrom_X0_induceRising : GoodIn wsX0_induceFrom wsX0_induceRising := goodIn_r _ [39, 30, 1, 2, 5, 6, 7, 8, 9, 10, 11, 12, 13, 14, 40, 41, 42, 43, 35, 44, 45, 46, 47, 19, 20, 21, 22, 23, 24, 25, 48, 49, 50, 51, 52, 53, 54, 55, 56, 57, 58, 59, 60, 61, 62] (by decide +kernel) (by decide +kernel)
set_option maxRecDepth 20000 in
theorem gX0_induceFrom_X0_induceRising : GoodIn wsX0_induceFrom (wsV RX0 145 RX0 yX0_induceRising wsX0_induceRising) := goodIn_app (goodIn_of _ (by decide +kernel)) ggX0_induceFrom_X0_induceRising
theorem dX0_induceFrom_0 : decode cX0_induceFrom 0 = .ok (.iconst 0, 1) := by decide +kernel
theorem dX0_induceFrom_1 : decode cX0_induceFrom 1 = .ok (.istore_n 2, 1) := by decide +kernel
theorem dX0_induceFrom_2 : decode cX0_induceFrom 2 = .ok (.iload_n 2, 1) := by decide +kernel
theorem dX0_induceFrom_3 : decode cX0_induceFrom 3 = .ok (.aload_n 0, 1) := by decide +kernel
theorem dX0_induceFrom_4 : decode cX0_induceFrom 4 = .ok (.getfield 103, 3) := by decide +kernel
theorem dX0_induceFrom_7 : decode cX0_induceFrom 7 = .ok (.if_icmp .ge 16, 3) := by decide +kernel
theorem dX0_induceFrom_10 : decode cX0_induceFrom 10 = .ok (.aload_n 0, 1) := by decide +kernel
theorem dX0_induceFrom_11 : decode cX0_induceFrom 11 = .ok (.getfield 42, 3) := by decide +kernel
theorem dX0_induceFrom_14 : decode cX0_induceFrom 14 = .ok (.iload_n 2, 1) := by decide +kernel
theorem dX0_induceFrom_15 : decode cX0_induceFrom 15 = .ok (.iconst (-1), 1) := by decide +kernel
theorem dX0_induceFrom_16 : decode cX0_induceFrom 16 = .ok (.iastore, 1) := by decide +kernel
theorem dX0_induceFrom_17 : decode cX0_induceFrom 17 = .ok (.iinc 2 1, 3) := by decide +kernel
theorem dX0_induceFrom_20 : decode cX0_induceFrom 20 = .ok (.goto (-18), 3) := by decide +kernel
theorem dX0_induceFrom_23 : decode cX0_induceFrom 23 = .ok (.aload_n 0, 1) := by decide +kernel
theorem dX0_induceFrom_24 : decode cX0_induceFrom 24 = .ok (.aload_n 0, 1) := by decide +kernel
theorem dX0_induceFrom_25 : decode cX0_induceFrom 25 = .ok (.getfield 61, 3) := by decide +kernel
theorem dX0_induceFrom_28 : decode cX0_induceFrom 28 = .ok (.iconst 0, 1) := by decide +kernel
theorem dX0_induceFrom_29 : decode cX0_induceFrom 29 = .ok (.invokevirtual 135, 3) := by decide +kernel
theorem dX0_induceFrom_32 : decode cX0_induceFrom 32 = .ok (.iconst 0, 1) := by decide +kernel
theorem dX0_induceFrom_33 : decode cX0_induceFrom 33 = .ok (.istore_n 2, 1) := by decide +kernel
theorem dX0_induceFrom_34 : decode cX0_induceFrom 34 = .ok (.iload_n 2, 1) := by decide +kernel
theorem dX0_induceFrom_35 : decode cX0_induceFrom 35 = .ok (.aload_n 0, 1) := by decide +kernel
theorem dX0_induceFrom_36 : decode cX0_induceFrom 36 = .ok (.getfield 97, 3) := by decide +kernel
theorem dX0_induceFrom_39 : decode cX0_induceFrom 39 = .ok (.if_icmp .ge 18, 3) := by decide +kernel
theorem dX0_induceFrom_42 : decode cX0_induceFrom 42 = .ok (.aload_n 0, 1) := by decide +kernel
theorem dX0_induceFrom_43 : decode cX0_induceFrom 43 = .ok (.aload_n 1, 1) := by decide +kernel
theorem dX0_induceFrom_44 : decode cX0_induceFrom 44 = .ok (.iload_n 2, 1) := by decide +kernel
theorem dX0_induceFrom_45 : decode cX0_induceFrom 45 = .ok (.invokestatic 131, 3) := by decide +kernel
theorem dX0_induceFrom_48 : decode cX0_induceFrom 48 = .ok (.invokevirtual 139, 3) := by decide +kernel
theorem dX0_induceFrom_51 : decode cX0_induceFrom 51 = .ok (.iinc 2 1, 3) := by decide +kernel
theorem dX0_induceFrom_54 : decode cX0_induceFrom 54 = .ok (.goto (-20), 3) := by decide +kernel
theorem dX0_induceFrom_57 : decode cX0_induceFrom 57 = .ok (.aload_n 0, 1) := by decide +kernel
theorem dX0_induceFrom_58 : decode cX0_induceFrom 58 = .ok (.invokevirtual 142, 3) := by decide +kernel
theorem dX0_induceFrom_61 : decode cX0_induceFrom 61 = .ok (.aload_n 0, 1) := by decide +kernel
theorem dX0_induceFrom_62 : decode cX0_induceFrom 62 = .ok (.invokevirtual 145, 3) := by decide +kernel
theorem dX0_induceFrom_65 : decode cX0_induceFrom 65 = .ok (.return_, 1) := by decide +kernel
set_option maxRecDepth 20000 in
theorem ggX0_induceFalling_X0_startBuckets : GoodIn wsX0_induceFalling wsX0_startBuckets := goodIn_r _ [8, 9, 10, 11, 12, 13, 30, 31, 32, 33, 34, 35, 36, 37, 38, 39, 40, 41, 42, 43, 44] (by decide +kernel) (by decide +kernel)
set_option maxRecDepth 20000 in
theorem gX0_induceFalling_X0_startBuckets : GoodIn wsX0_induceFalling (wsV RX0 135 RX0 yX0_startBuckets wsX0_startBuckets) := goodIn_app (goodIn_of _ (by decide +kernel)) ggX0_induceFalling_X0_startBuckets
set_option maxRecDepth 20000 in
theorem ggX0_induceFalling_X0_placeFront : GoodIn wsX0_induceFalling wsX0_placeFront := goodIn_r _ [17, 10, 3, 18, 19, 20, 7, 21, 2, 22, 11, 12, 13, 23, 24, 30, 31, 32, 33, 34, 35, 36, 37, 38, 39, 40, 41, 42, 43, 44] (by decide +kernel) (by decide +kernel)
end
section
set_option maxRecDepth 20000 in
theorem gX0_induceFalling_X0_placeFront : GoodIn wsX0_induceFalling (wsV RX0 139 RX0 yX0_placeFront wsX0_placeFront) := goodIn_app (goodIn_of _ (by decide +kernel)) ggX0_induceFalling_X0_placeFront
set_option maxRecDepth 20000 in
theorem ggX0_induceFalling_X0_isFalling : GoodIn wsX0_induceFalling wsX0_isFalling := goodIn_r _ [28, 2, 29, 30, 31, 32, 33, 34, 35, 36, 37, 38, 39, 40, 41, 42, 43, 44] (by decide +kernel) (by decide +kernel)
set_option maxRecDepth 20000 in
theorem gX0_induceFalling_X0_isFalling : GoodIn wsX0_induceFalling (wsV RX0 124 RX0 yX0_isFalling wsX0_isFalling) := goodIn_app (goodIn_of _ (by decide +kernel)) ggX0_induceFalling_X0_isFalling
theorem dX0_induceFalling_0 : decode cX0_induceFalling 0 = .ok (.aload_n 0, 1) := by decide +kernel
theorem dX0_induceFalling_1 : decode cX0_induceFalling 1 = .ok (.aload_n 0, 1) := by decide +kernel
theorem dX0_induceFalling_2 : decode cX0_induceFalling 2 = .ok (.getfield 58, 3) := by decide +kernel
theorem dX0_induceFalling_5 : decode cX0_induceFalling 5 = .ok (.iconst 0, 1) := by decide +kernel
theorem dX0_induceFalling_6 : decode cX0_induceFalling 6 = .ok (.invokevirtual 135, 3) := by decide +kernel
theorem dX0_induceFalling_9 : decode cX0_induceFalling 9 = .ok (.aload_n 0, 1) := by decide +kernel
theorem dX0_induceFalling_10 : decode cX0_induceFalling 10 = .ok (.aload_n 0, 1) := by decide +kernel
theorem dX0_induceFalling_11 : decode cX0_induceFalling 11 = .ok (.getfield 103, 3) := by decide +kernel
theorem dX0_induceFalling_14 : decode cX0_induceFalling 14 = .ok (.iconst 1, 1) := by decide +kernel
theorem dX0_induceFalling_15 : decode cX0_induceFalling 15 = .ok (.isub, 1) := by decide +kernel
theorem dX0_induceFalling_16 : decode cX0_induceFalling 16 = .ok (.invokevirtual 139, 3) := by decide +kernel
theorem dX0_induceFalling_19 : decode cX0_induceFalling 19 = .ok (.iconst 0, 1) := by decide +kernel
theorem dX0_induceFalling_20 : decode cX0_induceFalling 20 = .ok (.istore_n 1, 1) := by decide +kernel
theorem dX0_induceFalling_21 : decode cX0_induceFalling 21 = .ok (.iload_n 1, 1) := by decide +kernel
theorem dX0_induceFalling_22 : decode cX0_induceFalling 22 = .ok (.aload_n 0, 1) := by decide +kernel
theorem dX0_induceFalling_23 : decode cX0_induceFalling 23 = .ok (.getfield 103, 3) := by decide +kernel
theorem dX0_induceFalling_26 : decode cX0_induceFalling 26 = .ok (.if_icmp .ge 31, 3) := by decide +kernel
theorem dX0_induceFalling_29 : decode cX0_induceFalling 29 = .ok (.aload_n 0, 1) := by decide +kernel
theorem dX0_induceFalling_30 : decode cX0_induceFalling 30 = .ok (.getfield 42, 3) := by decide +kernel
theorem dX0_induceFalling_33 : decode cX0_induceFalling 33 = .ok (.iload_n 1, 1) := by decide +kernel
theorem dX0_induceFalling_34 : decode cX0_induceFalling 34 = .ok (.iaload, 1) := by decide +kernel
theorem dX0_induceFalling_35 : decode cX0_induceFalling 35 = .ok (.iconst 1, 1) := by decide +kernel
theorem dX0_induceFalling_36 : decode cX0_induceFalling 36 = .ok (.isub, 1) := by decide +kernel
theorem dX0_induceFalling_37 : decode cX0_induceFalling 37 = .ok (.istore_n 2, 1) := by decide +kernel
theorem dX0_induceFalling_38 : decode cX0_induceFalling 38 = .ok (.aload_n 0, 1) := by decide +kernel
theorem dX0_induceFalling_39 : decode cX0_induceFalling 39 = .ok (.iload_n 2, 1) := by decide +kernel
theorem dX0_induceFalling_40 : decode cX0_induceFalling 40 = .ok (.invokevirtual 124, 3) := by decide +kernel
theorem dX0_induceFalling_43 : decode cX0_induceFalling 43 = .ok (.ifCond .eq 8, 3) := by decide +kernel
theorem dX0_induceFalling_46 : decode cX0_induceFalling 46 = .ok (.aload_n 0, 1) := by decide +kernel
theorem dX0_induceFalling_47 : decode cX0_induceFalling 47 = .ok (.iload_n 2, 1) := by decide +kernel
theorem dX0_induceFalling_48 : decode cX0_induceFalling 48 = .ok (.invokevirtual 139, 3) := by decide +kernel
theorem dX0_induceFalling_51 : decode cX0_induceFalling 51 = .ok (.iinc 1 1, 3) := by decide +kernel
theorem dX0_induceFalling_54 : decode cX0_induceFalling 54 = .ok (.goto (-33), 3) := by decide +kernel
theorem dX0_induceFalling_57 : decode cX0_induceFalling 57 = .ok (.return_, 1) := by decide +kernel
set_option maxRecDepth 20000 in
theorem ggX0_induceRising_X0_startBuckets : GoodIn wsX0_induceRising wsX0_startBuckets := goodIn_r _ [8, 9, 10, 11, 12, 13, 30, 31, 32, 33, 34, 35, 36, 37, 38, 39, 40, 41, 42, 43, 44] (by decide +kernel) (by decide +kernel)
set_option maxRecDepth 20000 in
theorem gX0_induceRising_X0_startBuckets : GoodIn wsX0_induceRising (wsV RX0 135 RX0 yX0_startBuckets wsX0_startBuckets) := goodIn_app (goodIn_of _ (by decide +kernel)) ggX0_induceRising_X0_startBuckets
set_option maxRecDepth 20000 in
theorem ggX0_induceRising_X0_isRising : GoodIn wsX0_induceRising wsX0_isRising := goodIn_r _ [17, 2, 18, 30, 31, 32, 33, 34, 35, 36, 37, 38, 39, 40, 41, 42, 43, 44] (by decide +kernel) (by decide +kernel)
set_option maxRecDepth 20000 in
theorem gX0_induceRising_X0_isRising : GoodIn wsX0_induceRising (wsV RX0 120 RX0 yX0_isRising wsX0_isRising) := goodIn_app (goodIn_of _ (by decide +kernel)) ggX0_induceRising_X0_isRising
set_option maxRecDepth 20000 in
theorem ggX0_induceRising_X0_placeBack : GoodIn wsX0_induceRising wsX0_placeBack := goodIn_r _ [22, 10, 3, 23, 24, 25, 7, 26, 2, 27, 11, 12, 13, 28, 29, 30, 31, 32, 33, 34, 35, 36, 37, 38, 39, 40, 41, 42, 43, 44] (by decide +kernel) (by decide +kernel)
set_option maxRecDepth 20000 in
theorem gX0_induceRising_X0_placeBack : GoodIn wsX0_induceRising (wsV RX0 148 RX0 yX0_placeBack wsX0_placeBack) := goodIn_app (goodIn_of _ (by decide +kernel)) ggX0_induceRising_X0_placeBack
theorem dX0_induceRising_0 : decode cX0_induceRising 0 = .ok (.aload_n 0, 1) := by decide +kernel
theorem dX0_induceRising_1 : decode cX0_induceRising 1 = .ok (.aload_n 0, 1) := by decide +kernel
theorem dX0_induceRising_2 : decode cX0_induceRising 2 = .ok (.getfield 58, 3) := by decide +kernel
theorem dX0_induceRising_5 : decode cX0_induceRising 5 = .ok (.iconst 1, 1) := by decide +kernel
theorem dX0_induceRising_6 : decode cX0_induceRising 6 = .ok (.invokevirtual 135, 3) := by decide +kernel
theorem dX0_induceRising_9 : decode cX0_induceRising 9 = .ok (.aload_n 0, 1) := by decide +kernel
theorem dX0_induceRising_10 : decode cX0_induceRising 10 = .ok (.getfield 103, 3) := by decide +kernel
theorem dX0_induceRising_13 : decode cX0_induceRising 13 = .ok (.iconst 1, 1) := by decide +kernel
theorem dX0_induceRising_14 : decode cX0_induceRising 14 = .ok (.isub, 1) := by decide +kernel
theorem dX0_induceRising_15 : decode cX0_induceRising 15 = .ok (.istore_n 1, 1) := by decide +kernel
theorem dX0_induceRising_16 : decode cX0_induceRising 16 = .ok (.iload_n 1, 1) := by decide +kernel
theorem dX0_induceRising_17 : decode cX0_induceRising 17 = .ok (.ifCond .lt 31, 3) := by decide +kernel
theorem dX0_induceRising_20 : decode cX0_induceRising 20 = .ok (.aload_n 0, 1) := by decide +kernel
theorem dX0_induceRising_21 : decode cX0_induceRising 21 = .ok (.getfield 42, 3) := by decide +kernel
theorem dX0_induceRising_24 : decode cX0_induceRising 24 = .ok (.iload_n 1, 1) := by decide +kernel
theorem dX0_induceRising_25 : decode cX0_induceRising 25 = .ok (.iaload, 1) := by decide +kernel
theorem dX0_induceRising_26 : decode cX0_induceRising 26 = .ok (.iconst 1, 1) := by decide +kernel
theorem dX0_induceRising_27 : decode cX0_induceRising 27 = .ok (.isub, 1) := by decide +kernel
theorem dX0_induceRising_28 : decode cX0_induceRising 28 = .ok (.istore_n 2, 1) := by decide +kernel
theorem dX0_induceRising_29 : decode cX0_induceRising 29 = .ok (.aload_n 0, 1) := by decide +kernel
theorem dX0_induceRising_30 : decode cX0_induceRising 30 = .ok (.iload_n 2, 1) := by decide +kernel
theorem dX0_induceRising_31 : decode cX0_induceRising 31 = .ok (.invokevirtual 120, 3) := by decide +kernel
theorem dX0_induceRising_34 : decode cX0_induceRising 34 = .ok (.ifCond .eq 8, 3) := by decide +kernel
theorem dX0_induceRising_37 : decode cX0_induceRising 37 = .ok (.aload_n 0, 1) := by decide +kernel
theorem dX0_induceRising_38 : decode cX0_induceRising 38 = .ok (.iload_n 2, 1) := by decide +kernel
theorem dX0_induceRising_39 : decode cX0_induceRising 39 = .ok (.invokevirtual 148, 3) := by decide +kernel
theorem dX0_induceRising_42 : decode cX0_induceRising 42 = .ok (.iinc 1 (-1), 3) := by decide +kernel
theorem dX0_induceRising_45 : decode cX0_induceRising 45 = .ok (.goto (-29), 3) := by decide +kernel
theorem dX0_induceRising_48 : decode cX0_induceRising 48 = .ok (.return_, 1) := by decide +kernel
set_option maxRecDepth 20000 in
theorem ggX0_startBuckets_X2_at : GoodIn wsX0_startBuckets wsX2_at := goodIn_r _ [5] (by decide +kernel) (by decide +kernel)
set_option maxRecDepth 20000 in
theorem gX0_startBuckets_X2_at_n131 : GoodIn wsX0_startBuckets (wsX2_at) := ggX0_startBuckets_X2_at
theorem dX0_startBuckets_0 : decode cX0_startBuckets 0 = .ok (.iconst 0, 1) := by decide +kernel
theorem dX0_startBuckets_1 : decode cX0_startBuckets 1 = .ok (.istore_n 3, 1) := by decide +kernel
theorem dX0_startBuckets_2 : decode cX0_startBuckets 2 = .ok (.iload_n 3, 1) := by decide +kernel
theorem dX0_startBuckets_3 : decode cX0_startBuckets 3 = .ok (.aload_n 0, 1) := by decide +kernel
theorem dX0_startBuckets_4 : decode cX0_startBuckets 4 = .ok (.getfield 107, 3) := by decide +kernel
theorem dX0_startBuckets_7 : decode cX0_startBuckets 7 = .ok (.if_icmp .ge 22, 3) := by decide +kernel
theorem dX0_startBuckets_10 : decode cX0_startBuckets 10 = .ok (.aload_n 0, 1) := by decide +kernel
theorem dX0_startBuckets_11 : decode cX0_startBuckets 11 = .ok (.getfield 64, 3) := by decide +kernel
theorem dX0_startBuckets_14 : decode cX0_startBuckets 14 = .ok (.iload_n 3, 1) := by decide +kernel
theorem dX0_startBuckets_15 : decode cX0_startBuckets 15 = .ok (.aload_n 1, 1) := by decide +kernel
theorem dX0_startBuckets_16 : decode cX0_startBuckets 16 = .ok (.iload_n 3, 1) := by decide +kernel
theorem dX0_startBuckets_17 : decode cX0_startBuckets 17 = .ok (.iload_n 2, 1) := by decide +kernel
theorem dX0_startBuckets_18 : decode cX0_startBuckets 18 = .ok (.iadd, 1) := by decide +kernel
theorem dX0_startBuckets_19 : decode cX0_startBuckets 19 = .ok (.invokestatic 131, 3) := by decide +kernel
theorem dX0_startBuckets_22 : decode cX0_startBuckets 22 = .ok (.iastore, 1) := by decide +kernel
theorem dX0_startBuckets_23 : decode cX0_startBuckets 23 = .ok (.iinc 3 1, 3) := by decide +kernel
theorem dX0_startBuckets_26 : decode cX0_startBuckets 26 = .ok (.goto (-24), 3) := by decide +kernel
theorem dX0_startBuckets_29 : decode cX0_startBuckets 29 = .ok (.return_, 1) := by decide +kernel
set_option maxRecDepth 20000 in
theorem ggX0_placeFront_X0_letterAt : GoodIn wsX0_placeFront wsX0_letterAt := goodIn_r _ [7, 8, 9, 15, 16, 17, 18, 19, 20, 21, 22, 23, 24, 25, 26, 27, 28, 29] (by decide +kernel) (by decide +kernel)
set_option maxRecDepth 20000 in
theorem gX0_placeFront_X0_letterAt : GoodIn wsX0_placeFront (wsV RX0 117 RX0 yX0_letterAt wsX0_letterAt) := goodIn_app (goodIn_of _ (by decide +kernel)) ggX0_placeFront_X0_letterAt
set_option maxRecDepth 20000 in
theorem ggX0_placeFront_X2_at : GoodIn wsX0_placeFront wsX2_at := goodIn_r _ [12] (by decide +kernel) (by decide +kernel)
set_option maxRecDepth 20000 in
theorem gX0_placeFront_X2_at_n131 : GoodIn wsX0_placeFront (wsX2_at) := ggX0_placeFront_X2_at
set_option maxRecDepth 20000 in
theorem ggX0_placeFront_X2_put : GoodIn wsX0_placeFront wsX2_put := goodIn_r _ [14] (by decide +kernel) (by decide +kernel)
set_option maxRecDepth 20000 in
theorem gX0_placeFront_X2_put_n127 : GoodIn wsX0_placeFront (wsX2_put) := ggX0_placeFront_X2_put
theorem dX0_placeFront_0 : decode cX0_placeFront 0 = .ok (.aload_n 0, 1) := by decide +kernel
theorem dX0_placeFront_1 : decode cX0_placeFront 1 = .ok (.iload_n 1, 1) := by decide +kernel
theorem dX0_placeFront_2 : decode cX0_placeFront 2 = .ok (.invokevirtual 117, 3) := by decide +kernel
theorem dX0_placeFront_5 : decode cX0_placeFront 5 = .ok (.istore_n 2, 1) := by decide +kernel
theorem dX0_placeFront_6 : decode cX0_placeFront 6 = .ok (.aload_n 0, 1) := by decide +kernel
theorem dX0_placeFront_7 : decode cX0_placeFront 7 = .ok (.getfield 64, 3) := by decide +kernel
theorem dX0_placeFront_10 : decode cX0_placeFront 10 = .ok (.iload_n 2, 1) := by decide +kernel
theorem dX0_placeFront_11 : decode cX0_placeFront 11 = .ok (.invokestatic 131, 3) := by decide +kernel
theorem dX0_placeFront_14 : decode cX0_placeFront 14 = .ok (.istore_n 3, 1) := by decide +kernel
theorem dX0_placeFront_15 : decode cX0_placeFront 15 = .ok (.aload_n 0, 1) := by decide +kernel
theorem dX0_placeFront_16 : decode cX0_placeFront 16 = .ok (.getfield 42, 3) := by decide +kernel
theorem dX0_placeFront_19 : decode cX0_placeFront 19 = .ok (.iload_n 3, 1) := by decide +kernel
theorem dX0_placeFront_20 : decode cX0_placeFront 20 = .ok (.iload_n 1, 1) := by decide +kernel
theorem dX0_placeFront_21 : decode cX0_placeFront 21 = .ok (.invokestatic 127, 3) := by decide +kernel
theorem dX0_placeFront_24 : decode cX0_placeFront 24 = .ok (.aload_n 0, 1) := by decide +kernel
theorem dX0_placeFront_25 : decode cX0_placeFront 25 = .ok (.getfield 64, 3) := by decide +kernel
theorem dX0_placeFront_28 : decode cX0_placeFront 28 = .ok (.iload_n 2, 1) := by decide +kernel
theorem dX0_placeFront_29 : decode cX0_placeFront 29 = .ok (.iload_n 3, 1) := by decide +kernel
theorem dX0_placeFront_30 : decode cX0_placeFront 30 = .ok (.iconst 1, 1) := by decide +kernel
theorem dX0_placeFront_31 : decode cX0_placeFront 31 = .ok (.iadd, 1) := by decide +kernel
theorem dX0_placeFront_32 : decode cX0_placeFront 32 = .ok (.invokestatic 127, 3) := by decide +kernel
theorem dX0_placeFront_35 : decode cX0_placeFront 35 = .ok (.return_, 1) := by decide +kernel
set_option maxRecDepth 20000 in
theorem ggX0_placeBack_X0_letterAt : GoodIn wsX0_placeBack wsX0_letterAt := goodIn_r _ [7, 8, 9, 15, 16, 17, 18, 19, 20, 21, 22, 23, 24, 25, 26, 27, 28, 29] (by decide +kernel) (by decide +kernel)
set_option maxRecDepth 20000 in
theorem gX0_placeBack_X0_letterAt : GoodIn wsX0_placeBack (wsV RX0 117 RX0 yX0_letterAt wsX0_letterAt) := goodIn_app (goodIn_of _ (by decide +kernel)) ggX0_placeBack_X0_letterAt
set_option maxRecDepth 20000 in
theorem ggX0_placeBack_X2_at : GoodIn wsX0_placeBack wsX2_at := goodIn_r _ [12] (by decide +kernel) (by decide +kernel)
set_option maxRecDepth 20000 in
theorem gX0_placeBack_X2_at_n131 : GoodIn wsX0_placeBack (wsX2_at) := ggX0_placeBack_X2_at
set_option maxRecDepth 20000 in
theorem ggX0_placeBack_X2_put : GoodIn wsX0_placeBack wsX2_put := goodIn_r _ [14] (by decide +kernel) (by decide +kernel)
set_option maxRecDepth 20000 in
theorem gX0_placeBack_X2_put_n127 : GoodIn wsX0_placeBack (wsX2_put) := ggX0_placeBack_X2_put
theorem dX0_placeBack_0 : decode cX0_placeBack 0 = .ok (.aload_n 0, 1) := by decide +kernel
theorem dX0_placeBack_1 : decode cX0_placeBack 1 = .ok (.iload_n 1, 1) := by decide +kernel
theorem dX0_placeBack_2 : decode cX0_placeBack 2 = .ok (.invokevirtual 117, 3) := by decide +kernel
theorem dX0_placeBack_5 : decode cX0_placeBack 5 = .ok (.istore_n 2, 1) := by decide +kernel
theorem dX0_placeBack_6 : decode cX0_placeBack 6 = .ok (.aload_n 0, 1) := by decide +kernel
theorem dX0_placeBack_7 : decode cX0_placeBack 7 = .ok (.getfield 64, 3) := by decide +kernel
theorem dX0_placeBack_10 : decode cX0_placeBack 10 = .ok (.iload_n 2, 1) := by decide +kernel
theorem dX0_placeBack_11 : decode cX0_placeBack 11 = .ok (.invokestatic 131, 3) := by decide +kernel
theorem dX0_placeBack_14 : decode cX0_placeBack 14 = .ok (.iconst 1, 1) := by decide +kernel
theorem dX0_placeBack_15 : decode cX0_placeBack 15 = .ok (.isub, 1) := by decide +kernel
theorem dX0_placeBack_16 : decode cX0_placeBack 16 = .ok (.istore_n 3, 1) := by decide +kernel
theorem dX0_placeBack_17 : decode cX0_placeBack 17 = .ok (.aload_n 0, 1) := by decide +kernel
theorem dX0_placeBack_18 : decode cX0_placeBack 18 = .ok (.getfield 42, 3) := by decide +kernel
theorem dX0_placeBack_21 : decode cX0_placeBack 21 = .ok (.iload_n 3, 1) := by decide +kernel
theorem dX0_placeBack_22 : decode cX0_placeBack 22 = .ok (.iload_n 1, 1) := by decide +kernel
theorem dX0_placeBack_23 : decode cX0_placeBack 23 = .ok (.invokestatic 127, 3) := by decide +kernel
theorem dX0_placeBack_26 : decode cX0_placeBack 26 = .ok (.aload_n 0, 1) := by decide +kernel
theorem dX0_placeBack_27 : decode cX0_placeBack 27 = .ok (.getfield 64, 3) := by decide +kernel
theorem dX0_placeBack_30 : decode cX0_placeBack 30 = .ok (.iload_n 2, 1) := by decide +kernel
theorem dX0_placeBack_31 : decode cX0_placeBack 31 = .ok (.iload_n 3, 1) := by decide +kernel
theorem dX0_placeBack_32 : decode cX0_placeBack 32 = .ok (.invokestatic 127, 3) := by decide +kernel
theorem dX0_placeBack_35 : decode cX0_placeBack 35 = .ok (.return_, 1) := by decide +kernel
set_option maxRecDepth 20000 in
theorem ggX0_gatherValleys_X2_at : GoodIn wsX0_gatherValleys wsX2_at := goodIn_r _ [7] (by decide +kernel) (by decide +kernel)
set_option maxRecDepth 20000 in
theorem gX0_gatherValleys_X2_at_n131 : GoodIn wsX0_gatherValleys (wsX2_at) := ggX0_gatherValleys_X2_at
set_option maxRecDepth 20000 in
theorem ggX0_gatherValleys_X2_put : GoodIn wsX0_gatherValleys wsX2_put := goodIn_r _ [9] (by decide +kernel) (by decide +kernel)
set_option maxRecDepth 20000 in
theorem gX0_gatherValleys_X2_put_n127 : GoodIn wsX0_gatherValleys (wsX2_put) := ggX0_gatherValleys_X2_put
theorem dX0_gatherValleys_0 : decode cX0_gatherValleys 0 = .ok (.iconst 0, 1) := by decide +kernel
theorem dX0_gatherValleys_1 : decode cX0_gatherValleys 1 = .ok (.istore_n 1, 1) := by decide +kernel
theorem dX0_gatherValleys_2 : decode cX0_gatherValleys 2 = .ok (.iconst 0, 1) := by decide +kernel
theorem dX0_gatherValleys_3 : decode cX0_gatherValleys 3 = .ok (.istore_n 2, 1) := by decide +kernel
theorem dX0_gatherValleys_4 : decode cX0_gatherValleys 4 = .ok (.iload_n 2, 1) := by decide +kernel
theorem dX0_gatherValleys_5 : decode cX0_gatherValleys 5 = .ok (.aload_n 0, 1) := by decide +kernel
theorem dX0_gatherValleys_6 : decode cX0_gatherValleys 6 = .ok (.getfield 103, 3) := by decide +kernel
theorem dX0_gatherValleys_9 : decode cX0_gatherValleys 9 = .ok (.if_icmp .ge 40, 3) := by decide +kernel
theorem dX0_gatherValleys_12 : decode cX0_gatherValleys 12 = .ok (.aload_n 0, 1) := by decide +kernel
theorem dX0_gatherValleys_13 : decode cX0_gatherValleys 13 = .ok (.getfield 42, 3) := by decide +kernel
theorem dX0_gatherValleys_16 : decode cX0_gatherValleys 16 = .ok (.iload_n 2, 1) := by decide +kernel
theorem dX0_gatherValleys_17 : decode cX0_gatherValleys 17 = .ok (.iaload, 1) := by decide +kernel
theorem dX0_gatherValleys_18 : decode cX0_gatherValleys 18 = .ok (.istore_n 3, 1) := by decide +kernel
theorem dX0_gatherValleys_19 : decode cX0_gatherValleys 19 = .ok (.aload_n 0, 1) := by decide +kernel
theorem dX0_gatherValleys_20 : decode cX0_gatherValleys 20 = .ok (.getfield 49, 3) := by decide +kernel
theorem dX0_gatherValleys_23 : decode cX0_gatherValleys 23 = .ok (.iload_n 3, 1) := by decide +kernel
theorem dX0_gatherValleys_24 : decode cX0_gatherValleys 24 = .ok (.invokestatic 131, 3) := by decide +kernel
theorem dX0_gatherValleys_27 : decode cX0_gatherValleys 27 = .ok (.iconst (-1), 1) := by decide +kernel
theorem dX0_gatherValleys_28 : decode cX0_gatherValleys 28 = .ok (.if_icmp .eq 15, 3) := by decide +kernel
theorem dX0_gatherValleys_31 : decode cX0_gatherValleys 31 = .ok (.aload_n 0, 1) := by decide +kernel
theorem dX0_gatherValleys_32 : decode cX0_gatherValleys 32 = .ok (.getfield 55, 3) := by decide +kernel
theorem dX0_gatherValleys_35 : decode cX0_gatherValleys 35 = .ok (.iload_n 1, 1) := by decide +kernel
theorem dX0_gatherValleys_36 : decode cX0_gatherValleys 36 = .ok (.iload_n 3, 1) := by decide +kernel
theorem dX0_gatherValleys_37 : decode cX0_gatherValleys 37 = .ok (.invokestatic 127, 3) := by decide +kernel
theorem dX0_gatherValleys_40 : decode cX0_gatherValleys 40 = .ok (.iinc 1 1, 3) := by decide +kernel
theorem dX0_gatherValleys_43 : decode cX0_gatherValleys 43 = .ok (.iinc 2 1, 3) := by decide +kernel
theorem dX0_gatherValleys_46 : decode cX0_gatherValleys 46 = .ok (.goto (-42), 3) := by decide +kernel
theorem dX0_gatherValleys_49 : decode cX0_gatherValleys 49 = .ok (.return_, 1) := by decide +kernel
set_option maxRecDepth 20000 in
theorem ggX0_nameValleys_X2_at : GoodIn wsX0_nameValleys wsX2_at := goodIn_r _ [6] (by decide +kernel) (by decide +kernel)
set_option maxRecDepth 20000 in
theorem gX0_nameValleys_X2_at_n131 : GoodIn wsX0_nameValleys (wsX2_at) := ggX0_nameValleys_X2_at
set_option maxRecDepth 20000 in
theorem ggX0_nameValleys_X0_areAlike : GoodIn wsX0_nameValleys wsX0_areAlike := goodIn_r _ [11, 12, 13, 14, 10, 15, 3, 1, 16, 17, 4, 5, 6, 18, 19, 20, 21, 22, 25, 26, 27, 28, 29, 30, 31, 32, 33, 34, 35, 36, 37, 38, 39] (by decide +kernel) (by decide +kernel)
set_option maxRecDepth 20000 in
theorem gX0_nameValleys_X0_areAlike : GoodIn wsX0_nameValleys (wsV RX0 151 RX0 yX0_areAlike wsX0_areAlike) := goodIn_app (goodIn_of _ (by decide +kernel)) ggX0_nameValleys_X0_areAlike
set_option maxRecDepth 20000 in
theorem ggX0_nameValleys_X2_put : GoodIn wsX0_nameValleys wsX2_put := goodIn_r _ [24] (by decide +kernel) (by decide +kernel)
set_option maxRecDepth 20000 in
theorem gX0_nameValleys_X2_put_n127 : GoodIn wsX0_nameValleys (wsX2_put) := ggX0_nameValleys_X2_put
theorem dX0_nameValleys_0 : decode cX0_nameValleys 0 = .ok (.iconst 0, 1) := by decide +kernel
theorem dX0_nameValleys_1 : decode cX0_nameValleys 1 = .ok (.istore_n 2, 1) := by decide +kernel
theorem dX0_nameValleys_2 : decode cX0_nameValleys 2 = .ok (.iconst (-1), 1) := by decide +kernel
theorem dX0_nameValleys_3 : decode cX0_nameValleys 3 = .ok (.istore_n 3, 1) := by decide +kernel
theorem dX0_nameValleys_4 : decode cX0_nameValleys 4 = .ok (.iconst 0, 1) := by decide +kernel
theorem dX0_nameValleys_5 : decode cX0_nameValleys 5 = .ok (.istore 4, 2) := by decide +kernel
theorem dX0_nameValleys_7 : decode cX0_nameValleys 7 = .ok (.iload 4, 2) := by decide +kernel
theorem dX0_nameValleys_9 : decode cX0_nameValleys 9 = .ok (.aload_n 0, 1) := by decide +kernel
theorem dX0_nameValleys_10 : decode cX0_nameValleys 10 = .ok (.getfield 97, 3) := by decide +kernel
theorem dX0_nameValleys_13 : decode cX0_nameValleys 13 = .ok (.if_icmp .ge 57, 3) := by decide +kernel
theorem dX0_nameValleys_16 : decode cX0_nameValleys 16 = .ok (.aload_n 0, 1) := by decide +kernel
theorem dX0_nameValleys_17 : decode cX0_nameValleys 17 = .ok (.getfield 55, 3) := by decide +kernel
theorem dX0_nameValleys_20 : decode cX0_nameValleys 20 = .ok (.iload 4, 2) := by decide +kernel
theorem dX0_nameValleys_22 : decode cX0_nameValleys 22 = .ok (.invokestatic 131, 3) := by decide +kernel
theorem dX0_nameValleys_25 : decode cX0_nameValleys 25 = .ok (.istore 5, 2) := by decide +kernel
theorem dX0_nameValleys_27 : decode cX0_nameValleys 27 = .ok (.iload 4, 2) := by decide +kernel
theorem dX0_nameValleys_29 : decode cX0_nameValleys 29 = .ok (.ifCond .eq 13, 3) := by decide +kernel
theorem dX0_nameValleys_32 : decode cX0_nameValleys 32 = .ok (.aload_n 0, 1) := by decide +kernel
theorem dX0_nameValleys_33 : decode cX0_nameValleys 33 = .ok (.iload_n 3, 1) := by decide +kernel
theorem dX0_nameValleys_34 : decode cX0_nameValleys 34 = .ok (.iload 5, 2) := by decide +kernel
theorem dX0_nameValleys_36 : decode cX0_nameValleys 36 = .ok (.invokevirtual 151, 3) := by decide +kernel
theorem dX0_nameValleys_39 : decode cX0_nameValleys 39 = .ok (.ifCond .ne 6, 3) := by decide +kernel
theorem dX0_nameValleys_42 : decode cX0_nameValleys 42 = .ok (.iinc 2 1, 3) := by decide +kernel
theorem dX0_nameValleys_45 : decode cX0_nameValleys 45 = .ok (.aload_n 1, 1) := by decide +kernel
theorem dX0_nameValleys_46 : decode cX0_nameValleys 46 = .ok (.aload_n 0, 1) := by decide +kernel
theorem dX0_nameValleys_47 : decode cX0_nameValleys 47 = .ok (.getfield 49, 3) := by decide +kernel
theorem dX0_nameValleys_50 : decode cX0_nameValleys 50 = .ok (.iload 5, 2) := by decide +kernel
theorem dX0_nameValleys_52 : decode cX0_nameValleys 52 = .ok (.invokestatic 131, 3) := by decide +kernel
theorem dX0_nameValleys_55 : decode cX0_nameValleys 55 = .ok (.iload_n 2, 1) := by decide +kernel
theorem dX0_nameValleys_56 : decode cX0_nameValleys 56 = .ok (.iconst 1, 1) := by decide +kernel
theorem dX0_nameValleys_57 : decode cX0_nameValleys 57 = .ok (.isub, 1) := by decide +kernel
theorem dX0_nameValleys_58 : decode cX0_nameValleys 58 = .ok (.invokestatic 127, 3) := by decide +kernel
theorem dX0_nameValleys_61 : decode cX0_nameValleys 61 = .ok (.iload 5, 2) := by decide +kernel
theorem dX0_nameValleys_63 : decode cX0_nameValleys 63 = .ok (.istore_n 3, 1) := by decide +kernel
theorem dX0_nameValleys_64 : decode cX0_nameValleys 64 = .ok (.iinc 4 1, 3) := by decide +kernel
theorem dX0_nameValleys_67 : decode cX0_nameValleys 67 = .ok (.goto (-60), 3) := by decide +kernel
theorem dX0_nameValleys_70 : decode cX0_nameValleys 70 = .ok (.iload_n 2, 1) := by decide +kernel
theorem dX0_nameValleys_71 : decode cX0_nameValleys 71 = .ok (.ireturn, 1) := by decide +kernel
set_option maxRecDepth 20000 in
theorem ggX0_areAlike_X0_stepsToNext : GoodIn wsX0_areAlike wsX0_stepsToNext := goodIn_r _ [5, 6, 7, 8, 9, 10, 11, 12, 18, 19, 20, 21, 22, 23, 24, 25, 26, 27, 28, 29, 30, 31, 32] (by decide +kernel) (by decide +kernel)
set_option maxRecDepth 20000 in
theorem gX0_areAlike_X0_stepsToNext : GoodIn wsX0_areAlike (wsV RX0 155 RX0 yX0_stepsToNext wsX0_stepsToNext) := goodIn_app (goodIn_of _ (by decide +kernel)) ggX0_areAlike_X0_stepsToNext
set_option maxRecDepth 20000 in
theorem ggX0_areAlike_X0_letterAt : GoodIn wsX0_areAlike wsX0_letterAt := goodIn_r _ [16, 9, 17, 18, 19, 20, 21, 22, 23, 24, 25, 26, 27, 28, 29, 30, 31, 32] (by decide +kernel) (by decide +kernel)
set_option maxRecDepth 20000 in
theorem gX0_areAlike_X0_letterAt : GoodIn wsX0_areAlike (wsV RX0 117 RX0 yX0_letterAt wsX0_letterAt) := goodIn_app (goodIn_of _ (by decide +kernel)) ggX0_areAlike_X0_letterAt
theorem dX0_areAlike_0 : decode cX0_areAlike 0 = .ok (.aload_n 0, 1) := by decide +kernel
theorem dX0_areAlike_1 : decode cX0_areAlike 1 = .ok (.iload_n 1, 1) := by decide +kernel
theorem dX0_areAlike_2 : decode cX0_areAlike 2 = .ok (.invokevirtual 155, 3) := by decide +kernel
theorem dX0_areAlike_5 : decode cX0_areAlike 5 = .ok (.istore_n 3, 1) := by decide +kernel
theorem dX0_areAlike_6 : decode cX0_areAlike 6 = .ok (.iload_n 3, 1) := by decide +kernel
theorem dX0_areAlike_7 : decode cX0_areAlike 7 = .ok (.aload_n 0, 1) := by decide +kernel
theorem dX0_areAlike_8 : decode cX0_areAlike 8 = .ok (.iload_n 2, 1) := by decide +kernel
theorem dX0_areAlike_9 : decode cX0_areAlike 9 = .ok (.invokevirtual 155, 3) := by decide +kernel
theorem dX0_areAlike_12 : decode cX0_areAlike 12 = .ok (.if_icmp .eq 5, 3) := by decide +kernel
theorem dX0_areAlike_15 : decode cX0_areAlike 15 = .ok (.iconst 0, 1) := by decide +kernel
theorem dX0_areAlike_16 : decode cX0_areAlike 16 = .ok (.ireturn, 1) := by decide +kernel
theorem dX0_areAlike_17 : decode cX0_areAlike 17 = .ok (.iconst 0, 1) := by decide +kernel
theorem dX0_areAlike_18 : decode cX0_areAlike 18 = .ok (.istore 4, 2) := by decide +kernel
theorem dX0_areAlike_20 : decode cX0_areAlike 20 = .ok (.iload 4, 2) := by decide +kernel
theorem dX0_areAlike_22 : decode cX0_areAlike 22 = .ok (.iload_n 3, 1) := by decide +kernel
theorem dX0_areAlike_23 : decode cX0_areAlike 23 = .ok (.if_icmp .gt 30, 3) := by decide +kernel
theorem dX0_areAlike_26 : decode cX0_areAlike 26 = .ok (.aload_n 0, 1) := by decide +kernel
theorem dX0_areAlike_27 : decode cX0_areAlike 27 = .ok (.iload_n 1, 1) := by decide +kernel
theorem dX0_areAlike_28 : decode cX0_areAlike 28 = .ok (.iload 4, 2) := by decide +kernel
theorem dX0_areAlike_30 : decode cX0_areAlike 30 = .ok (.iadd, 1) := by decide +kernel
theorem dX0_areAlike_31 : decode cX0_areAlike 31 = .ok (.invokevirtual 117, 3) := by decide +kernel
theorem dX0_areAlike_34 : decode cX0_areAlike 34 = .ok (.aload_n 0, 1) := by decide +kernel
theorem dX0_areAlike_35 : decode cX0_areAlike 35 = .ok (.iload_n 2, 1) := by decide +kernel
theorem dX0_areAlike_36 : decode cX0_areAlike 36 = .ok (.iload 4, 2) := by decide +kernel
theorem dX0_areAlike_38 : decode cX0_areAlike 38 = .ok (.iadd, 1) := by decide +kernel
theorem dX0_areAlike_39 : decode cX0_areAlike 39 = .ok (.invokevirtual 117, 3) := by decide +kernel
theorem dX0_areAlike_42 : decode cX0_areAlike 42 = .ok (.if_icmp .eq 5, 3) := by decide +kernel
theorem dX0_areAlike_45 : decode cX0_areAlike 45 = .ok (.iconst 0, 1) := by decide +kernel
theorem dX0_areAlike_46 : decode cX0_areAlike 46 = .ok (.ireturn, 1) := by decide +kernel
theorem dX0_areAlike_47 : decode cX0_areAlike 47 = .ok (.iinc 4 1, 3) := by decide +kernel
theorem dX0_areAlike_50 : decode cX0_areAlike 50 = .ok (.goto (-30), 3) := by decide +kernel
theorem dX0_areAlike_53 : decode cX0_areAlike 53 = .ok (.iconst 1, 1) := by decide +kernel
theorem dX0_areAlike_54 : decode cX0_areAlike 54 = .ok (.ireturn, 1) := by decide +kernel
set_option maxRecDepth 20000 in
theorem ggX0_stepsToNext_X2_at : GoodIn wsX0_stepsToNext wsX2_at := goodIn_r _ [7] (by decide +kernel) (by decide +kernel)
set_option maxRecDepth 20000 in
theorem gX0_stepsToNext_X2_at_n131 : GoodIn wsX0_stepsToNext (wsX2_at) := ggX0_stepsToNext_X2_at
theorem dX0_stepsToNext_0 : decode cX0_stepsToNext 0 = .ok (.aload_n 0, 1) := by decide +kernel
theorem dX0_stepsToNext_1 : decode cX0_stepsToNext 1 = .ok (.getfield 49, 3) := by decide +kernel
theorem dX0_stepsToNext_4 : decode cX0_stepsToNext 4 = .ok (.iload_n 1, 1) := by decide +kernel
theorem dX0_stepsToNext_5 : decode cX0_stepsToNext 5 = .ok (.invokestatic 131, 3) := by decide +kernel
theorem dX0_stepsToNext_8 : decode cX0_stepsToNext 8 = .ok (.iconst 1, 1) := by decide +kernel
theorem dX0_stepsToNext_9 : decode cX0_stepsToNext 9 = .ok (.iadd, 1) := by decide +kernel
theorem dX0_stepsToNext_10 : decode cX0_stepsToNext 10 = .ok (.istore_n 2, 1) := by decide +kernel
theorem dX0_stepsToNext_11 : decode cX0_stepsToNext 11 = .ok (.iload_n 2, 1) := by decide +kernel
theorem dX0_stepsToNext_12 : decode cX0_stepsToNext 12 = .ok (.aload_n 0, 1) := by decide +kernel
theorem dX0_stepsToNext_13 : decode cX0_stepsToNext 13 = .ok (.getfield 97, 3) := by decide +kernel
theorem dX0_stepsToNext_16 : decode cX0_stepsToNext 16 = .ok (.if_icmp .ge 14, 3) := by decide +kernel
theorem dX0_stepsToNext_19 : decode cX0_stepsToNext 19 = .ok (.aload_n 0, 1) := by decide +kernel
theorem dX0_stepsToNext_20 : decode cX0_stepsToNext 20 = .ok (.getfield 52, 3) := by decide +kernel
theorem dX0_stepsToNext_23 : decode cX0_stepsToNext 23 = .ok (.iload_n 2, 1) := by decide +kernel
theorem dX0_stepsToNext_24 : decode cX0_stepsToNext 24 = .ok (.invokestatic 131, 3) := by decide +kernel
theorem dX0_stepsToNext_27 : decode cX0_stepsToNext 27 = .ok (.goto 7, 3) := by decide +kernel
theorem dX0_stepsToNext_30 : decode cX0_stepsToNext 30 = .ok (.aload_n 0, 1) := by decide +kernel
theorem dX0_stepsToNext_31 : decode cX0_stepsToNext 31 = .ok (.getfield 103, 3) := by decide +kernel
theorem dX0_stepsToNext_34 : decode cX0_stepsToNext 34 = .ok (.iload_n 1, 1) := by decide +kernel
theorem dX0_stepsToNext_35 : decode cX0_stepsToNext 35 = .ok (.isub, 1) := by decide +kernel
theorem dX0_stepsToNext_36 : decode cX0_stepsToNext 36 = .ok (.ireturn, 1) := by decide +kernel
set_option maxRecDepth 20000 in
theorem ggX0_takeOrderFromBelow_X2_at : GoodIn wsX0_takeOrderFromBelow wsX2_at := goodIn_r _ [7] (by decide +kernel) (by decide +kernel)
set_option maxRecDepth 20000 in
theorem gX0_takeOrderFromBelow_X2_at_n131 : GoodIn wsX0_takeOrderFromBelow (wsX2_at) := ggX0_takeOrderFromBelow_X2_at
set_option maxRecDepth 20000 in
theorem ggX0_takeOrderFromBelow_X2_put : GoodIn wsX0_takeOrderFromBelow wsX2_put := goodIn_r _ [9] (by decide +kernel) (by decide +kernel)
set_option maxRecDepth 20000 in
theorem gX0_takeOrderFromBelow_X2_put_n127 : GoodIn wsX0_takeOrderFromBelow (wsX2_put) := ggX0_takeOrderFromBelow_X2_put
theorem dX0_takeOrderFromBelow_0 : decode cX0_takeOrderFromBelow 0 = .ok (.iconst 0, 1) := by decide +kernel
theorem dX0_takeOrderFromBelow_1 : decode cX0_takeOrderFromBelow 1 = .ok (.istore_n 1, 1) := by decide +kernel
theorem dX0_takeOrderFromBelow_2 : decode cX0_takeOrderFromBelow 2 = .ok (.iload_n 1, 1) := by decide +kernel
theorem dX0_takeOrderFromBelow_3 : decode cX0_takeOrderFromBelow 3 = .ok (.aload_n 0, 1) := by decide +kernel
theorem dX0_takeOrderFromBelow_4 : decode cX0_takeOrderFromBelow 4 = .ok (.getfield 97, 3) := by decide +kernel
theorem dX0_takeOrderFromBelow_7 : decode cX0_takeOrderFromBelow 7 = .ok (.if_icmp .ge 32, 3) := by decide +kernel
theorem dX0_takeOrderFromBelow_10 : decode cX0_takeOrderFromBelow 10 = .ok (.aload_n 0, 1) := by decide +kernel
theorem dX0_takeOrderFromBelow_11 : decode cX0_takeOrderFromBelow 11 = .ok (.getfield 55, 3) := by decide +kernel
theorem dX0_takeOrderFromBelow_14 : decode cX0_takeOrderFromBelow 14 = .ok (.iload_n 1, 1) := by decide +kernel
theorem dX0_takeOrderFromBelow_15 : decode cX0_takeOrderFromBelow 15 = .ok (.aload_n 0, 1) := by decide +kernel
theorem dX0_takeOrderFromBelow_16 : decode cX0_takeOrderFromBelow 16 = .ok (.getfield 52, 3) := by decide +kernel
theorem dX0_takeOrderFromBelow_19 : decode cX0_takeOrderFromBelow 19 = .ok (.aload_n 0, 1) := by decide +kernel
theorem dX0_takeOrderFromBelow_20 : decode cX0_takeOrderFromBelow 20 = .ok (.getfield 42, 3) := by decide +kernel
theorem dX0_takeOrderFromBelow_23 : decode cX0_takeOrderFromBelow 23 = .ok (.iload_n 1, 1) := by decide +kernel
theorem dX0_takeOrderFromBelow_24 : decode cX0_takeOrderFromBelow 24 = .ok (.invokestatic 131, 3) := by decide +kernel
theorem dX0_takeOrderFromBelow_27 : decode cX0_takeOrderFromBelow 27 = .ok (.invokestatic 131, 3) := by decide +kernel
theorem dX0_takeOrderFromBelow_30 : decode cX0_takeOrderFromBelow 30 = .ok (.invokestatic 127, 3) := by decide +kernel
theorem dX0_takeOrderFromBelow_33 : decode cX0_takeOrderFromBelow 33 = .ok (.iinc 1 1, 3) := by decide +kernel
theorem dX0_takeOrderFromBelow_36 : decode cX0_takeOrderFromBelow 36 = .ok (.goto (-34), 3) := by decide +kernel
theorem dX0_takeOrderFromBelow_39 : decode cX0_takeOrderFromBelow 39 = .ok (.return_, 1) := by decide +kernel
theorem dX0_letterAt_0 : decode cX0_letterAt 0 = .ok (.iload_n 1, 1) := by decide +kernel
theorem dX0_letterAt_1 : decode cX0_letterAt 1 = .ok (.ifCond .lt 20, 3) := by decide +kernel
theorem dX0_letterAt_4 : decode cX0_letterAt 4 = .ok (.iload_n 1, 1) := by decide +kernel
theorem dX0_letterAt_5 : decode cX0_letterAt 5 = .ok (.aload_n 0, 1) := by decide +kernel
theorem dX0_letterAt_6 : decode cX0_letterAt 6 = .ok (.getfield 103, 3) := by decide +kernel
theorem dX0_letterAt_9 : decode cX0_letterAt 9 = .ok (.if_icmp .ge 12, 3) := by decide +kernel
theorem dX0_letterAt_12 : decode cX0_letterAt 12 = .ok (.aload_n 0, 1) := by decide +kernel
theorem dX0_letterAt_13 : decode cX0_letterAt 13 = .ok (.getfield 41, 3) := by decide +kernel
theorem dX0_letterAt_16 : decode cX0_letterAt 16 = .ok (.iload_n 1, 1) := by decide +kernel
theorem dX0_letterAt_17 : decode cX0_letterAt 17 = .ok (.iaload, 1) := by decide +kernel
theorem dX0_letterAt_18 : decode cX0_letterAt 18 = .ok (.goto 4, 3) := by decide +kernel
theorem dX0_letterAt_21 : decode cX0_letterAt 21 = .ok (.iconst (-1), 1) := by decide +kernel
theorem dX0_letterAt_22 : decode cX0_letterAt 22 = .ok (.ireturn, 1) := by decide +kernel
theorem dX0_isRising_0 : decode cX0_isRising 0 = .ok (.iload_n 1, 1) := by decide +kernel
theorem dX0_isRising_1 : decode cX0_isRising 1 = .ok (.ifCond .lt 24, 3) := by decide +kernel
theorem dX0_isRising_4 : decode cX0_isRising 4 = .ok (.iload_n 1, 1) := by decide +kernel
theorem dX0_isRising_5 : decode cX0_isRising 5 = .ok (.aload_n 0, 1) := by decide +kernel
theorem dX0_isRising_6 : decode cX0_isRising 6 = .ok (.getfield 103, 3) := by decide +kernel
theorem dX0_isRising_9 : decode cX0_isRising 9 = .ok (.if_icmp .ge 16, 3) := by decide +kernel
theorem dX0_isRising_12 : decode cX0_isRising 12 = .ok (.aload_n 0, 1) := by decide +kernel
theorem dX0_isRising_13 : decode cX0_isRising 13 = .ok (.getfield 45, 3) := by decide +kernel
theorem dX0_isRising_16 : decode cX0_isRising 16 = .ok (.iload_n 1, 1) := by decide +kernel
theorem dX0_isRising_17 : decode cX0_isRising 17 = .ok (.baload, 1) := by decide +kernel
theorem dX0_isRising_18 : decode cX0_isRising 18 = .ok (.ifCond .eq 7, 3) := by decide +kernel
theorem dX0_isRising_21 : decode cX0_isRising 21 = .ok (.iconst 1, 1) := by decide +kernel
theorem dX0_isRising_22 : decode cX0_isRising 22 = .ok (.goto 4, 3) := by decide +kernel
theorem dX0_isRising_25 : decode cX0_isRising 25 = .ok (.iconst 0, 1) := by decide +kernel
theorem dX0_isRising_26 : decode cX0_isRising 26 = .ok (.ireturn, 1) := by decide +kernel
theorem dX0_isFalling_0 : decode cX0_isFalling 0 = .ok (.iload_n 1, 1) := by decide +kernel
theorem dX0_isFalling_1 : decode cX0_isFalling 1 = .ok (.ifCond .lt 24, 3) := by decide +kernel
theorem dX0_isFalling_4 : decode cX0_isFalling 4 = .ok (.iload_n 1, 1) := by decide +kernel
theorem dX0_isFalling_5 : decode cX0_isFalling 5 = .ok (.aload_n 0, 1) := by decide +kernel
theorem dX0_isFalling_6 : decode cX0_isFalling 6 = .ok (.getfield 103, 3) := by decide +kernel
theorem dX0_isFalling_9 : decode cX0_isFalling 9 = .ok (.if_icmp .ge 16, 3) := by decide +kernel
theorem dX0_isFalling_12 : decode cX0_isFalling 12 = .ok (.aload_n 0, 1) := by decide +kernel
theorem dX0_isFalling_13 : decode cX0_isFalling 13 = .ok (.getfield 45, 3) := by decide +kernel
theorem dX0_isFalling_16 : decode cX0_isFalling 16 = .ok (.iload_n 1, 1) := by decide +kernel
theorem dX0_isFalling_17 : decode cX0_isFalling 17 = .ok (.baload, 1) := by decide +kernel
theorem dX0_isFalling_18 : decode cX0_isFalling 18 = .ok (.ifCond .ne 7, 3) := by decide +kernel
theorem dX0_isFalling_21 : decode cX0_isFalling 21 = .ok (.iconst 1, 1) := by decide +kernel
theorem dX0_isFalling_22 : decode cX0_isFalling 22 = .ok (.goto 4, 3) := by decide +kernel
theorem dX0_isFalling_25 : decode cX0_isFalling 25 = .ok (.iconst 0, 1) := by decide +kernel
theorem dX0_isFalling_26 : decode cX0_isFalling 26 = .ok (.ireturn, 1) := by decide +kernel
theorem dX1_init_0 : decode cX1_init 0 = .ok (.aload_n 0, 1) := by decide +kernel
theorem dX1_init_1 : decode cX1_init 1 = .ok (.invokespecial 1, 3) := by decide +kernel
theorem dX1_init_4 : decode cX1_init 4 = .ok (.aload_n 0, 1) := by decide +kernel
theorem dX1_init_5 : decode cX1_init 5 = .ok (.iconst 0, 1) := by decide +kernel
theorem dX1_init_6 : decode cX1_init 6 = .ok (.iload_n 1, 1) := by decide +kernel
theorem dX1_init_7 : decode cX1_init 7 = .ok (.invokestatic 7, 3) := by decide +kernel
theorem dX1_init_10 : decode cX1_init 10 = .ok (.newarray .int, 2) := by decide +kernel
theorem dX1_init_12 : decode cX1_init 12 = .ok (.putfield 13, 3) := by decide +kernel
theorem dX1_init_15 : decode cX1_init 15 = .ok (.return_, 1) := by decide +kernel
theorem dX1_hold_0 : decode cX1_hold 0 = .ok (.aload_n 0, 1) := by decide +kernel
theorem dX1_hold_1 : decode cX1_hold 1 = .ok (.iload_n 1, 1) := by decide +kernel
theorem dX1_hold_2 : decode cX1_hold 2 = .ok (.aload_n 0, 1) := by decide +kernel
theorem dX1_hold_3 : decode cX1_hold 3 = .ok (.getfield 13, 3) := by decide +kernel
theorem dX1_hold_6 : decode cX1_hold 6 = .ok (.arraylength, 1) := by decide +kernel
theorem dX1_hold_7 : decode cX1_hold 7 = .ok (.invokestatic 19, 3) := by decide +kernel
theorem dX1_hold_10 : decode cX1_hold 10 = .ok (.putfield 22, 3) := by decide +kernel
theorem dX1_hold_13 : decode cX1_hold 13 = .ok (.aload_n 0, 1) := by decide +kernel
theorem dX1_hold_14 : decode cX1_hold 14 = .ok (.iload_n 2, 1) := by decide +kernel
theorem dX1_hold_15 : decode cX1_hold 15 = .ok (.putfield 26, 3) := by decide +kernel
theorem dX1_hold_18 : decode cX1_hold 18 = .ok (.return_, 1) := by decide +kernel
set_option maxRecDepth 20000 in
theorem ggX2_init_X2_nearest : GoodIn wsX2_init wsX2_nearest := goodIn_r _ [20, 21, 22, 23, 24, 25, 26, 27] (by decide +kernel) (by decide +kernel)
set_option maxRecDepth 20000 in
theorem gX2_init_X2_nearest : GoodIn wsX2_init (va_wsS RX2 9 yX2_nearest wsX2_nearest) := goodIn_app (goodIn_of _ (by decide +kernel)) ggX2_init_X2_nearest
set_option maxRecDepth 20000 in
theorem ggX2_init_X0_init : GoodIn wsX2_init wsX0_init := goodIn_r _ [30, 31, 2, 3, 32, 33, 34, 35, 36, 26, 23, 27, 37, 38, 39, 40, 13, 41, 42, 43, 44, 45, 46, 47, 48, 49, 50, 51, 7, 52, 53, 54, 55, 56, 57, 58, 71, 72, 73, 74, 75, 76, 77, 78, 79, 80, 81, 82, 83, 84, 85, 86, 87, 88] (by decide +kernel) (by decide +kernel)
set_option maxRecDepth 20000 in
theorem gX2_init_X0_init : GoodIn wsX2_init (wsX0_init) := ggX2_init_X0_init
theorem dX2_init_0 : decode cX2_init 0 = .ok (.aload_n 0, 1) := by decide +kernel
theorem dX2_init_1 : decode cX2_init 1 = .ok (.invokespecial 1, 3) := by decide +kernel
theorem dX2_init_4 : decode cX2_init 4 = .ok (.iload_n 1, 1) := by decide +kernel
theorem dX2_init_5 : decode cX2_init 5 = .ok (.sipush 1000, 3) := by decide +kernel
theorem dX2_init_8 : decode cX2_init 8 = .ok (.invokestatic 9, 3) := by decide +kernel
theorem dX2_init_11 : decode cX2_init 11 = .ok (.istore 4, 2) := by decide +kernel
theorem dX2_init_13 : decode cX2_init 13 = .ok (.aload_n 0, 1) := by decide +kernel
theorem dX2_init_14 : decode cX2_init 14 = .ok (.iload_n 2, 1) := by decide +kernel
theorem dX2_init_15 : decode cX2_init 15 = .ok (.sipush 256, 3) := by decide +kernel
theorem dX2_init_18 : decode cX2_init 18 = .ok (.invokestatic 9, 3) := by decide +kernel
theorem dX2_init_21 : decode cX2_init 21 = .ok (.putfield 13, 3) := by decide +kernel
theorem dX2_init_24 : decode cX2_init 24 = .ok (.aload_n 0, 1) := by decide +kernel
theorem dX2_init_25 : decode cX2_init 25 = .ok (.new 17, 3) := by decide +kernel
theorem dX2_init_28 : decode cX2_init 28 = .ok (.dup, 1) := by decide +kernel
theorem dX2_init_29 : decode cX2_init 29 = .ok (.iload 4, 2) := by decide +kernel
theorem dX2_init_31 : decode cX2_init 31 = .ok (.aload_n 0, 1) := by decide +kernel
theorem dX2_init_32 : decode cX2_init 32 = .ok (.getfield 13, 3) := by decide +kernel
theorem dX2_init_35 : decode cX2_init 35 = .ok (.invokespecial 19, 3) := by decide +kernel
theorem dX2_init_38 : decode cX2_init 38 = .ok (.putfield 22, 3) := by decide +kernel
theorem dX2_init_41 : decode cX2_init 41 = .ok (.aload_n 0, 1) := by decide +kernel
theorem dX2_init_42 : decode cX2_init 42 = .ok (.aload_n 0, 1) := by decide +kernel
theorem dX2_init_43 : decode cX2_init 43 = .ok (.getfield 22, 3) := by decide +kernel
theorem dX2_init_46 : decode cX2_init 46 = .ok (.getfield 26, 3) := by decide +kernel
theorem dX2_init_49 : decode cX2_init 49 = .ok (.putfield 30, 3) := by decide +kernel
theorem dX2_init_52 : decode cX2_init 52 = .ok (.aload_n 0, 1) := by decide +kernel
theorem dX2_init_53 : decode cX2_init 53 = .ok (.aload_n 0, 1) := by decide +kernel
theorem dX2_init_54 : decode cX2_init 54 = .ok (.getfield 22, 3) := by decide +kernel
theorem dX2_init_57 : decode cX2_init 57 = .ok (.getfield 31, 3) := by decide +kernel
theorem dX2_init_60 : decode cX2_init 60 = .ok (.putfield 34, 3) := by decide +kernel
theorem dX2_init_63 : decode cX2_init 63 = .ok (.aload_n 0, 1) := by decide +kernel
theorem dX2_init_64 : decode cX2_init 64 = .ok (.iload_n 3, 1) := by decide +kernel
theorem dX2_init_65 : decode cX2_init 65 = .ok (.bipush 64, 2) := by decide +kernel
theorem dX2_init_67 : decode cX2_init 67 = .ok (.invokestatic 9, 3) := by decide +kernel
theorem dX2_init_70 : decode cX2_init 70 = .ok (.newarray .int, 2) := by decide +kernel
theorem dX2_init_72 : decode cX2_init 72 = .ok (.putfield 35, 3) := by decide +kernel
theorem dX2_init_75 : decode cX2_init 75 = .ok (.aload_n 0, 1) := by decide +kernel
theorem dX2_init_76 : decode cX2_init 76 = .ok (.iload 4, 2) := by decide +kernel
theorem dX2_init_78 : decode cX2_init 78 = .ok (.newarray .int, 2) := by decide +kernel
theorem dX2_init_80 : decode cX2_init 80 = .ok (.putfield 38, 3) := by decide +kernel
theorem dX2_init_83 : decode cX2_init 83 = .ok (.aload_n 0, 1) := by decide +kernel
theorem dX2_init_84 : decode cX2_init 84 = .ok (.iload 4, 2) := by decide +kernel
theorem dX2_init_86 : decode cX2_init 86 = .ok (.newarray .int, 2) := by decide +kernel
theorem dX2_init_88 : decode cX2_init 88 = .ok (.putfield 41, 3) := by decide +kernel
theorem dX2_init_91 : decode cX2_init 91 = .ok (.return_, 1) := by decide +kernel
set_option maxRecDepth 20000 in
theorem ggX2_feed_X2_isLetter : GoodIn wsX2_feed wsX2_isLetter := goodIn_r _ [8, 9, 15, 16, 17, 18, 19, 20, 21, 22, 23, 24, 25, 26] (by decide +kernel) (by decide +kernel)
set_option maxRecDepth 20000 in
theorem gX2_feed_X2_isLetter : GoodIn wsX2_feed (wsV RX2 44 RX2 yX2_isLetter wsX2_isLetter) := goodIn_app (goodIn_of _ (by decide +kernel)) ggX2_feed_X2_isLetter
set_option maxRecDepth 20000 in
theorem ggX2_feed_X2_forgetHits : GoodIn wsX2_feed wsX2_forgetHits := goodIn_r _ [13, 14, 15, 16, 17, 18, 19, 20, 21, 22, 23, 24, 25, 26] (by decide +kernel) (by decide +kernel)
set_option maxRecDepth 20000 in
theorem gX2_feed_X2_forgetHits : GoodIn wsX2_feed (wsV RX2 55 RX2 yX2_forgetHits wsX2_forgetHits) := goodIn_app (goodIn_of _ (by decide +kernel)) ggX2_feed_X2_forgetHits
theorem dX2_feed_0 : decode cX2_feed 0 = .ok (.aload_n 0, 1) := by decide +kernel
theorem dX2_feed_1 : decode cX2_feed 1 = .ok (.iload_n 1, 1) := by decide +kernel
theorem dX2_feed_2 : decode cX2_feed 2 = .ok (.invokevirtual 44, 3) := by decide +kernel
theorem dX2_feed_5 : decode cX2_feed 5 = .ok (.ifCond .eq 15, 3) := by decide +kernel
theorem dX2_feed_8 : decode cX2_feed 8 = .ok (.aload_n 0, 1) := by decide +kernel
theorem dX2_feed_9 : decode cX2_feed 9 = .ok (.getfield 48, 3) := by decide +kernel
theorem dX2_feed_12 : decode cX2_feed 12 = .ok (.aload_n 0, 1) := by decide +kernel
theorem dX2_feed_13 : decode cX2_feed 13 = .ok (.getfield 30, 3) := by decide +kernel
theorem dX2_feed_16 : decode cX2_feed 16 = .ok (.arraylength, 1) := by decide +kernel
theorem dX2_feed_17 : decode cX2_feed 17 = .ok (.if_icmp .lt 5, 3) := by decide +kernel
theorem dX2_feed_20 : decode cX2_feed 20 = .ok (.iconst 0, 1) := by decide +kernel
theorem dX2_feed_21 : decode cX2_feed 21 = .ok (.ireturn, 1) := by decide +kernel
theorem dX2_feed_22 : decode cX2_feed 22 = .ok (.aload_n 0, 1) := by decide +kernel
theorem dX2_feed_23 : decode cX2_feed 23 = .ok (.getfield 30, 3) := by decide +kernel
theorem dX2_feed_26 : decode cX2_feed 26 = .ok (.aload_n 0, 1) := by decide +kernel
theorem dX2_feed_27 : decode cX2_feed 27 = .ok (.getfield 48, 3) := by decide +kernel
theorem dX2_feed_30 : decode cX2_feed 30 = .ok (.iload_n 1, 1) := by decide +kernel
theorem dX2_feed_31 : decode cX2_feed 31 = .ok (.iastore, 1) := by decide +kernel
theorem dX2_feed_32 : decode cX2_feed 32 = .ok (.aload_n 0, 1) := by decide +kernel
theorem dX2_feed_33 : decode cX2_feed 33 = .ok (.dup, 1) := by decide +kernel
theorem dX2_feed_34 : decode cX2_feed 34 = .ok (.getfield 48, 3) := by decide +kernel
theorem dX2_feed_37 : decode cX2_feed 37 = .ok (.iconst 1, 1) := by decide +kernel
theorem dX2_feed_38 : decode cX2_feed 38 = .ok (.iadd, 1) := by decide +kernel
theorem dX2_feed_39 : decode cX2_feed 39 = .ok (.putfield 48, 3) := by decide +kernel
theorem dX2_feed_42 : decode cX2_feed 42 = .ok (.aload_n 0, 1) := by decide +kernel
theorem dX2_feed_43 : decode cX2_feed 43 = .ok (.iconst 0, 1) := by decide +kernel
end
section
theorem dX2_feed_44 : decode cX2_feed 44 = .ok (.putfield 51, 3) := by decide +kernel
theorem dX2_feed_47 : decode cX2_feed 47 = .ok (.aload_n 0, 1) := by decide +kernel
theorem dX2_feed_48 : decode cX2_feed 48 = .ok (.invokevirtual 55, 3) := by decide +kernel
theorem dX2_feed_51 : decode cX2_feed 51 = .ok (.iconst 1, 1) := by decide +kernel
theorem dX2_feed_52 : decode cX2_feed 52 = .ok (.ireturn, 1) := by decide +kernel
set_option maxRecDepth 20000 in
theorem ggX2_feedAll_X2_packedLetter : GoodIn wsX2_feedAll wsX2_packedLetter := goodIn_r _ [4] (by decide +kernel) (by decide +kernel)
set_option maxRecDepth 20000 in
theorem gX2_feedAll_X2_packedLetter : GoodIn wsX2_feedAll (va_wsS RX2 58 yX2_packedLetter wsX2_packedLetter) := goodIn_app (goodIn_of _ (by decide +kernel)) ggX2_feedAll_X2_packedLetter
set_option maxRecDepth 20000 in
theorem ggX2_feedAll_X2_feed : GoodIn wsX2_feedAll wsX2_feed := goodIn_r _ [8, 9, 10, 11, 12, 13, 14, 3, 15, 16, 17, 18, 19, 20, 21, 22, 23, 24, 25, 26, 27, 28, 29, 30, 31, 32, 33] (by decide +kernel) (by decide +kernel)
set_option maxRecDepth 20000 in
theorem gX2_feedAll_X2_feed : GoodIn wsX2_feedAll (wsV RX2 62 RX2 yX2_feed wsX2_feed) := goodIn_app (goodIn_of _ (by decide +kernel)) ggX2_feedAll_X2_feed
theorem dX2_feedAll_0 : decode cX2_feedAll 0 = .ok (.iload 5, 2) := by decide +kernel
theorem dX2_feedAll_2 : decode cX2_feedAll 2 = .ok (.iconst 1, 1) := by decide +kernel
theorem dX2_feedAll_3 : decode cX2_feedAll 3 = .ok (.if_icmp .lt 10, 3) := by decide +kernel
theorem dX2_feedAll_6 : decode cX2_feedAll 6 = .ok (.iload 5, 2) := by decide +kernel
theorem dX2_feedAll_8 : decode cX2_feedAll 8 = .ok (.bipush 16, 2) := by decide +kernel
theorem dX2_feedAll_10 : decode cX2_feedAll 10 = .ok (.if_icmp .le 5, 3) := by decide +kernel
theorem dX2_feedAll_13 : decode cX2_feedAll 13 = .ok (.iconst 0, 1) := by decide +kernel
theorem dX2_feedAll_14 : decode cX2_feedAll 14 = .ok (.ireturn, 1) := by decide +kernel
theorem dX2_feedAll_15 : decode cX2_feedAll 15 = .ok (.iconst 0, 1) := by decide +kernel
theorem dX2_feedAll_16 : decode cX2_feedAll 16 = .ok (.istore 6, 2) := by decide +kernel
theorem dX2_feedAll_18 : decode cX2_feedAll 18 = .ok (.iload 6, 2) := by decide +kernel
theorem dX2_feedAll_20 : decode cX2_feedAll 20 = .ok (.iload 5, 2) := by decide +kernel
theorem dX2_feedAll_22 : decode cX2_feedAll 22 = .ok (.if_icmp .ge 26, 3) := by decide +kernel
theorem dX2_feedAll_25 : decode cX2_feedAll 25 = .ok (.aload_n 0, 1) := by decide +kernel
theorem dX2_feedAll_26 : decode cX2_feedAll 26 = .ok (.iload_n 1, 1) := by decide +kernel
theorem dX2_feedAll_27 : decode cX2_feedAll 27 = .ok (.iload_n 2, 1) := by decide +kernel
theorem dX2_feedAll_28 : decode cX2_feedAll 28 = .ok (.iload_n 3, 1) := by decide +kernel
theorem dX2_feedAll_29 : decode cX2_feedAll 29 = .ok (.iload 4, 2) := by decide +kernel
theorem dX2_feedAll_31 : decode cX2_feedAll 31 = .ok (.iload 6, 2) := by decide +kernel
theorem dX2_feedAll_33 : decode cX2_feedAll 33 = .ok (.invokestatic 58, 3) := by decide +kernel
theorem dX2_feedAll_36 : decode cX2_feedAll 36 = .ok (.invokevirtual 62, 3) := by decide +kernel
theorem dX2_feedAll_39 : decode cX2_feedAll 39 = .ok (.ifCond .eq 9, 3) := by decide +kernel
theorem dX2_feedAll_42 : decode cX2_feedAll 42 = .ok (.iinc 6 1, 3) := by decide +kernel
theorem dX2_feedAll_45 : decode cX2_feedAll 45 = .ok (.goto (-27), 3) := by decide +kernel
theorem dX2_feedAll_48 : decode cX2_feedAll 48 = .ok (.iload 6, 2) := by decide +kernel
theorem dX2_feedAll_50 : decode cX2_feedAll 50 = .ok (.ireturn, 1) := by decide +kernel
set_option maxRecDepth 20000 in
theorem ggX2_build_X0_sortEnds : GoodIn wsX2_build wsX0_sortEnds := goodIn_r _ [8, 9, 10, 11, 12, 13, 14, 15, 16, 17, 18, 19, 20, 21, 22, 23, 24, 25, 26, 7, 27, 28, 29, 30, 31, 32, 33, 34, 35, 36, 37, 38, 39, 40, 41, 42, 43, 44, 45, 46, 47, 48, 49, 50, 51, 52, 53, 54, 55, 56, 57, 58, 59, 60, 61, 62, 63, 64, 65, 66, 67, 68, 69, 70, 71, 72, 73, 74, 75, 76, 77, 78, 79, 80, 81, 82, 83, 84, 85, 86, 87, 88, 89, 90, 91, 92, 93, 94, 95, 96, 97, 98, 99, 100, 101, 102, 103, 104, 105, 106, 107, 108, 109, 110, 111, 112, 113, 114, 115, 116, 117, 118, 119, 120, 121, 122, 156, 157, 158, 159, 160, 161, 162, 163, 164, 165, 166, 167, 168, 169, 170, 171, 172, 173] (by decide +kernel) (by decide +kernel)
set_option maxRecDepth 20000 in
theorem gX2_build_X0_sortEnds : GoodIn wsX2_build (wsV RX2 65 RX0 yX0_sortEnds wsX0_sortEnds) := goodIn_app (goodIn_of _ (by decide +kernel)) ggX2_build_X0_sortEnds
set_option maxRecDepth 20000 in
theorem ggX2_build_X2_noteStanding : GoodIn wsX2_build wsX2_noteStanding := goodIn_r _ [126, 3, 127, 128, 129, 62, 63, 64, 144, 145, 146, 147, 148, 149, 150, 151, 152, 153, 154, 155] (by decide +kernel) (by decide +kernel)
set_option maxRecDepth 20000 in
theorem gX2_build_X2_noteStanding : GoodIn wsX2_build (wsV RX2 69 RX2 yX2_noteStanding wsX2_noteStanding) := goodIn_app (goodIn_of _ (by decide +kernel)) ggX2_build_X2_noteStanding
set_option maxRecDepth 20000 in
theorem ggX2_build_X2_measureNeighbours : GoodIn wsX2_build wsX2_measureNeighbours := goodIn_r _ [133, 3, 127, 128, 134, 135, 136, 20, 137, 138, 71, 63, 72, 139, 140, 141, 142, 143, 129, 62, 64, 144, 145, 146, 147, 148, 149, 150, 151, 152, 153, 154, 155] (by decide +kernel) (by decide +kernel)
set_option maxRecDepth 20000 in
theorem gX2_build_X2_measureNeighbours : GoodIn wsX2_build (wsV RX2 72 RX2 yX2_measureNeighbours wsX2_measureNeighbours) := goodIn_app (goodIn_of _ (by decide +kernel)) ggX2_build_X2_measureNeighbours
theorem dX2_build_0 : decode cX2_build 0 = .ok (.aload_n 0, 1) := by decide +kernel
theorem dX2_build_1 : decode cX2_build 1 = .ok (.getfield 51, 3) := by decide +kernel
theorem dX2_build_4 : decode cX2_build 4 = .ok (.ifCond .ne 27, 3) := by decide +kernel
theorem dX2_build_7 : decode cX2_build 7 = .ok (.aload_n 0, 1) := by decide +kernel
theorem dX2_build_8 : decode cX2_build 8 = .ok (.getfield 22, 3) := by decide +kernel
theorem dX2_build_11 : decode cX2_build 11 = .ok (.aload_n 0, 1) := by decide +kernel
theorem dX2_build_12 : decode cX2_build 12 = .ok (.getfield 48, 3) := by decide +kernel
theorem dX2_build_15 : decode cX2_build 15 = .ok (.invokevirtual 65, 3) := by decide +kernel
theorem dX2_build_18 : decode cX2_build 18 = .ok (.aload_n 0, 1) := by decide +kernel
theorem dX2_build_19 : decode cX2_build 19 = .ok (.invokevirtual 69, 3) := by decide +kernel
theorem dX2_build_22 : decode cX2_build 22 = .ok (.aload_n 0, 1) := by decide +kernel
theorem dX2_build_23 : decode cX2_build 23 = .ok (.invokevirtual 72, 3) := by decide +kernel
theorem dX2_build_26 : decode cX2_build 26 = .ok (.aload_n 0, 1) := by decide +kernel
theorem dX2_build_27 : decode cX2_build 27 = .ok (.iconst 1, 1) := by decide +kernel
theorem dX2_build_28 : decode cX2_build 28 = .ok (.putfield 51, 3) := by decide +kernel
theorem dX2_build_31 : decode cX2_build 31 = .ok (.aload_n 0, 1) := by decide +kernel
theorem dX2_build_32 : decode cX2_build 32 = .ok (.getfield 48, 3) := by decide +kernel
theorem dX2_build_35 : decode cX2_build 35 = .ok (.ireturn, 1) := by decide +kernel
set_option maxRecDepth 20000 in
theorem ggX2_sa_X2_isEnd : GoodIn wsX2_sa wsX2_isEnd := goodIn_r _ [6, 7, 8, 9, 10, 11, 12, 13, 14, 15, 16, 17, 18, 19, 20] (by decide +kernel) (by decide +kernel)
set_option maxRecDepth 20000 in
theorem gX2_sa_X2_isEnd : GoodIn wsX2_sa (wsV RX2 75 RX2 yX2_isEnd wsX2_isEnd) := goodIn_app (goodIn_of _ (by decide +kernel)) ggX2_sa_X2_isEnd
theorem dX2_sa_0 : decode cX2_sa 0 = .ok (.aload_n 0, 1) := by decide +kernel
theorem dX2_sa_1 : decode cX2_sa 1 = .ok (.iload_n 1, 1) := by decide +kernel
theorem dX2_sa_2 : decode cX2_sa 2 = .ok (.invokevirtual 75, 3) := by decide +kernel
theorem dX2_sa_5 : decode cX2_sa 5 = .ok (.ifCond .eq 12, 3) := by decide +kernel
theorem dX2_sa_8 : decode cX2_sa 8 = .ok (.aload_n 0, 1) := by decide +kernel
theorem dX2_sa_9 : decode cX2_sa 9 = .ok (.getfield 34, 3) := by decide +kernel
theorem dX2_sa_12 : decode cX2_sa 12 = .ok (.iload_n 1, 1) := by decide +kernel
theorem dX2_sa_13 : decode cX2_sa 13 = .ok (.iaload, 1) := by decide +kernel
theorem dX2_sa_14 : decode cX2_sa 14 = .ok (.goto 4, 3) := by decide +kernel
theorem dX2_sa_17 : decode cX2_sa 17 = .ok (.iconst (-1), 1) := by decide +kernel
theorem dX2_sa_18 : decode cX2_sa 18 = .ok (.ireturn, 1) := by decide +kernel
set_option maxRecDepth 20000 in
theorem ggX2_lcp_X2_isEnd : GoodIn wsX2_lcp wsX2_isEnd := goodIn_r _ [6, 7, 8, 9, 10, 11, 12, 13, 14, 15, 16, 17, 18, 19, 20] (by decide +kernel) (by decide +kernel)
set_option maxRecDepth 20000 in
theorem gX2_lcp_X2_isEnd : GoodIn wsX2_lcp (wsV RX2 75 RX2 yX2_isEnd wsX2_isEnd) := goodIn_app (goodIn_of _ (by decide +kernel)) ggX2_lcp_X2_isEnd
theorem dX2_lcp_0 : decode cX2_lcp 0 = .ok (.iload_n 1, 1) := by decide +kernel
theorem dX2_lcp_1 : decode cX2_lcp 1 = .ok (.iconst 1, 1) := by decide +kernel
theorem dX2_lcp_2 : decode cX2_lcp 2 = .ok (.if_icmp .lt 20, 3) := by decide +kernel
theorem dX2_lcp_5 : decode cX2_lcp 5 = .ok (.aload_n 0, 1) := by decide +kernel
theorem dX2_lcp_6 : decode cX2_lcp 6 = .ok (.iload_n 1, 1) := by decide +kernel
theorem dX2_lcp_7 : decode cX2_lcp 7 = .ok (.invokevirtual 75, 3) := by decide +kernel
theorem dX2_lcp_10 : decode cX2_lcp 10 = .ok (.ifCond .eq 12, 3) := by decide +kernel
theorem dX2_lcp_13 : decode cX2_lcp 13 = .ok (.aload_n 0, 1) := by decide +kernel
theorem dX2_lcp_14 : decode cX2_lcp 14 = .ok (.getfield 41, 3) := by decide +kernel
theorem dX2_lcp_17 : decode cX2_lcp 17 = .ok (.iload_n 1, 1) := by decide +kernel
theorem dX2_lcp_18 : decode cX2_lcp 18 = .ok (.iaload, 1) := by decide +kernel
theorem dX2_lcp_19 : decode cX2_lcp 19 = .ok (.goto 4, 3) := by decide +kernel
theorem dX2_lcp_22 : decode cX2_lcp 22 = .ok (.iconst (-1), 1) := by decide +kernel
theorem dX2_lcp_23 : decode cX2_lcp 23 = .ok (.ireturn, 1) := by decide +kernel
set_option maxRecDepth 20000 in
theorem ggX2_rank_X2_isEnd : GoodIn wsX2_rank wsX2_isEnd := goodIn_r _ [6, 7, 8, 9, 10, 11, 12, 13, 14, 15, 16, 17, 18, 19, 20] (by decide +kernel) (by decide +kernel)
set_option maxRecDepth 20000 in
theorem gX2_rank_X2_isEnd : GoodIn wsX2_rank (wsV RX2 75 RX2 yX2_isEnd wsX2_isEnd) := goodIn_app (goodIn_of _ (by decide +kernel)) ggX2_rank_X2_isEnd
theorem dX2_rank_0 : decode cX2_rank 0 = .ok (.aload_n 0, 1) := by decide +kernel
theorem dX2_rank_1 : decode cX2_rank 1 = .ok (.iload_n 1, 1) := by decide +kernel
theorem dX2_rank_2 : decode cX2_rank 2 = .ok (.invokevirtual 75, 3) := by decide +kernel
theorem dX2_rank_5 : decode cX2_rank 5 = .ok (.ifCond .eq 12, 3) := by decide +kernel
theorem dX2_rank_8 : decode cX2_rank 8 = .ok (.aload_n 0, 1) := by decide +kernel
theorem dX2_rank_9 : decode cX2_rank 9 = .ok (.getfield 38, 3) := by decide +kernel
theorem dX2_rank_12 : decode cX2_rank 12 = .ok (.iload_n 1, 1) := by decide +kernel
theorem dX2_rank_13 : decode cX2_rank 13 = .ok (.iaload, 1) := by decide +kernel
theorem dX2_rank_14 : decode cX2_rank 14 = .ok (.goto 4, 3) := by decide +kernel
theorem dX2_rank_17 : decode cX2_rank 17 = .ok (.iconst (-1), 1) := by decide +kernel
theorem dX2_rank_18 : decode cX2_rank 18 = .ok (.ireturn, 1) := by decide +kernel
set_option maxRecDepth 20000 in
theorem ggX2_common_X2_isEnd : GoodIn wsX2_common wsX2_isEnd := goodIn_r _ [5, 6, 7, 20, 21, 22, 23, 24, 25, 26, 27, 28, 29, 30, 31] (by decide +kernel) (by decide +kernel)
set_option maxRecDepth 20000 in
theorem gX2_common_X2_isEnd : GoodIn wsX2_common (wsV RX2 75 RX2 yX2_isEnd wsX2_isEnd) := goodIn_app (goodIn_of _ (by decide +kernel)) ggX2_common_X2_isEnd
set_option maxRecDepth 20000 in
theorem ggX2_common_X2_alikeFrom : GoodIn wsX2_common wsX2_alikeFrom := goodIn_r _ [11, 7, 12, 13, 14, 15, 16, 17, 18, 4, 19, 20, 21, 22, 23, 24, 25, 26, 27, 28, 29, 30, 31] (by decide +kernel) (by decide +kernel)
set_option maxRecDepth 20000 in
theorem gX2_common_X2_alikeFrom : GoodIn wsX2_common (wsV RX2 78 RX2 yX2_alikeFrom wsX2_alikeFrom) := goodIn_app (goodIn_of _ (by decide +kernel)) ggX2_common_X2_alikeFrom
theorem dX2_common_0 : decode cX2_common 0 = .ok (.aload_n 0, 1) := by decide +kernel
theorem dX2_common_1 : decode cX2_common 1 = .ok (.iload_n 1, 1) := by decide +kernel
theorem dX2_common_2 : decode cX2_common 2 = .ok (.invokevirtual 75, 3) := by decide +kernel
theorem dX2_common_5 : decode cX2_common 5 = .ok (.ifCond .eq 21, 3) := by decide +kernel
theorem dX2_common_8 : decode cX2_common 8 = .ok (.aload_n 0, 1) := by decide +kernel
theorem dX2_common_9 : decode cX2_common 9 = .ok (.iload_n 2, 1) := by decide +kernel
theorem dX2_common_10 : decode cX2_common 10 = .ok (.invokevirtual 75, 3) := by decide +kernel
theorem dX2_common_13 : decode cX2_common 13 = .ok (.ifCond .eq 13, 3) := by decide +kernel
theorem dX2_common_16 : decode cX2_common 16 = .ok (.aload_n 0, 1) := by decide +kernel
theorem dX2_common_17 : decode cX2_common 17 = .ok (.iload_n 1, 1) := by decide +kernel
theorem dX2_common_18 : decode cX2_common 18 = .ok (.iload_n 2, 1) := by decide +kernel
theorem dX2_common_19 : decode cX2_common 19 = .ok (.iconst 0, 1) := by decide +kernel
theorem dX2_common_20 : decode cX2_common 20 = .ok (.invokevirtual 78, 3) := by decide +kernel
theorem dX2_common_23 : decode cX2_common 23 = .ok (.goto 4, 3) := by decide +kernel
theorem dX2_common_26 : decode cX2_common 26 = .ok (.iconst (-1), 1) := by decide +kernel
theorem dX2_common_27 : decode cX2_common 27 = .ok (.ireturn, 1) := by decide +kernel
set_option maxRecDepth 20000 in
theorem ggX2_patFeed_X2_isLetter : GoodIn wsX2_patFeed wsX2_isLetter := goodIn_r _ [7, 8, 14, 15, 16, 17, 18, 19, 20, 21, 22, 23, 24, 25] (by decide +kernel) (by decide +kernel)
set_option maxRecDepth 20000 in
theorem gX2_patFeed_X2_isLetter : GoodIn wsX2_patFeed (wsV RX2 44 RX2 yX2_isLetter wsX2_isLetter) := goodIn_app (goodIn_of _ (by decide +kernel)) ggX2_patFeed_X2_isLetter
set_option maxRecDepth 20000 in
theorem ggX2_patFeed_X2_forgetHits : GoodIn wsX2_patFeed wsX2_forgetHits := goodIn_r _ [12, 13, 14, 15, 16, 17, 18, 19, 20, 21, 22, 23, 24, 25] (by decide +kernel) (by decide +kernel)
set_option maxRecDepth 20000 in
theorem gX2_patFeed_X2_forgetHits : GoodIn wsX2_patFeed (wsV RX2 55 RX2 yX2_forgetHits wsX2_forgetHits) := goodIn_app (goodIn_of _ (by decide +kernel)) ggX2_patFeed_X2_forgetHits
theorem dX2_patFeed_0 : decode cX2_patFeed 0 = .ok (.aload_n 0, 1) := by decide +kernel
theorem dX2_patFeed_1 : decode cX2_patFeed 1 = .ok (.iload_n 1, 1) := by decide +kernel
theorem dX2_patFeed_2 : decode cX2_patFeed 2 = .ok (.invokevirtual 44, 3) := by decide +kernel
theorem dX2_patFeed_5 : decode cX2_patFeed 5 = .ok (.ifCond .eq 15, 3) := by decide +kernel
theorem dX2_patFeed_8 : decode cX2_patFeed 8 = .ok (.aload_n 0, 1) := by decide +kernel
theorem dX2_patFeed_9 : decode cX2_patFeed 9 = .ok (.getfield 82, 3) := by decide +kernel
theorem dX2_patFeed_12 : decode cX2_patFeed 12 = .ok (.aload_n 0, 1) := by decide +kernel
theorem dX2_patFeed_13 : decode cX2_patFeed 13 = .ok (.getfield 35, 3) := by decide +kernel
theorem dX2_patFeed_16 : decode cX2_patFeed 16 = .ok (.arraylength, 1) := by decide +kernel
theorem dX2_patFeed_17 : decode cX2_patFeed 17 = .ok (.if_icmp .lt 5, 3) := by decide +kernel
theorem dX2_patFeed_20 : decode cX2_patFeed 20 = .ok (.iconst 0, 1) := by decide +kernel
theorem dX2_patFeed_21 : decode cX2_patFeed 21 = .ok (.ireturn, 1) := by decide +kernel
theorem dX2_patFeed_22 : decode cX2_patFeed 22 = .ok (.aload_n 0, 1) := by decide +kernel
theorem dX2_patFeed_23 : decode cX2_patFeed 23 = .ok (.getfield 35, 3) := by decide +kernel
theorem dX2_patFeed_26 : decode cX2_patFeed 26 = .ok (.aload_n 0, 1) := by decide +kernel
theorem dX2_patFeed_27 : decode cX2_patFeed 27 = .ok (.getfield 82, 3) := by decide +kernel
theorem dX2_patFeed_30 : decode cX2_patFeed 30 = .ok (.iload_n 1, 1) := by decide +kernel
theorem dX2_patFeed_31 : decode cX2_patFeed 31 = .ok (.iastore, 1) := by decide +kernel
theorem dX2_patFeed_32 : decode cX2_patFeed 32 = .ok (.aload_n 0, 1) := by decide +kernel
theorem dX2_patFeed_33 : decode cX2_patFeed 33 = .ok (.dup, 1) := by decide +kernel
theorem dX2_patFeed_34 : decode cX2_patFeed 34 = .ok (.getfield 82, 3) := by decide +kernel
theorem dX2_patFeed_37 : decode cX2_patFeed 37 = .ok (.iconst 1, 1) := by decide +kernel
theorem dX2_patFeed_38 : decode cX2_patFeed 38 = .ok (.iadd, 1) := by decide +kernel
theorem dX2_patFeed_39 : decode cX2_patFeed 39 = .ok (.putfield 82, 3) := by decide +kernel
theorem dX2_patFeed_42 : decode cX2_patFeed 42 = .ok (.aload_n 0, 1) := by decide +kernel
theorem dX2_patFeed_43 : decode cX2_patFeed 43 = .ok (.invokevirtual 55, 3) := by decide +kernel
theorem dX2_patFeed_46 : decode cX2_patFeed 46 = .ok (.iconst 1, 1) := by decide +kernel
theorem dX2_patFeed_47 : decode cX2_patFeed 47 = .ok (.ireturn, 1) := by decide +kernel
set_option maxRecDepth 20000 in
theorem ggX2_patClear_X2_forgetHits : GoodIn wsX2_patClear wsX2_forgetHits := goodIn_r _ [6, 7, 8, 9, 10, 11, 12, 13, 14, 15, 16, 17, 18, 19] (by decide +kernel) (by decide +kernel)
set_option maxRecDepth 20000 in
theorem gX2_patClear_X2_forgetHits : GoodIn wsX2_patClear (wsV RX2 55 RX2 yX2_forgetHits wsX2_forgetHits) := goodIn_app (goodIn_of _ (by decide +kernel)) ggX2_patClear_X2_forgetHits
theorem dX2_patClear_0 : decode cX2_patClear 0 = .ok (.aload_n 0, 1) := by decide +kernel
theorem dX2_patClear_1 : decode cX2_patClear 1 = .ok (.iconst 0, 1) := by decide +kernel
theorem dX2_patClear_2 : decode cX2_patClear 2 = .ok (.putfield 82, 3) := by decide +kernel
theorem dX2_patClear_5 : decode cX2_patClear 5 = .ok (.aload_n 0, 1) := by decide +kernel
theorem dX2_patClear_6 : decode cX2_patClear 6 = .ok (.invokevirtual 55, 3) := by decide +kernel
theorem dX2_patClear_9 : decode cX2_patClear 9 = .ok (.return_, 1) := by decide +kernel
set_option maxRecDepth 20000 in
theorem ggX2_search_X2_firstEndFrom : GoodIn wsX2_search wsX2_firstEndFrom := goodIn_r _ [8, 9, 10, 11, 12, 7, 13, 14, 15, 16, 17, 18, 19, 20, 21, 22, 23, 24, 25, 26, 27, 28, 29, 30, 31, 32] (by decide +kernel) (by decide +kernel)
set_option maxRecDepth 20000 in
theorem gX2_search_X2_firstEndFrom : GoodIn wsX2_search (wsV RX2 85 RX2 yX2_firstEndFrom wsX2_firstEndFrom) := goodIn_app (goodIn_of _ (by decide +kernel)) ggX2_search_X2_firstEndFrom
theorem dX2_search_0 : decode cX2_search 0 = .ok (.aload_n 0, 1) := by decide +kernel
theorem dX2_search_1 : decode cX2_search 1 = .ok (.getfield 51, 3) := by decide +kernel
theorem dX2_search_4 : decode cX2_search 4 = .ok (.ifCond .ne 5, 3) := by decide +kernel
theorem dX2_search_7 : decode cX2_search 7 = .ok (.iconst (-1), 1) := by decide +kernel
theorem dX2_search_8 : decode cX2_search 8 = .ok (.ireturn, 1) := by decide +kernel
theorem dX2_search_9 : decode cX2_search 9 = .ok (.aload_n 0, 1) := by decide +kernel
theorem dX2_search_10 : decode cX2_search 10 = .ok (.aload_n 0, 1) := by decide +kernel
theorem dX2_search_11 : decode cX2_search 11 = .ok (.iconst 0, 1) := by decide +kernel
theorem dX2_search_12 : decode cX2_search 12 = .ok (.invokevirtual 85, 3) := by decide +kernel
theorem dX2_search_15 : decode cX2_search 15 = .ok (.putfield 89, 3) := by decide +kernel
theorem dX2_search_18 : decode cX2_search 18 = .ok (.aload_n 0, 1) := by decide +kernel
theorem dX2_search_19 : decode cX2_search 19 = .ok (.aload_n 0, 1) := by decide +kernel
theorem dX2_search_20 : decode cX2_search 20 = .ok (.iconst 1, 1) := by decide +kernel
theorem dX2_search_21 : decode cX2_search 21 = .ok (.invokevirtual 85, 3) := by decide +kernel
theorem dX2_search_24 : decode cX2_search 24 = .ok (.aload_n 0, 1) := by decide +kernel
theorem dX2_search_25 : decode cX2_search 25 = .ok (.getfield 89, 3) := by decide +kernel
theorem dX2_search_28 : decode cX2_search 28 = .ok (.isub, 1) := by decide +kernel
theorem dX2_search_29 : decode cX2_search 29 = .ok (.putfield 92, 3) := by decide +kernel
theorem dX2_search_32 : decode cX2_search 32 = .ok (.aload_n 0, 1) := by decide +kernel
theorem dX2_search_33 : decode cX2_search 33 = .ok (.getfield 92, 3) := by decide +kernel
theorem dX2_search_36 : decode cX2_search 36 = .ok (.ireturn, 1) := by decide +kernel
set_option maxRecDepth 20000 in
theorem ggX2_hit_X2_at : GoodIn wsX2_hit wsX2_at := goodIn_r _ [7] (by decide +kernel) (by decide +kernel)
set_option maxRecDepth 20000 in
theorem gX2_hit_X2_at : GoodIn wsX2_hit (va_wsS RX2 95 yX2_at wsX2_at) := goodIn_app (goodIn_of _ (by decide +kernel)) ggX2_hit_X2_at
theorem dX2_hit_0 : decode cX2_hit 0 = .ok (.iload_n 1, 1) := by decide +kernel
theorem dX2_hit_1 : decode cX2_hit 1 = .ok (.ifCond .lt 27, 3) := by decide +kernel
theorem dX2_hit_4 : decode cX2_hit 4 = .ok (.iload_n 1, 1) := by decide +kernel
theorem dX2_hit_5 : decode cX2_hit 5 = .ok (.aload_n 0, 1) := by decide +kernel
theorem dX2_hit_6 : decode cX2_hit 6 = .ok (.getfield 92, 3) := by decide +kernel
theorem dX2_hit_9 : decode cX2_hit 9 = .ok (.if_icmp .ge 19, 3) := by decide +kernel
theorem dX2_hit_12 : decode cX2_hit 12 = .ok (.aload_n 0, 1) := by decide +kernel
theorem dX2_hit_13 : decode cX2_hit 13 = .ok (.getfield 34, 3) := by decide +kernel
theorem dX2_hit_16 : decode cX2_hit 16 = .ok (.aload_n 0, 1) := by decide +kernel
theorem dX2_hit_17 : decode cX2_hit 17 = .ok (.getfield 89, 3) := by decide +kernel
theorem dX2_hit_20 : decode cX2_hit 20 = .ok (.iload_n 1, 1) := by decide +kernel
theorem dX2_hit_21 : decode cX2_hit 21 = .ok (.iadd, 1) := by decide +kernel
theorem dX2_hit_22 : decode cX2_hit 22 = .ok (.invokestatic 95, 3) := by decide +kernel
theorem dX2_hit_25 : decode cX2_hit 25 = .ok (.goto 4, 3) := by decide +kernel
theorem dX2_hit_28 : decode cX2_hit 28 = .ok (.iconst (-1), 1) := by decide +kernel
theorem dX2_hit_29 : decode cX2_hit 29 = .ok (.ireturn, 1) := by decide +kernel
set_option maxRecDepth 20000 in
theorem ggX2_repeated_X2_longestAlike : GoodIn wsX2_repeated wsX2_longestAlike := goodIn_r _ [6, 7, 8, 9, 10, 11, 12, 13, 14, 15, 16, 17, 18, 19, 20, 21, 22, 23, 24] (by decide +kernel) (by decide +kernel)
set_option maxRecDepth 20000 in
theorem gX2_repeated_X2_longestAlike : GoodIn wsX2_repeated (wsV RX2 99 RX2 yX2_longestAlike wsX2_longestAlike) := goodIn_app (goodIn_of _ (by decide +kernel)) ggX2_repeated_X2_longestAlike
theorem dX2_repeated_0 : decode cX2_repeated 0 = .ok (.aload_n 0, 1) := by decide +kernel
theorem dX2_repeated_1 : decode cX2_repeated 1 = .ok (.getfield 51, 3) := by decide +kernel
theorem dX2_repeated_4 : decode cX2_repeated 4 = .ok (.ifCond .eq 10, 3) := by decide +kernel
theorem dX2_repeated_7 : decode cX2_repeated 7 = .ok (.aload_n 0, 1) := by decide +kernel
theorem dX2_repeated_8 : decode cX2_repeated 8 = .ok (.invokevirtual 99, 3) := by decide +kernel
theorem dX2_repeated_11 : decode cX2_repeated 11 = .ok (.goto 4, 3) := by decide +kernel
theorem dX2_repeated_14 : decode cX2_repeated 14 = .ok (.iconst (-1), 1) := by decide +kernel
theorem dX2_repeated_15 : decode cX2_repeated 15 = .ok (.ireturn, 1) := by decide +kernel
set_option maxRecDepth 20000 in
theorem ggX2_repeatedAt_X2_longestAlike : GoodIn wsX2_repeatedAt wsX2_longestAlike := goodIn_r _ [6, 7, 8, 9, 10, 11, 12, 24, 25, 26, 27, 28, 29, 30, 31, 32, 33, 34, 35] (by decide +kernel) (by decide +kernel)
set_option maxRecDepth 20000 in
theorem gX2_repeatedAt_X2_longestAlike : GoodIn wsX2_repeatedAt (wsV RX2 99 RX2 yX2_longestAlike wsX2_longestAlike) := goodIn_app (goodIn_of _ (by decide +kernel)) ggX2_repeatedAt_X2_longestAlike
set_option maxRecDepth 20000 in
theorem ggX2_repeatedAt_X2_leastPlaceOf : GoodIn wsX2_repeatedAt wsX2_leastPlaceOf := goodIn_r _ [16, 7, 8, 17, 18, 19, 11, 20, 21, 22, 5, 23, 24, 25, 26, 27, 28, 29, 30, 31, 32, 33, 34, 35] (by decide +kernel) (by decide +kernel)
set_option maxRecDepth 20000 in
theorem gX2_repeatedAt_X2_leastPlaceOf : GoodIn wsX2_repeatedAt (wsV RX2 103 RX2 yX2_leastPlaceOf wsX2_leastPlaceOf) := goodIn_app (goodIn_of _ (by decide +kernel)) ggX2_repeatedAt_X2_leastPlaceOf
theorem dX2_repeatedAt_0 : decode cX2_repeatedAt 0 = .ok (.aload_n 0, 1) := by decide +kernel
theorem dX2_repeatedAt_1 : decode cX2_repeatedAt 1 = .ok (.getfield 51, 3) := by decide +kernel
theorem dX2_repeatedAt_4 : decode cX2_repeatedAt 4 = .ok (.ifCond .eq 10, 3) := by decide +kernel
theorem dX2_repeatedAt_7 : decode cX2_repeatedAt 7 = .ok (.aload_n 0, 1) := by decide +kernel
theorem dX2_repeatedAt_8 : decode cX2_repeatedAt 8 = .ok (.invokevirtual 99, 3) := by decide +kernel
theorem dX2_repeatedAt_11 : decode cX2_repeatedAt 11 = .ok (.goto 4, 3) := by decide +kernel
theorem dX2_repeatedAt_14 : decode cX2_repeatedAt 14 = .ok (.iconst 0, 1) := by decide +kernel
theorem dX2_repeatedAt_15 : decode cX2_repeatedAt 15 = .ok (.istore_n 1, 1) := by decide +kernel
theorem dX2_repeatedAt_16 : decode cX2_repeatedAt 16 = .ok (.iload_n 1, 1) := by decide +kernel
theorem dX2_repeatedAt_17 : decode cX2_repeatedAt 17 = .ok (.ifCond .le 11, 3) := by decide +kernel
theorem dX2_repeatedAt_20 : decode cX2_repeatedAt 20 = .ok (.aload_n 0, 1) := by decide +kernel
theorem dX2_repeatedAt_21 : decode cX2_repeatedAt 21 = .ok (.iload_n 1, 1) := by decide +kernel
theorem dX2_repeatedAt_22 : decode cX2_repeatedAt 22 = .ok (.invokevirtual 103, 3) := by decide +kernel
theorem dX2_repeatedAt_25 : decode cX2_repeatedAt 25 = .ok (.goto 4, 3) := by decide +kernel
theorem dX2_repeatedAt_28 : decode cX2_repeatedAt 28 = .ok (.iconst (-1), 1) := by decide +kernel
theorem dX2_repeatedAt_29 : decode cX2_repeatedAt 29 = .ok (.ireturn, 1) := by decide +kernel
theorem dX2_different_0 : decode cX2_different 0 = .ok (.aload_n 0, 1) := by decide +kernel
theorem dX2_different_1 : decode cX2_different 1 = .ok (.getfield 51, 3) := by decide +kernel
theorem dX2_different_4 : decode cX2_different 4 = .ok (.ifCond .ne 5, 3) := by decide +kernel
theorem dX2_different_7 : decode cX2_different 7 = .ok (.iconst (-1), 1) := by decide +kernel
theorem dX2_different_8 : decode cX2_different 8 = .ok (.ireturn, 1) := by decide +kernel
theorem dX2_different_9 : decode cX2_different 9 = .ok (.iconst 0, 1) := by decide +kernel
theorem dX2_different_10 : decode cX2_different 10 = .ok (.istore_n 1, 1) := by decide +kernel
theorem dX2_different_11 : decode cX2_different 11 = .ok (.iconst 0, 1) := by decide +kernel
theorem dX2_different_12 : decode cX2_different 12 = .ok (.istore_n 2, 1) := by decide +kernel
theorem dX2_different_13 : decode cX2_different 13 = .ok (.iload_n 2, 1) := by decide +kernel
theorem dX2_different_14 : decode cX2_different 14 = .ok (.aload_n 0, 1) := by decide +kernel
theorem dX2_different_15 : decode cX2_different 15 = .ok (.getfield 48, 3) := by decide +kernel
theorem dX2_different_18 : decode cX2_different 18 = .ok (.if_icmp .ge 30, 3) := by decide +kernel
theorem dX2_different_21 : decode cX2_different 21 = .ok (.iload_n 1, 1) := by decide +kernel
theorem dX2_different_22 : decode cX2_different 22 = .ok (.aload_n 0, 1) := by decide +kernel
theorem dX2_different_23 : decode cX2_different 23 = .ok (.getfield 48, 3) := by decide +kernel
theorem dX2_different_26 : decode cX2_different 26 = .ok (.aload_n 0, 1) := by decide +kernel
theorem dX2_different_27 : decode cX2_different 27 = .ok (.getfield 34, 3) := by decide +kernel
theorem dX2_different_30 : decode cX2_different 30 = .ok (.iload_n 2, 1) := by decide +kernel
theorem dX2_different_31 : decode cX2_different 31 = .ok (.iaload, 1) := by decide +kernel
theorem dX2_different_32 : decode cX2_different 32 = .ok (.isub, 1) := by decide +kernel
theorem dX2_different_33 : decode cX2_different 33 = .ok (.aload_n 0, 1) := by decide +kernel
theorem dX2_different_34 : decode cX2_different 34 = .ok (.getfield 41, 3) := by decide +kernel
theorem dX2_different_37 : decode cX2_different 37 = .ok (.iload_n 2, 1) := by decide +kernel
theorem dX2_different_38 : decode cX2_different 38 = .ok (.iaload, 1) := by decide +kernel
theorem dX2_different_39 : decode cX2_different 39 = .ok (.isub, 1) := by decide +kernel
theorem dX2_different_40 : decode cX2_different 40 = .ok (.iadd, 1) := by decide +kernel
theorem dX2_different_41 : decode cX2_different 41 = .ok (.istore_n 1, 1) := by decide +kernel
theorem dX2_different_42 : decode cX2_different 42 = .ok (.iinc 2 1, 3) := by decide +kernel
theorem dX2_different_45 : decode cX2_different 45 = .ok (.goto (-32), 3) := by decide +kernel
theorem dX2_different_48 : decode cX2_different 48 = .ok (.iload_n 1, 1) := by decide +kernel
theorem dX2_different_49 : decode cX2_different 49 = .ok (.ireturn, 1) := by decide +kernel
theorem dX2_count_0 : decode cX2_count 0 = .ok (.iload_n 1, 1) := by decide +kernel
theorem dX2_count_1 : decode cX2_count 1 = .ok (.tableswitch 79 0 5 #[39, 44, 49, 62, 68, 73], 39) := by decide +kernel
theorem dX2_count_40 : decode cX2_count 40 = .ok (.aload_n 0, 1) := by decide +kernel
theorem dX2_count_41 : decode cX2_count 41 = .ok (.getfield 48, 3) := by decide +kernel
theorem dX2_count_44 : decode cX2_count 44 = .ok (.ireturn, 1) := by decide +kernel
theorem dX2_count_45 : decode cX2_count 45 = .ok (.aload_n 0, 1) := by decide +kernel
theorem dX2_count_46 : decode cX2_count 46 = .ok (.getfield 82, 3) := by decide +kernel
theorem dX2_count_49 : decode cX2_count 49 = .ok (.ireturn, 1) := by decide +kernel
theorem dX2_count_50 : decode cX2_count 50 = .ok (.aload_n 0, 1) := by decide +kernel
theorem dX2_count_51 : decode cX2_count 51 = .ok (.getfield 51, 3) := by decide +kernel
theorem dX2_count_54 : decode cX2_count 54 = .ok (.ifCond .eq 7, 3) := by decide +kernel
theorem dX2_count_57 : decode cX2_count 57 = .ok (.iconst 1, 1) := by decide +kernel
theorem dX2_count_58 : decode cX2_count 58 = .ok (.goto 4, 3) := by decide +kernel
theorem dX2_count_61 : decode cX2_count 61 = .ok (.iconst 0, 1) := by decide +kernel
theorem dX2_count_62 : decode cX2_count 62 = .ok (.ireturn, 1) := by decide +kernel
theorem dX2_count_63 : decode cX2_count 63 = .ok (.aload_n 0, 1) := by decide +kernel
theorem dX2_count_64 : decode cX2_count 64 = .ok (.getfield 30, 3) := by decide +kernel
theorem dX2_count_67 : decode cX2_count 67 = .ok (.arraylength, 1) := by decide +kernel
theorem dX2_count_68 : decode cX2_count 68 = .ok (.ireturn, 1) := by decide +kernel
theorem dX2_count_69 : decode cX2_count 69 = .ok (.aload_n 0, 1) := by decide +kernel
theorem dX2_count_70 : decode cX2_count 70 = .ok (.getfield 13, 3) := by decide +kernel
theorem dX2_count_73 : decode cX2_count 73 = .ok (.ireturn, 1) := by decide +kernel
theorem dX2_count_74 : decode cX2_count 74 = .ok (.aload_n 0, 1) := by decide +kernel
theorem dX2_count_75 : decode cX2_count 75 = .ok (.getfield 35, 3) := by decide +kernel
theorem dX2_count_78 : decode cX2_count 78 = .ok (.arraylength, 1) := by decide +kernel
theorem dX2_count_79 : decode cX2_count 79 = .ok (.ireturn, 1) := by decide +kernel
theorem dX2_count_80 : decode cX2_count 80 = .ok (.iconst (-1), 1) := by decide +kernel
theorem dX2_count_81 : decode cX2_count 81 = .ok (.ireturn, 1) := by decide +kernel
set_option maxRecDepth 20000 in
theorem ggX2_clear_X2_patClear : GoodIn wsX2_clear wsX2_patClear := goodIn_r _ [7, 8, 9, 10, 11, 6, 12, 13, 14, 15, 16, 17, 18, 19, 20, 21, 22, 23, 24, 25] (by decide +kernel) (by decide +kernel)
set_option maxRecDepth 20000 in
theorem gX2_clear_X2_patClear : GoodIn wsX2_clear (wsV RX2 106 RX2 yX2_patClear wsX2_patClear) := goodIn_app (goodIn_of _ (by decide +kernel)) ggX2_clear_X2_patClear
theorem dX2_clear_0 : decode cX2_clear 0 = .ok (.aload_n 0, 1) := by decide +kernel
theorem dX2_clear_1 : decode cX2_clear 1 = .ok (.iconst 0, 1) := by decide +kernel
theorem dX2_clear_2 : decode cX2_clear 2 = .ok (.putfield 48, 3) := by decide +kernel
theorem dX2_clear_5 : decode cX2_clear 5 = .ok (.aload_n 0, 1) := by decide +kernel
theorem dX2_clear_6 : decode cX2_clear 6 = .ok (.iconst 0, 1) := by decide +kernel
theorem dX2_clear_7 : decode cX2_clear 7 = .ok (.putfield 51, 3) := by decide +kernel
theorem dX2_clear_10 : decode cX2_clear 10 = .ok (.aload_n 0, 1) := by decide +kernel
theorem dX2_clear_11 : decode cX2_clear 11 = .ok (.invokevirtual 106, 3) := by decide +kernel
theorem dX2_clear_14 : decode cX2_clear 14 = .ok (.return_, 1) := by decide +kernel
theorem dX2_nearest_0 : decode cX2_nearest 0 = .ok (.iconst 1, 1) := by decide +kernel
theorem dX2_nearest_1 : decode cX2_nearest 1 = .ok (.iload_n 0, 1) := by decide +kernel
theorem dX2_nearest_2 : decode cX2_nearest 2 = .ok (.iload_n 1, 1) := by decide +kernel
theorem dX2_nearest_3 : decode cX2_nearest 3 = .ok (.invokestatic 109, 3) := by decide +kernel
theorem dX2_nearest_6 : decode cX2_nearest 6 = .ok (.invokestatic 114, 3) := by decide +kernel
theorem dX2_nearest_9 : decode cX2_nearest 9 = .ok (.ireturn, 1) := by decide +kernel
theorem dX2_at_0 : decode cX2_at 0 = .ok (.iload_n 1, 1) := by decide +kernel
theorem dX2_at_1 : decode cX2_at 1 = .ok (.ifCond .lt 15, 3) := by decide +kernel
theorem dX2_at_4 : decode cX2_at 4 = .ok (.iload_n 1, 1) := by decide +kernel
theorem dX2_at_5 : decode cX2_at 5 = .ok (.aload_n 0, 1) := by decide +kernel
theorem dX2_at_6 : decode cX2_at 6 = .ok (.arraylength, 1) := by decide +kernel
theorem dX2_at_7 : decode cX2_at 7 = .ok (.if_icmp .ge 9, 3) := by decide +kernel
theorem dX2_at_10 : decode cX2_at 10 = .ok (.aload_n 0, 1) := by decide +kernel
theorem dX2_at_11 : decode cX2_at 11 = .ok (.iload_n 1, 1) := by decide +kernel
theorem dX2_at_12 : decode cX2_at 12 = .ok (.iaload, 1) := by decide +kernel
theorem dX2_at_13 : decode cX2_at 13 = .ok (.goto 4, 3) := by decide +kernel
theorem dX2_at_16 : decode cX2_at 16 = .ok (.iconst (-1), 1) := by decide +kernel
theorem dX2_at_17 : decode cX2_at 17 = .ok (.ireturn, 1) := by decide +kernel
theorem dX2_put_0 : decode cX2_put 0 = .ok (.iload_n 1, 1) := by decide +kernel
theorem dX2_put_1 : decode cX2_put 1 = .ok (.ifCond .lt 13, 3) := by decide +kernel
theorem dX2_put_4 : decode cX2_put 4 = .ok (.iload_n 1, 1) := by decide +kernel
theorem dX2_put_5 : decode cX2_put 5 = .ok (.aload_n 0, 1) := by decide +kernel
theorem dX2_put_6 : decode cX2_put 6 = .ok (.arraylength, 1) := by decide +kernel
theorem dX2_put_7 : decode cX2_put 7 = .ok (.if_icmp .ge 7, 3) := by decide +kernel
theorem dX2_put_10 : decode cX2_put 10 = .ok (.aload_n 0, 1) := by decide +kernel
theorem dX2_put_11 : decode cX2_put 11 = .ok (.iload_n 1, 1) := by decide +kernel
theorem dX2_put_12 : decode cX2_put 12 = .ok (.iload_n 2, 1) := by decide +kernel
theorem dX2_put_13 : decode cX2_put 13 = .ok (.iastore, 1) := by decide +kernel
theorem dX2_put_14 : decode cX2_put 14 = .ok (.return_, 1) := by decide +kernel
theorem dX2_packedLetter_0 : decode cX2_packedLetter 0 = .ok (.iload 4, 2) := by decide +kernel
theorem dX2_packedLetter_2 : decode cX2_packedLetter 2 = .ok (.iconst 4, 1) := by decide +kernel
theorem dX2_packedLetter_3 : decode cX2_packedLetter 3 = .ok (.if_icmp .ge 7, 3) := by decide +kernel
theorem dX2_packedLetter_6 : decode cX2_packedLetter 6 = .ok (.iload_n 0, 1) := by decide +kernel
theorem dX2_packedLetter_7 : decode cX2_packedLetter 7 = .ok (.goto 26, 3) := by decide +kernel
theorem dX2_packedLetter_10 : decode cX2_packedLetter 10 = .ok (.iload 4, 2) := by decide +kernel
theorem dX2_packedLetter_12 : decode cX2_packedLetter 12 = .ok (.bipush 8, 2) := by decide +kernel
theorem dX2_packedLetter_14 : decode cX2_packedLetter 14 = .ok (.if_icmp .ge 7, 3) := by decide +kernel
theorem dX2_packedLetter_17 : decode cX2_packedLetter 17 = .ok (.iload_n 1, 1) := by decide +kernel
theorem dX2_packedLetter_18 : decode cX2_packedLetter 18 = .ok (.goto 15, 3) := by decide +kernel
theorem dX2_packedLetter_21 : decode cX2_packedLetter 21 = .ok (.iload 4, 2) := by decide +kernel
theorem dX2_packedLetter_23 : decode cX2_packedLetter 23 = .ok (.bipush 12, 2) := by decide +kernel
theorem dX2_packedLetter_25 : decode cX2_packedLetter 25 = .ok (.if_icmp .ge 7, 3) := by decide +kernel
theorem dX2_packedLetter_28 : decode cX2_packedLetter 28 = .ok (.iload_n 2, 1) := by decide +kernel
theorem dX2_packedLetter_29 : decode cX2_packedLetter 29 = .ok (.goto 4, 3) := by decide +kernel
theorem dX2_packedLetter_32 : decode cX2_packedLetter 32 = .ok (.iload_n 3, 1) := by decide +kernel
theorem dX2_packedLetter_33 : decode cX2_packedLetter 33 = .ok (.istore 5, 2) := by decide +kernel
theorem dX2_packedLetter_35 : decode cX2_packedLetter 35 = .ok (.iload 5, 2) := by decide +kernel
theorem dX2_packedLetter_37 : decode cX2_packedLetter 37 = .ok (.bipush 24, 2) := by decide +kernel
theorem dX2_packedLetter_39 : decode cX2_packedLetter 39 = .ok (.bipush 8, 2) := by decide +kernel
theorem dX2_packedLetter_41 : decode cX2_packedLetter 41 = .ok (.iload 4, 2) := by decide +kernel
theorem dX2_packedLetter_43 : decode cX2_packedLetter 43 = .ok (.iconst 3, 1) := by decide +kernel
theorem dX2_packedLetter_44 : decode cX2_packedLetter 44 = .ok (.iand, 1) := by decide +kernel
theorem dX2_packedLetter_45 : decode cX2_packedLetter 45 = .ok (.imul, 1) := by decide +kernel
theorem dX2_packedLetter_46 : decode cX2_packedLetter 46 = .ok (.isub, 1) := by decide +kernel
theorem dX2_packedLetter_47 : decode cX2_packedLetter 47 = .ok (.iushr, 1) := by decide +kernel
theorem dX2_packedLetter_48 : decode cX2_packedLetter 48 = .ok (.sipush 255, 3) := by decide +kernel
theorem dX2_packedLetter_51 : decode cX2_packedLetter 51 = .ok (.iand, 1) := by decide +kernel
theorem dX2_packedLetter_52 : decode cX2_packedLetter 52 = .ok (.ireturn, 1) := by decide +kernel
theorem dX2_isLetter_0 : decode cX2_isLetter 0 = .ok (.iload_n 1, 1) := by decide +kernel
theorem dX2_isLetter_1 : decode cX2_isLetter 1 = .ok (.ifCond .lt 15, 3) := by decide +kernel
theorem dX2_isLetter_4 : decode cX2_isLetter 4 = .ok (.iload_n 1, 1) := by decide +kernel
theorem dX2_isLetter_5 : decode cX2_isLetter 5 = .ok (.aload_n 0, 1) := by decide +kernel
theorem dX2_isLetter_6 : decode cX2_isLetter 6 = .ok (.getfield 13, 3) := by decide +kernel
theorem dX2_isLetter_9 : decode cX2_isLetter 9 = .ok (.if_icmp .ge 7, 3) := by decide +kernel
theorem dX2_isLetter_12 : decode cX2_isLetter 12 = .ok (.iconst 1, 1) := by decide +kernel
theorem dX2_isLetter_13 : decode cX2_isLetter 13 = .ok (.goto 4, 3) := by decide +kernel
theorem dX2_isLetter_16 : decode cX2_isLetter 16 = .ok (.iconst 0, 1) := by decide +kernel
theorem dX2_isLetter_17 : decode cX2_isLetter 17 = .ok (.ireturn, 1) := by decide +kernel
theorem dX2_isEnd_0 : decode cX2_isEnd 0 = .ok (.aload_n 0, 1) := by decide +kernel
theorem dX2_isEnd_1 : decode cX2_isEnd 1 = .ok (.getfield 51, 3) := by decide +kernel
theorem dX2_isEnd_4 : decode cX2_isEnd 4 = .ok (.ifCond .eq 19, 3) := by decide +kernel
theorem dX2_isEnd_7 : decode cX2_isEnd 7 = .ok (.iload_n 1, 1) := by decide +kernel
theorem dX2_isEnd_8 : decode cX2_isEnd 8 = .ok (.ifCond .lt 15, 3) := by decide +kernel
theorem dX2_isEnd_11 : decode cX2_isEnd 11 = .ok (.iload_n 1, 1) := by decide +kernel
theorem dX2_isEnd_12 : decode cX2_isEnd 12 = .ok (.aload_n 0, 1) := by decide +kernel
theorem dX2_isEnd_13 : decode cX2_isEnd 13 = .ok (.getfield 48, 3) := by decide +kernel
theorem dX2_isEnd_16 : decode cX2_isEnd 16 = .ok (.if_icmp .ge 7, 3) := by decide +kernel
theorem dX2_isEnd_19 : decode cX2_isEnd 19 = .ok (.iconst 1, 1) := by decide +kernel
theorem dX2_isEnd_20 : decode cX2_isEnd 20 = .ok (.goto 4, 3) := by decide +kernel
theorem dX2_isEnd_23 : decode cX2_isEnd 23 = .ok (.iconst 0, 1) := by decide +kernel
theorem dX2_isEnd_24 : decode cX2_isEnd 24 = .ok (.ireturn, 1) := by decide +kernel
theorem dX2_forgetHits_0 : decode cX2_forgetHits 0 = .ok (.aload_n 0, 1) := by decide +kernel
theorem dX2_forgetHits_1 : decode cX2_forgetHits 1 = .ok (.iconst 0, 1) := by decide +kernel
theorem dX2_forgetHits_2 : decode cX2_forgetHits 2 = .ok (.putfield 92, 3) := by decide +kernel
theorem dX2_forgetHits_5 : decode cX2_forgetHits 5 = .ok (.return_, 1) := by decide +kernel
set_option maxRecDepth 20000 in
theorem ggX2_noteStanding_X2_put : GoodIn wsX2_noteStanding wsX2_put := goodIn_r _ [7] (by decide +kernel) (by decide +kernel)
set_option maxRecDepth 20000 in
theorem gX2_noteStanding_X2_put : GoodIn wsX2_noteStanding (va_wsS RX2 117 yX2_put wsX2_put) := goodIn_app (goodIn_of _ (by decide +kernel)) ggX2_noteStanding_X2_put
theorem dX2_noteStanding_0 : decode cX2_noteStanding 0 = .ok (.iconst 0, 1) := by decide +kernel
theorem dX2_noteStanding_1 : decode cX2_noteStanding 1 = .ok (.istore_n 1, 1) := by decide +kernel
theorem dX2_noteStanding_2 : decode cX2_noteStanding 2 = .ok (.iload_n 1, 1) := by decide +kernel
theorem dX2_noteStanding_3 : decode cX2_noteStanding 3 = .ok (.aload_n 0, 1) := by decide +kernel
theorem dX2_noteStanding_4 : decode cX2_noteStanding 4 = .ok (.getfield 48, 3) := by decide +kernel
theorem dX2_noteStanding_7 : decode cX2_noteStanding 7 = .ok (.if_icmp .ge 23, 3) := by decide +kernel
theorem dX2_noteStanding_10 : decode cX2_noteStanding 10 = .ok (.aload_n 0, 1) := by decide +kernel
theorem dX2_noteStanding_11 : decode cX2_noteStanding 11 = .ok (.getfield 38, 3) := by decide +kernel
theorem dX2_noteStanding_14 : decode cX2_noteStanding 14 = .ok (.aload_n 0, 1) := by decide +kernel
theorem dX2_noteStanding_15 : decode cX2_noteStanding 15 = .ok (.getfield 34, 3) := by decide +kernel
theorem dX2_noteStanding_18 : decode cX2_noteStanding 18 = .ok (.iload_n 1, 1) := by decide +kernel
theorem dX2_noteStanding_19 : decode cX2_noteStanding 19 = .ok (.iaload, 1) := by decide +kernel
theorem dX2_noteStanding_20 : decode cX2_noteStanding 20 = .ok (.iload_n 1, 1) := by decide +kernel
theorem dX2_noteStanding_21 : decode cX2_noteStanding 21 = .ok (.invokestatic 117, 3) := by decide +kernel
theorem dX2_noteStanding_24 : decode cX2_noteStanding 24 = .ok (.iinc 1 1, 3) := by decide +kernel
theorem dX2_noteStanding_27 : decode cX2_noteStanding 27 = .ok (.goto (-25), 3) := by decide +kernel
theorem dX2_noteStanding_30 : decode cX2_noteStanding 30 = .ok (.return_, 1) := by decide +kernel
set_option maxRecDepth 20000 in
theorem ggX2_measureNeighbours_X2_at : GoodIn wsX2_measureNeighbours wsX2_at := goodIn_r _ [12] (by decide +kernel) (by decide +kernel)
set_option maxRecDepth 20000 in
theorem gX2_measureNeighbours_X2_at : GoodIn wsX2_measureNeighbours (va_wsS RX2 95 yX2_at wsX2_at) := goodIn_app (goodIn_of _ (by decide +kernel)) ggX2_measureNeighbours_X2_at
set_option maxRecDepth 20000 in
theorem ggX2_measureNeighbours_X2_alikeFrom : GoodIn wsX2_measureNeighbours wsX2_alikeFrom := goodIn_r _ [16, 1, 5, 6, 7, 8, 17, 9, 10, 11, 12, 21, 22, 23, 24, 25, 26, 27, 28, 29, 30, 31, 32] (by decide +kernel) (by decide +kernel)
set_option maxRecDepth 20000 in
theorem gX2_measureNeighbours_X2_alikeFrom : GoodIn wsX2_measureNeighbours (wsV RX2 78 RX2 yX2_alikeFrom wsX2_alikeFrom) := goodIn_app (goodIn_of _ (by decide +kernel)) ggX2_measureNeighbours_X2_alikeFrom
set_option maxRecDepth 20000 in
theorem ggX2_measureNeighbours_X2_put : GoodIn wsX2_measureNeighbours wsX2_put := goodIn_r _ [20] (by decide +kernel) (by decide +kernel)
set_option maxRecDepth 20000 in
theorem gX2_measureNeighbours_X2_put : GoodIn wsX2_measureNeighbours (va_wsS RX2 117 yX2_put wsX2_put) := goodIn_app (goodIn_of _ (by decide +kernel)) ggX2_measureNeighbours_X2_put
theorem dX2_measureNeighbours_0 : decode cX2_measureNeighbours 0 = .ok (.iconst 0, 1) := by decide +kernel
theorem dX2_measureNeighbours_1 : decode cX2_measureNeighbours 1 = .ok (.istore_n 1, 1) := by decide +kernel
theorem dX2_measureNeighbours_2 : decode cX2_measureNeighbours 2 = .ok (.iconst 0, 1) := by decide +kernel
theorem dX2_measureNeighbours_3 : decode cX2_measureNeighbours 3 = .ok (.istore_n 2, 1) := by decide +kernel
theorem dX2_measureNeighbours_4 : decode cX2_measureNeighbours 4 = .ok (.iload_n 2, 1) := by decide +kernel
theorem dX2_measureNeighbours_5 : decode cX2_measureNeighbours 5 = .ok (.aload_n 0, 1) := by decide +kernel
theorem dX2_measureNeighbours_6 : decode cX2_measureNeighbours 6 = .ok (.getfield 48, 3) := by decide +kernel
theorem dX2_measureNeighbours_9 : decode cX2_measureNeighbours 9 = .ok (.if_icmp .ge 58, 3) := by decide +kernel
theorem dX2_measureNeighbours_12 : decode cX2_measureNeighbours 12 = .ok (.aload_n 0, 1) := by decide +kernel
theorem dX2_measureNeighbours_13 : decode cX2_measureNeighbours 13 = .ok (.getfield 38, 3) := by decide +kernel
theorem dX2_measureNeighbours_16 : decode cX2_measureNeighbours 16 = .ok (.iload_n 2, 1) := by decide +kernel
theorem dX2_measureNeighbours_17 : decode cX2_measureNeighbours 17 = .ok (.iaload, 1) := by decide +kernel
theorem dX2_measureNeighbours_18 : decode cX2_measureNeighbours 18 = .ok (.istore_n 3, 1) := by decide +kernel
theorem dX2_measureNeighbours_19 : decode cX2_measureNeighbours 19 = .ok (.iload_n 3, 1) := by decide +kernel
theorem dX2_measureNeighbours_20 : decode cX2_measureNeighbours 20 = .ok (.ifCond .le 22, 3) := by decide +kernel
theorem dX2_measureNeighbours_23 : decode cX2_measureNeighbours 23 = .ok (.aload_n 0, 1) := by decide +kernel
theorem dX2_measureNeighbours_24 : decode cX2_measureNeighbours 24 = .ok (.aload_n 0, 1) := by decide +kernel
theorem dX2_measureNeighbours_25 : decode cX2_measureNeighbours 25 = .ok (.getfield 34, 3) := by decide +kernel
theorem dX2_measureNeighbours_28 : decode cX2_measureNeighbours 28 = .ok (.iload_n 3, 1) := by decide +kernel
theorem dX2_measureNeighbours_29 : decode cX2_measureNeighbours 29 = .ok (.iconst 1, 1) := by decide +kernel
theorem dX2_measureNeighbours_30 : decode cX2_measureNeighbours 30 = .ok (.isub, 1) := by decide +kernel
theorem dX2_measureNeighbours_31 : decode cX2_measureNeighbours 31 = .ok (.invokestatic 95, 3) := by decide +kernel
theorem dX2_measureNeighbours_34 : decode cX2_measureNeighbours 34 = .ok (.iload_n 2, 1) := by decide +kernel
theorem dX2_measureNeighbours_35 : decode cX2_measureNeighbours 35 = .ok (.iload_n 1, 1) := by decide +kernel
theorem dX2_measureNeighbours_36 : decode cX2_measureNeighbours 36 = .ok (.invokevirtual 78, 3) := by decide +kernel
theorem dX2_measureNeighbours_39 : decode cX2_measureNeighbours 39 = .ok (.goto 4, 3) := by decide +kernel
theorem dX2_measureNeighbours_42 : decode cX2_measureNeighbours 42 = .ok (.iconst 0, 1) := by decide +kernel
theorem dX2_measureNeighbours_43 : decode cX2_measureNeighbours 43 = .ok (.istore_n 1, 1) := by decide +kernel
theorem dX2_measureNeighbours_44 : decode cX2_measureNeighbours 44 = .ok (.aload_n 0, 1) := by decide +kernel
theorem dX2_measureNeighbours_45 : decode cX2_measureNeighbours 45 = .ok (.getfield 41, 3) := by decide +kernel
theorem dX2_measureNeighbours_48 : decode cX2_measureNeighbours 48 = .ok (.iload_n 3, 1) := by decide +kernel
theorem dX2_measureNeighbours_49 : decode cX2_measureNeighbours 49 = .ok (.iload_n 1, 1) := by decide +kernel
theorem dX2_measureNeighbours_50 : decode cX2_measureNeighbours 50 = .ok (.invokestatic 117, 3) := by decide +kernel
theorem dX2_measureNeighbours_53 : decode cX2_measureNeighbours 53 = .ok (.iconst 0, 1) := by decide +kernel
theorem dX2_measureNeighbours_54 : decode cX2_measureNeighbours 54 = .ok (.iload_n 1, 1) := by decide +kernel
theorem dX2_measureNeighbours_55 : decode cX2_measureNeighbours 55 = .ok (.iconst 1, 1) := by decide +kernel
theorem dX2_measureNeighbours_56 : decode cX2_measureNeighbours 56 = .ok (.isub, 1) := by decide +kernel
theorem dX2_measureNeighbours_57 : decode cX2_measureNeighbours 57 = .ok (.invokestatic 114, 3) := by decide +kernel
theorem dX2_measureNeighbours_60 : decode cX2_measureNeighbours 60 = .ok (.istore_n 1, 1) := by decide +kernel
theorem dX2_measureNeighbours_61 : decode cX2_measureNeighbours 61 = .ok (.iinc 2 1, 3) := by decide +kernel
theorem dX2_measureNeighbours_64 : decode cX2_measureNeighbours 64 = .ok (.goto (-60), 3) := by decide +kernel
end
section
theorem dX2_measureNeighbours_67 : decode cX2_measureNeighbours 67 = .ok (.return_, 1) := by decide +kernel
set_option maxRecDepth 20000 in
theorem ggX2_alikeFrom_X2_at : GoodIn wsX2_alikeFrom wsX2_at := goodIn_r _ [10] (by decide +kernel) (by decide +kernel)
set_option maxRecDepth 20000 in
theorem gX2_alikeFrom_X2_at : GoodIn wsX2_alikeFrom (va_wsS RX2 95 yX2_at wsX2_at) := goodIn_app (goodIn_of _ (by decide +kernel)) ggX2_alikeFrom_X2_at
theorem dX2_alikeFrom_0 : decode cX2_alikeFrom 0 = .ok (.aload_n 0, 1) := by decide +kernel
theorem dX2_alikeFrom_1 : decode cX2_alikeFrom 1 = .ok (.getfield 48, 3) := by decide +kernel
theorem dX2_alikeFrom_4 : decode cX2_alikeFrom 4 = .ok (.iload_n 1, 1) := by decide +kernel
theorem dX2_alikeFrom_5 : decode cX2_alikeFrom 5 = .ok (.iload_n 2, 1) := by decide +kernel
theorem dX2_alikeFrom_6 : decode cX2_alikeFrom 6 = .ok (.invokestatic 114, 3) := by decide +kernel
theorem dX2_alikeFrom_9 : decode cX2_alikeFrom 9 = .ok (.isub, 1) := by decide +kernel
theorem dX2_alikeFrom_10 : decode cX2_alikeFrom 10 = .ok (.istore 4, 2) := by decide +kernel
theorem dX2_alikeFrom_12 : decode cX2_alikeFrom 12 = .ok (.iload_n 3, 1) := by decide +kernel
theorem dX2_alikeFrom_13 : decode cX2_alikeFrom 13 = .ok (.istore 5, 2) := by decide +kernel
theorem dX2_alikeFrom_15 : decode cX2_alikeFrom 15 = .ok (.iload 5, 2) := by decide +kernel
theorem dX2_alikeFrom_17 : decode cX2_alikeFrom 17 = .ok (.iload 4, 2) := by decide +kernel
theorem dX2_alikeFrom_19 : decode cX2_alikeFrom 19 = .ok (.if_icmp .ge 34, 3) := by decide +kernel
theorem dX2_alikeFrom_22 : decode cX2_alikeFrom 22 = .ok (.aload_n 0, 1) := by decide +kernel
theorem dX2_alikeFrom_23 : decode cX2_alikeFrom 23 = .ok (.getfield 30, 3) := by decide +kernel
theorem dX2_alikeFrom_26 : decode cX2_alikeFrom 26 = .ok (.iload_n 1, 1) := by decide +kernel
theorem dX2_alikeFrom_27 : decode cX2_alikeFrom 27 = .ok (.iload 5, 2) := by decide +kernel
theorem dX2_alikeFrom_29 : decode cX2_alikeFrom 29 = .ok (.iadd, 1) := by decide +kernel
theorem dX2_alikeFrom_30 : decode cX2_alikeFrom 30 = .ok (.invokestatic 95, 3) := by decide +kernel
theorem dX2_alikeFrom_33 : decode cX2_alikeFrom 33 = .ok (.aload_n 0, 1) := by decide +kernel
theorem dX2_alikeFrom_34 : decode cX2_alikeFrom 34 = .ok (.getfield 30, 3) := by decide +kernel
theorem dX2_alikeFrom_37 : decode cX2_alikeFrom 37 = .ok (.iload_n 2, 1) := by decide +kernel
theorem dX2_alikeFrom_38 : decode cX2_alikeFrom 38 = .ok (.iload 5, 2) := by decide +kernel
theorem dX2_alikeFrom_40 : decode cX2_alikeFrom 40 = .ok (.iadd, 1) := by decide +kernel
theorem dX2_alikeFrom_41 : decode cX2_alikeFrom 41 = .ok (.invokestatic 95, 3) := by decide +kernel
theorem dX2_alikeFrom_44 : decode cX2_alikeFrom 44 = .ok (.if_icmp .ne 9, 3) := by decide +kernel
theorem dX2_alikeFrom_47 : decode cX2_alikeFrom 47 = .ok (.iinc 5 1, 3) := by decide +kernel
theorem dX2_alikeFrom_50 : decode cX2_alikeFrom 50 = .ok (.goto (-35), 3) := by decide +kernel
theorem dX2_alikeFrom_53 : decode cX2_alikeFrom 53 = .ok (.iload 5, 2) := by decide +kernel
theorem dX2_alikeFrom_55 : decode cX2_alikeFrom 55 = .ok (.ireturn, 1) := by decide +kernel
set_option maxRecDepth 20000 in
theorem ggX2_firstEndFrom_X2_at : GoodIn wsX2_firstEndFrom wsX2_at := goodIn_r _ [6] (by decide +kernel) (by decide +kernel)
set_option maxRecDepth 20000 in
theorem gX2_firstEndFrom_X2_at : GoodIn wsX2_firstEndFrom (va_wsS RX2 95 yX2_at wsX2_at) := goodIn_app (goodIn_of _ (by decide +kernel)) ggX2_firstEndFrom_X2_at
set_option maxRecDepth 20000 in
theorem ggX2_firstEndFrom_X2_compareWithPattern : GoodIn wsX2_firstEndFrom wsX2_compareWithPattern := goodIn_r _ [10, 11, 1, 12, 13, 3, 4, 5, 6, 14, 15, 16, 17, 18, 19, 20, 21, 22, 23, 24, 25] (by decide +kernel) (by decide +kernel)
set_option maxRecDepth 20000 in
theorem gX2_firstEndFrom_X2_compareWithPattern : GoodIn wsX2_firstEndFrom (wsV RX2 121 RX2 yX2_compareWithPattern wsX2_compareWithPattern) := goodIn_app (goodIn_of _ (by decide +kernel)) ggX2_firstEndFrom_X2_compareWithPattern
theorem dX2_firstEndFrom_0 : decode cX2_firstEndFrom 0 = .ok (.iconst 0, 1) := by decide +kernel
theorem dX2_firstEndFrom_1 : decode cX2_firstEndFrom 1 = .ok (.istore_n 2, 1) := by decide +kernel
theorem dX2_firstEndFrom_2 : decode cX2_firstEndFrom 2 = .ok (.aload_n 0, 1) := by decide +kernel
theorem dX2_firstEndFrom_3 : decode cX2_firstEndFrom 3 = .ok (.getfield 48, 3) := by decide +kernel
theorem dX2_firstEndFrom_6 : decode cX2_firstEndFrom 6 = .ok (.istore_n 3, 1) := by decide +kernel
theorem dX2_firstEndFrom_7 : decode cX2_firstEndFrom 7 = .ok (.iload_n 2, 1) := by decide +kernel
theorem dX2_firstEndFrom_8 : decode cX2_firstEndFrom 8 = .ok (.iload_n 3, 1) := by decide +kernel
theorem dX2_firstEndFrom_9 : decode cX2_firstEndFrom 9 = .ok (.if_icmp .ge 41, 3) := by decide +kernel
theorem dX2_firstEndFrom_12 : decode cX2_firstEndFrom 12 = .ok (.iload_n 2, 1) := by decide +kernel
theorem dX2_firstEndFrom_13 : decode cX2_firstEndFrom 13 = .ok (.iload_n 3, 1) := by decide +kernel
theorem dX2_firstEndFrom_14 : decode cX2_firstEndFrom 14 = .ok (.iadd, 1) := by decide +kernel
theorem dX2_firstEndFrom_15 : decode cX2_firstEndFrom 15 = .ok (.iconst 1, 1) := by decide +kernel
theorem dX2_firstEndFrom_16 : decode cX2_firstEndFrom 16 = .ok (.iushr, 1) := by decide +kernel
theorem dX2_firstEndFrom_17 : decode cX2_firstEndFrom 17 = .ok (.istore 4, 2) := by decide +kernel
theorem dX2_firstEndFrom_19 : decode cX2_firstEndFrom 19 = .ok (.aload_n 0, 1) := by decide +kernel
theorem dX2_firstEndFrom_20 : decode cX2_firstEndFrom 20 = .ok (.aload_n 0, 1) := by decide +kernel
theorem dX2_firstEndFrom_21 : decode cX2_firstEndFrom 21 = .ok (.getfield 34, 3) := by decide +kernel
theorem dX2_firstEndFrom_24 : decode cX2_firstEndFrom 24 = .ok (.iload 4, 2) := by decide +kernel
theorem dX2_firstEndFrom_26 : decode cX2_firstEndFrom 26 = .ok (.invokestatic 95, 3) := by decide +kernel
theorem dX2_firstEndFrom_29 : decode cX2_firstEndFrom 29 = .ok (.invokevirtual 121, 3) := by decide +kernel
theorem dX2_firstEndFrom_32 : decode cX2_firstEndFrom 32 = .ok (.iload_n 1, 1) := by decide +kernel
theorem dX2_firstEndFrom_33 : decode cX2_firstEndFrom 33 = .ok (.if_icmp .ge 11, 3) := by decide +kernel
theorem dX2_firstEndFrom_36 : decode cX2_firstEndFrom 36 = .ok (.iload 4, 2) := by decide +kernel
theorem dX2_firstEndFrom_38 : decode cX2_firstEndFrom 38 = .ok (.iconst 1, 1) := by decide +kernel
theorem dX2_firstEndFrom_39 : decode cX2_firstEndFrom 39 = .ok (.iadd, 1) := by decide +kernel
theorem dX2_firstEndFrom_40 : decode cX2_firstEndFrom 40 = .ok (.istore_n 2, 1) := by decide +kernel
theorem dX2_firstEndFrom_41 : decode cX2_firstEndFrom 41 = .ok (.goto 6, 3) := by decide +kernel
theorem dX2_firstEndFrom_44 : decode cX2_firstEndFrom 44 = .ok (.iload 4, 2) := by decide +kernel
theorem dX2_firstEndFrom_46 : decode cX2_firstEndFrom 46 = .ok (.istore_n 3, 1) := by decide +kernel
theorem dX2_firstEndFrom_47 : decode cX2_firstEndFrom 47 = .ok (.goto (-40), 3) := by decide +kernel
theorem dX2_firstEndFrom_50 : decode cX2_firstEndFrom 50 = .ok (.iload_n 2, 1) := by decide +kernel
theorem dX2_firstEndFrom_51 : decode cX2_firstEndFrom 51 = .ok (.ireturn, 1) := by decide +kernel
set_option maxRecDepth 20000 in
theorem ggX2_compareWithPattern_X2_at : GoodIn wsX2_compareWithPattern wsX2_at := goodIn_r _ [8] (by decide +kernel) (by decide +kernel)
set_option maxRecDepth 20000 in
theorem gX2_compareWithPattern_X2_at : GoodIn wsX2_compareWithPattern (va_wsS RX2 95 yX2_at wsX2_at) := goodIn_app (goodIn_of _ (by decide +kernel)) ggX2_compareWithPattern_X2_at
theorem dX2_compareWithPattern_0 : decode cX2_compareWithPattern 0 = .ok (.iconst 0, 1) := by decide +kernel
theorem dX2_compareWithPattern_1 : decode cX2_compareWithPattern 1 = .ok (.istore_n 2, 1) := by decide +kernel
theorem dX2_compareWithPattern_2 : decode cX2_compareWithPattern 2 = .ok (.iload_n 2, 1) := by decide +kernel
theorem dX2_compareWithPattern_3 : decode cX2_compareWithPattern 3 = .ok (.aload_n 0, 1) := by decide +kernel
theorem dX2_compareWithPattern_4 : decode cX2_compareWithPattern 4 = .ok (.getfield 82, 3) := by decide +kernel
theorem dX2_compareWithPattern_7 : decode cX2_compareWithPattern 7 = .ok (.if_icmp .ge 45, 3) := by decide +kernel
theorem dX2_compareWithPattern_10 : decode cX2_compareWithPattern 10 = .ok (.iload_n 1, 1) := by decide +kernel
theorem dX2_compareWithPattern_11 : decode cX2_compareWithPattern 11 = .ok (.iload_n 2, 1) := by decide +kernel
theorem dX2_compareWithPattern_12 : decode cX2_compareWithPattern 12 = .ok (.iadd, 1) := by decide +kernel
theorem dX2_compareWithPattern_13 : decode cX2_compareWithPattern 13 = .ok (.aload_n 0, 1) := by decide +kernel
theorem dX2_compareWithPattern_14 : decode cX2_compareWithPattern 14 = .ok (.getfield 48, 3) := by decide +kernel
theorem dX2_compareWithPattern_17 : decode cX2_compareWithPattern 17 = .ok (.if_icmp .lt 5, 3) := by decide +kernel
theorem dX2_compareWithPattern_20 : decode cX2_compareWithPattern 20 = .ok (.iconst (-1), 1) := by decide +kernel
theorem dX2_compareWithPattern_21 : decode cX2_compareWithPattern 21 = .ok (.ireturn, 1) := by decide +kernel
theorem dX2_compareWithPattern_22 : decode cX2_compareWithPattern 22 = .ok (.aload_n 0, 1) := by decide +kernel
theorem dX2_compareWithPattern_23 : decode cX2_compareWithPattern 23 = .ok (.getfield 30, 3) := by decide +kernel
theorem dX2_compareWithPattern_26 : decode cX2_compareWithPattern 26 = .ok (.iload_n 1, 1) := by decide +kernel
theorem dX2_compareWithPattern_27 : decode cX2_compareWithPattern 27 = .ok (.iload_n 2, 1) := by decide +kernel
theorem dX2_compareWithPattern_28 : decode cX2_compareWithPattern 28 = .ok (.iadd, 1) := by decide +kernel
theorem dX2_compareWithPattern_29 : decode cX2_compareWithPattern 29 = .ok (.invokestatic 95, 3) := by decide +kernel
theorem dX2_compareWithPattern_32 : decode cX2_compareWithPattern 32 = .ok (.aload_n 0, 1) := by decide +kernel
theorem dX2_compareWithPattern_33 : decode cX2_compareWithPattern 33 = .ok (.getfield 35, 3) := by decide +kernel
theorem dX2_compareWithPattern_36 : decode cX2_compareWithPattern 36 = .ok (.iload_n 2, 1) := by decide +kernel
theorem dX2_compareWithPattern_37 : decode cX2_compareWithPattern 37 = .ok (.iaload, 1) := by decide +kernel
theorem dX2_compareWithPattern_38 : decode cX2_compareWithPattern 38 = .ok (.isub, 1) := by decide +kernel
theorem dX2_compareWithPattern_39 : decode cX2_compareWithPattern 39 = .ok (.istore_n 3, 1) := by decide +kernel
theorem dX2_compareWithPattern_40 : decode cX2_compareWithPattern 40 = .ok (.iload_n 3, 1) := by decide +kernel
theorem dX2_compareWithPattern_41 : decode cX2_compareWithPattern 41 = .ok (.ifCond .eq 5, 3) := by decide +kernel
theorem dX2_compareWithPattern_44 : decode cX2_compareWithPattern 44 = .ok (.iload_n 3, 1) := by decide +kernel
theorem dX2_compareWithPattern_45 : decode cX2_compareWithPattern 45 = .ok (.ireturn, 1) := by decide +kernel
theorem dX2_compareWithPattern_46 : decode cX2_compareWithPattern 46 = .ok (.iinc 2 1, 3) := by decide +kernel
theorem dX2_compareWithPattern_49 : decode cX2_compareWithPattern 49 = .ok (.goto (-47), 3) := by decide +kernel
theorem dX2_compareWithPattern_52 : decode cX2_compareWithPattern 52 = .ok (.iconst 0, 1) := by decide +kernel
theorem dX2_compareWithPattern_53 : decode cX2_compareWithPattern 53 = .ok (.ireturn, 1) := by decide +kernel
theorem dX2_longestAlike_0 : decode cX2_longestAlike 0 = .ok (.iconst 0, 1) := by decide +kernel
theorem dX2_longestAlike_1 : decode cX2_longestAlike 1 = .ok (.istore_n 1, 1) := by decide +kernel
theorem dX2_longestAlike_2 : decode cX2_longestAlike 2 = .ok (.iconst 1, 1) := by decide +kernel
theorem dX2_longestAlike_3 : decode cX2_longestAlike 3 = .ok (.istore_n 2, 1) := by decide +kernel
theorem dX2_longestAlike_4 : decode cX2_longestAlike 4 = .ok (.iload_n 2, 1) := by decide +kernel
theorem dX2_longestAlike_5 : decode cX2_longestAlike 5 = .ok (.aload_n 0, 1) := by decide +kernel
theorem dX2_longestAlike_6 : decode cX2_longestAlike 6 = .ok (.getfield 48, 3) := by decide +kernel
theorem dX2_longestAlike_9 : decode cX2_longestAlike 9 = .ok (.if_icmp .ge 20, 3) := by decide +kernel
theorem dX2_longestAlike_12 : decode cX2_longestAlike 12 = .ok (.iload_n 1, 1) := by decide +kernel
theorem dX2_longestAlike_13 : decode cX2_longestAlike 13 = .ok (.aload_n 0, 1) := by decide +kernel
theorem dX2_longestAlike_14 : decode cX2_longestAlike 14 = .ok (.getfield 41, 3) := by decide +kernel
theorem dX2_longestAlike_17 : decode cX2_longestAlike 17 = .ok (.iload_n 2, 1) := by decide +kernel
theorem dX2_longestAlike_18 : decode cX2_longestAlike 18 = .ok (.iaload, 1) := by decide +kernel
theorem dX2_longestAlike_19 : decode cX2_longestAlike 19 = .ok (.invokestatic 114, 3) := by decide +kernel
theorem dX2_longestAlike_22 : decode cX2_longestAlike 22 = .ok (.istore_n 1, 1) := by decide +kernel
theorem dX2_longestAlike_23 : decode cX2_longestAlike 23 = .ok (.iinc 2 1, 3) := by decide +kernel
theorem dX2_longestAlike_26 : decode cX2_longestAlike 26 = .ok (.goto (-22), 3) := by decide +kernel
theorem dX2_longestAlike_29 : decode cX2_longestAlike 29 = .ok (.iload_n 1, 1) := by decide +kernel
theorem dX2_longestAlike_30 : decode cX2_longestAlike 30 = .ok (.ireturn, 1) := by decide +kernel
set_option maxRecDepth 20000 in
theorem ggX2_leastPlaceOf_X2_at : GoodIn wsX2_leastPlaceOf wsX2_at := goodIn_r _ [11] (by decide +kernel) (by decide +kernel)
set_option maxRecDepth 20000 in
theorem gX2_leastPlaceOf_X2_at : GoodIn wsX2_leastPlaceOf (va_wsS RX2 95 yX2_at wsX2_at) := goodIn_app (goodIn_of _ (by decide +kernel)) ggX2_leastPlaceOf_X2_at
theorem dX2_leastPlaceOf_0 : decode cX2_leastPlaceOf 0 = .ok (.iconst 1, 1) := by decide +kernel
theorem dX2_leastPlaceOf_1 : decode cX2_leastPlaceOf 1 = .ok (.istore_n 2, 1) := by decide +kernel
theorem dX2_leastPlaceOf_2 : decode cX2_leastPlaceOf 2 = .ok (.iload_n 2, 1) := by decide +kernel
theorem dX2_leastPlaceOf_3 : decode cX2_leastPlaceOf 3 = .ok (.aload_n 0, 1) := by decide +kernel
theorem dX2_leastPlaceOf_4 : decode cX2_leastPlaceOf 4 = .ok (.getfield 48, 3) := by decide +kernel
theorem dX2_leastPlaceOf_7 : decode cX2_leastPlaceOf 7 = .ok (.if_icmp .ge 19, 3) := by decide +kernel
theorem dX2_leastPlaceOf_10 : decode cX2_leastPlaceOf 10 = .ok (.aload_n 0, 1) := by decide +kernel
theorem dX2_leastPlaceOf_11 : decode cX2_leastPlaceOf 11 = .ok (.getfield 41, 3) := by decide +kernel
theorem dX2_leastPlaceOf_14 : decode cX2_leastPlaceOf 14 = .ok (.iload_n 2, 1) := by decide +kernel
theorem dX2_leastPlaceOf_15 : decode cX2_leastPlaceOf 15 = .ok (.iaload, 1) := by decide +kernel
theorem dX2_leastPlaceOf_16 : decode cX2_leastPlaceOf 16 = .ok (.iload_n 1, 1) := by decide +kernel
theorem dX2_leastPlaceOf_17 : decode cX2_leastPlaceOf 17 = .ok (.if_icmp .eq 9, 3) := by decide +kernel
theorem dX2_leastPlaceOf_20 : decode cX2_leastPlaceOf 20 = .ok (.iinc 2 1, 3) := by decide +kernel
theorem dX2_leastPlaceOf_23 : decode cX2_leastPlaceOf 23 = .ok (.goto (-21), 3) := by decide +kernel
theorem dX2_leastPlaceOf_26 : decode cX2_leastPlaceOf 26 = .ok (.aload_n 0, 1) := by decide +kernel
theorem dX2_leastPlaceOf_27 : decode cX2_leastPlaceOf 27 = .ok (.getfield 34, 3) := by decide +kernel
theorem dX2_leastPlaceOf_30 : decode cX2_leastPlaceOf 30 = .ok (.iload_n 2, 1) := by decide +kernel
theorem dX2_leastPlaceOf_31 : decode cX2_leastPlaceOf 31 = .ok (.iconst 1, 1) := by decide +kernel
theorem dX2_leastPlaceOf_32 : decode cX2_leastPlaceOf 32 = .ok (.isub, 1) := by decide +kernel
theorem dX2_leastPlaceOf_33 : decode cX2_leastPlaceOf 33 = .ok (.invokestatic 95, 3) := by decide +kernel
theorem dX2_leastPlaceOf_36 : decode cX2_leastPlaceOf 36 = .ok (.istore_n 3, 1) := by decide +kernel
theorem dX2_leastPlaceOf_37 : decode cX2_leastPlaceOf 37 = .ok (.iload_n 2, 1) := by decide +kernel
theorem dX2_leastPlaceOf_38 : decode cX2_leastPlaceOf 38 = .ok (.aload_n 0, 1) := by decide +kernel
theorem dX2_leastPlaceOf_39 : decode cX2_leastPlaceOf 39 = .ok (.getfield 48, 3) := by decide +kernel
theorem dX2_leastPlaceOf_42 : decode cX2_leastPlaceOf 42 = .ok (.if_icmp .ge 30, 3) := by decide +kernel
theorem dX2_leastPlaceOf_45 : decode cX2_leastPlaceOf 45 = .ok (.aload_n 0, 1) := by decide +kernel
theorem dX2_leastPlaceOf_46 : decode cX2_leastPlaceOf 46 = .ok (.getfield 41, 3) := by decide +kernel
theorem dX2_leastPlaceOf_49 : decode cX2_leastPlaceOf 49 = .ok (.iload_n 2, 1) := by decide +kernel
theorem dX2_leastPlaceOf_50 : decode cX2_leastPlaceOf 50 = .ok (.iaload, 1) := by decide +kernel
theorem dX2_leastPlaceOf_51 : decode cX2_leastPlaceOf 51 = .ok (.iload_n 1, 1) := by decide +kernel
theorem dX2_leastPlaceOf_52 : decode cX2_leastPlaceOf 52 = .ok (.if_icmp .ne 20, 3) := by decide +kernel
theorem dX2_leastPlaceOf_55 : decode cX2_leastPlaceOf 55 = .ok (.iload_n 3, 1) := by decide +kernel
theorem dX2_leastPlaceOf_56 : decode cX2_leastPlaceOf 56 = .ok (.aload_n 0, 1) := by decide +kernel
theorem dX2_leastPlaceOf_57 : decode cX2_leastPlaceOf 57 = .ok (.getfield 34, 3) := by decide +kernel
theorem dX2_leastPlaceOf_60 : decode cX2_leastPlaceOf 60 = .ok (.iload_n 2, 1) := by decide +kernel
theorem dX2_leastPlaceOf_61 : decode cX2_leastPlaceOf 61 = .ok (.iaload, 1) := by decide +kernel
theorem dX2_leastPlaceOf_62 : decode cX2_leastPlaceOf 62 = .ok (.invokestatic 109, 3) := by decide +kernel
theorem dX2_leastPlaceOf_65 : decode cX2_leastPlaceOf 65 = .ok (.istore_n 3, 1) := by decide +kernel
theorem dX2_leastPlaceOf_66 : decode cX2_leastPlaceOf 66 = .ok (.iinc 2 1, 3) := by decide +kernel
theorem dX2_leastPlaceOf_69 : decode cX2_leastPlaceOf 69 = .ok (.goto (-32), 3) := by decide +kernel
theorem dX2_leastPlaceOf_72 : decode cX2_leastPlaceOf 72 = .ok (.iload_n 3, 1) := by decide +kernel
theorem dX2_leastPlaceOf_73 : decode cX2_leastPlaceOf 73 = .ok (.ireturn, 1) := by decide +kernel
theorem dX3_init_0 : decode cX3_init 0 = .ok (.aload_n 0, 1) := by decide +kernel
theorem dX3_init_1 : decode cX3_init 1 = .ok (.invokespecial 1, 3) := by decide +kernel
theorem dX3_init_4 : decode cX3_init 4 = .ok (.aload_n 0, 1) := by decide +kernel
theorem dX3_init_5 : decode cX3_init 5 = .ok (.sipush 1000, 3) := by decide +kernel
theorem dX3_init_8 : decode cX3_init 8 = .ok (.newarray .int, 2) := by decide +kernel
theorem dX3_init_10 : decode cX3_init 10 = .ok (.putfield 7, 3) := by decide +kernel
theorem dX3_init_13 : decode cX3_init 13 = .ok (.aload_n 0, 1) := by decide +kernel
theorem dX3_init_14 : decode cX3_init 14 = .ok (.sipush 1000, 3) := by decide +kernel
theorem dX3_init_17 : decode cX3_init 17 = .ok (.newarray .int, 2) := by decide +kernel
theorem dX3_init_19 : decode cX3_init 19 = .ok (.putfield 13, 3) := by decide +kernel
theorem dX3_init_22 : decode cX3_init 22 = .ok (.aload_n 0, 1) := by decide +kernel
theorem dX3_init_23 : decode cX3_init 23 = .ok (.sipush 1000, 3) := by decide +kernel
theorem dX3_init_26 : decode cX3_init 26 = .ok (.newarray .int, 2) := by decide +kernel
theorem dX3_init_28 : decode cX3_init 28 = .ok (.putfield 16, 3) := by decide +kernel
theorem dX3_init_31 : decode cX3_init 31 = .ok (.aload_n 0, 1) := by decide +kernel
theorem dX3_init_32 : decode cX3_init 32 = .ok (.bipush 64, 2) := by decide +kernel
theorem dX3_init_34 : decode cX3_init 34 = .ok (.newarray .int, 2) := by decide +kernel
theorem dX3_init_36 : decode cX3_init 36 = .ok (.putfield 19, 3) := by decide +kernel
theorem dX3_init_39 : decode cX3_init 39 = .ok (.aload_n 0, 1) := by decide +kernel
theorem dX3_init_40 : decode cX3_init 40 = .ok (.iload_n 1, 1) := by decide +kernel
theorem dX3_init_41 : decode cX3_init 41 = .ok (.iconst 1, 1) := by decide +kernel
theorem dX3_init_42 : decode cX3_init 42 = .ok (.if_icmp .ge 7, 3) := by decide +kernel
theorem dX3_init_45 : decode cX3_init 45 = .ok (.iconst 1, 1) := by decide +kernel
theorem dX3_init_46 : decode cX3_init 46 = .ok (.goto 17, 3) := by decide +kernel
theorem dX3_init_49 : decode cX3_init 49 = .ok (.iload_n 1, 1) := by decide +kernel
theorem dX3_init_50 : decode cX3_init 50 = .ok (.sipush 1000, 3) := by decide +kernel
theorem dX3_init_53 : decode cX3_init 53 = .ok (.if_icmp .le 9, 3) := by decide +kernel
theorem dX3_init_56 : decode cX3_init 56 = .ok (.sipush 1000, 3) := by decide +kernel
theorem dX3_init_59 : decode cX3_init 59 = .ok (.goto 4, 3) := by decide +kernel
theorem dX3_init_62 : decode cX3_init 62 = .ok (.iload_n 1, 1) := by decide +kernel
theorem dX3_init_63 : decode cX3_init 63 = .ok (.putfield 22, 3) := by decide +kernel
theorem dX3_init_66 : decode cX3_init 66 = .ok (.aload_n 0, 1) := by decide +kernel
theorem dX3_init_67 : decode cX3_init 67 = .ok (.iload_n 2, 1) := by decide +kernel
theorem dX3_init_68 : decode cX3_init 68 = .ok (.iconst 1, 1) := by decide +kernel
theorem dX3_init_69 : decode cX3_init 69 = .ok (.if_icmp .ge 7, 3) := by decide +kernel
theorem dX3_init_72 : decode cX3_init 72 = .ok (.iconst 1, 1) := by decide +kernel
theorem dX3_init_73 : decode cX3_init 73 = .ok (.goto 17, 3) := by decide +kernel
theorem dX3_init_76 : decode cX3_init 76 = .ok (.iload_n 2, 1) := by decide +kernel
theorem dX3_init_77 : decode cX3_init 77 = .ok (.sipush 256, 3) := by decide +kernel
theorem dX3_init_80 : decode cX3_init 80 = .ok (.if_icmp .le 9, 3) := by decide +kernel
theorem dX3_init_83 : decode cX3_init 83 = .ok (.sipush 256, 3) := by decide +kernel
theorem dX3_init_86 : decode cX3_init 86 = .ok (.goto 4, 3) := by decide +kernel
theorem dX3_init_89 : decode cX3_init 89 = .ok (.iload_n 2, 1) := by decide +kernel
theorem dX3_init_90 : decode cX3_init 90 = .ok (.putfield 26, 3) := by decide +kernel
theorem dX3_init_93 : decode cX3_init 93 = .ok (.aload_n 0, 1) := by decide +kernel
theorem dX3_init_94 : decode cX3_init 94 = .ok (.iload_n 3, 1) := by decide +kernel
theorem dX3_init_95 : decode cX3_init 95 = .ok (.iconst 1, 1) := by decide +kernel
theorem dX3_init_96 : decode cX3_init 96 = .ok (.if_icmp .ge 7, 3) := by decide +kernel
theorem dX3_init_99 : decode cX3_init 99 = .ok (.iconst 1, 1) := by decide +kernel
theorem dX3_init_100 : decode cX3_init 100 = .ok (.goto 15, 3) := by decide +kernel
theorem dX3_init_103 : decode cX3_init 103 = .ok (.iload_n 3, 1) := by decide +kernel
theorem dX3_init_104 : decode cX3_init 104 = .ok (.bipush 64, 2) := by decide +kernel
theorem dX3_init_106 : decode cX3_init 106 = .ok (.if_icmp .le 8, 3) := by decide +kernel
theorem dX3_init_109 : decode cX3_init 109 = .ok (.bipush 64, 2) := by decide +kernel
theorem dX3_init_111 : decode cX3_init 111 = .ok (.goto 4, 3) := by decide +kernel
theorem dX3_init_114 : decode cX3_init 114 = .ok (.iload_n 3, 1) := by decide +kernel
theorem dX3_init_115 : decode cX3_init 115 = .ok (.putfield 29, 3) := by decide +kernel
theorem dX3_init_118 : decode cX3_init 118 = .ok (.return_, 1) := by decide +kernel
theorem dX3_feed_0 : decode cX3_feed 0 = .ok (.iload_n 1, 1) := by decide +kernel
theorem dX3_feed_1 : decode cX3_feed 1 = .ok (.ifCond .lt 22, 3) := by decide +kernel
theorem dX3_feed_4 : decode cX3_feed 4 = .ok (.iload_n 1, 1) := by decide +kernel
theorem dX3_feed_5 : decode cX3_feed 5 = .ok (.aload_n 0, 1) := by decide +kernel
theorem dX3_feed_6 : decode cX3_feed 6 = .ok (.getfield 26, 3) := by decide +kernel
theorem dX3_feed_9 : decode cX3_feed 9 = .ok (.if_icmp .ge 14, 3) := by decide +kernel
theorem dX3_feed_12 : decode cX3_feed 12 = .ok (.aload_n 0, 1) := by decide +kernel
theorem dX3_feed_13 : decode cX3_feed 13 = .ok (.getfield 32, 3) := by decide +kernel
theorem dX3_feed_16 : decode cX3_feed 16 = .ok (.aload_n 0, 1) := by decide +kernel
theorem dX3_feed_17 : decode cX3_feed 17 = .ok (.getfield 22, 3) := by decide +kernel
theorem dX3_feed_20 : decode cX3_feed 20 = .ok (.if_icmp .ne 5, 3) := by decide +kernel
theorem dX3_feed_23 : decode cX3_feed 23 = .ok (.iconst 0, 1) := by decide +kernel
theorem dX3_feed_24 : decode cX3_feed 24 = .ok (.ireturn, 1) := by decide +kernel
theorem dX3_feed_25 : decode cX3_feed 25 = .ok (.aload_n 0, 1) := by decide +kernel
theorem dX3_feed_26 : decode cX3_feed 26 = .ok (.getfield 7, 3) := by decide +kernel
theorem dX3_feed_29 : decode cX3_feed 29 = .ok (.aload_n 0, 1) := by decide +kernel
theorem dX3_feed_30 : decode cX3_feed 30 = .ok (.getfield 32, 3) := by decide +kernel
theorem dX3_feed_33 : decode cX3_feed 33 = .ok (.iload_n 1, 1) := by decide +kernel
theorem dX3_feed_34 : decode cX3_feed 34 = .ok (.iastore, 1) := by decide +kernel
theorem dX3_feed_35 : decode cX3_feed 35 = .ok (.aload_n 0, 1) := by decide +kernel
theorem dX3_feed_36 : decode cX3_feed 36 = .ok (.dup, 1) := by decide +kernel
theorem dX3_feed_37 : decode cX3_feed 37 = .ok (.getfield 32, 3) := by decide +kernel
theorem dX3_feed_40 : decode cX3_feed 40 = .ok (.iconst 1, 1) := by decide +kernel
theorem dX3_feed_41 : decode cX3_feed 41 = .ok (.iadd, 1) := by decide +kernel
theorem dX3_feed_42 : decode cX3_feed 42 = .ok (.putfield 32, 3) := by decide +kernel
theorem dX3_feed_45 : decode cX3_feed 45 = .ok (.aload_n 0, 1) := by decide +kernel
theorem dX3_feed_46 : decode cX3_feed 46 = .ok (.iconst 0, 1) := by decide +kernel
theorem dX3_feed_47 : decode cX3_feed 47 = .ok (.putfield 35, 3) := by decide +kernel
theorem dX3_feed_50 : decode cX3_feed 50 = .ok (.aload_n 0, 1) := by decide +kernel
theorem dX3_feed_51 : decode cX3_feed 51 = .ok (.iconst 0, 1) := by decide +kernel
theorem dX3_feed_52 : decode cX3_feed 52 = .ok (.putfield 39, 3) := by decide +kernel
theorem dX3_feed_55 : decode cX3_feed 55 = .ok (.iconst 1, 1) := by decide +kernel
theorem dX3_feed_56 : decode cX3_feed 56 = .ok (.ireturn, 1) := by decide +kernel
set_option maxRecDepth 20000 in
theorem ggX3_feedAll_X3_feed : GoodIn wsX3_feedAll wsX3_feed := goodIn_r _ [5, 6, 7, 8, 9, 10, 11, 12, 13, 14, 15, 16, 17, 18, 19, 20, 21, 22, 23, 24] (by decide +kernel) (by decide +kernel)
set_option maxRecDepth 20000 in
theorem gX3_feedAll_X3_feed : GoodIn wsX3_feedAll (wsV RX3 42 RX3 yX3_feed wsX3_feed) := goodIn_app (goodIn_of _ (by decide +kernel)) ggX3_feedAll_X3_feed
theorem dX3_feedAll_0 : decode cX3_feedAll 0 = .ok (.iconst 0, 1) := by decide +kernel
theorem dX3_feedAll_1 : decode cX3_feedAll 1 = .ok (.istore 6, 2) := by decide +kernel
theorem dX3_feedAll_3 : decode cX3_feedAll 3 = .ok (.iload 5, 2) := by decide +kernel
theorem dX3_feedAll_5 : decode cX3_feedAll 5 = .ok (.iconst 1, 1) := by decide +kernel
theorem dX3_feedAll_6 : decode cX3_feedAll 6 = .ok (.if_icmp .lt 14, 3) := by decide +kernel
theorem dX3_feedAll_9 : decode cX3_feedAll 9 = .ok (.iload 5, 2) := by decide +kernel
theorem dX3_feedAll_11 : decode cX3_feedAll 11 = .ok (.bipush 16, 2) := by decide +kernel
theorem dX3_feedAll_13 : decode cX3_feedAll 13 = .ok (.if_icmp .gt 7, 3) := by decide +kernel
theorem dX3_feedAll_16 : decode cX3_feedAll 16 = .ok (.iconst 1, 1) := by decide +kernel
theorem dX3_feedAll_17 : decode cX3_feedAll 17 = .ok (.goto 4, 3) := by decide +kernel
theorem dX3_feedAll_20 : decode cX3_feedAll 20 = .ok (.iconst 0, 1) := by decide +kernel
theorem dX3_feedAll_21 : decode cX3_feedAll 21 = .ok (.istore 7, 2) := by decide +kernel
theorem dX3_feedAll_23 : decode cX3_feedAll 23 = .ok (.iconst 0, 1) := by decide +kernel
theorem dX3_feedAll_24 : decode cX3_feedAll 24 = .ok (.istore 8, 2) := by decide +kernel
theorem dX3_feedAll_26 : decode cX3_feedAll 26 = .ok (.iload 8, 2) := by decide +kernel
theorem dX3_feedAll_28 : decode cX3_feedAll 28 = .ok (.iload 5, 2) := by decide +kernel
theorem dX3_feedAll_30 : decode cX3_feedAll 30 = .ok (.if_icmp .ge 89, 3) := by decide +kernel
theorem dX3_feedAll_33 : decode cX3_feedAll 33 = .ok (.iload 7, 2) := by decide +kernel
theorem dX3_feedAll_35 : decode cX3_feedAll 35 = .ok (.ifCond .eq 84, 3) := by decide +kernel
theorem dX3_feedAll_38 : decode cX3_feedAll 38 = .ok (.iload 8, 2) := by decide +kernel
theorem dX3_feedAll_40 : decode cX3_feedAll 40 = .ok (.iconst 4, 1) := by decide +kernel
theorem dX3_feedAll_41 : decode cX3_feedAll 41 = .ok (.if_icmp .ge 7, 3) := by decide +kernel
theorem dX3_feedAll_44 : decode cX3_feedAll 44 = .ok (.iload_n 1, 1) := by decide +kernel
theorem dX3_feedAll_45 : decode cX3_feedAll 45 = .ok (.goto 27, 3) := by decide +kernel
theorem dX3_feedAll_48 : decode cX3_feedAll 48 = .ok (.iload 8, 2) := by decide +kernel
theorem dX3_feedAll_50 : decode cX3_feedAll 50 = .ok (.bipush 8, 2) := by decide +kernel
theorem dX3_feedAll_52 : decode cX3_feedAll 52 = .ok (.if_icmp .ge 7, 3) := by decide +kernel
theorem dX3_feedAll_55 : decode cX3_feedAll 55 = .ok (.iload_n 2, 1) := by decide +kernel
theorem dX3_feedAll_56 : decode cX3_feedAll 56 = .ok (.goto 16, 3) := by decide +kernel
theorem dX3_feedAll_59 : decode cX3_feedAll 59 = .ok (.iload 8, 2) := by decide +kernel
theorem dX3_feedAll_61 : decode cX3_feedAll 61 = .ok (.bipush 12, 2) := by decide +kernel
theorem dX3_feedAll_63 : decode cX3_feedAll 63 = .ok (.if_icmp .ge 7, 3) := by decide +kernel
theorem dX3_feedAll_66 : decode cX3_feedAll 66 = .ok (.iload_n 3, 1) := by decide +kernel
theorem dX3_feedAll_67 : decode cX3_feedAll 67 = .ok (.goto 5, 3) := by decide +kernel
theorem dX3_feedAll_70 : decode cX3_feedAll 70 = .ok (.iload 4, 2) := by decide +kernel
theorem dX3_feedAll_72 : decode cX3_feedAll 72 = .ok (.istore 9, 2) := by decide +kernel
theorem dX3_feedAll_74 : decode cX3_feedAll 74 = .ok (.aload_n 0, 1) := by decide +kernel
theorem dX3_feedAll_75 : decode cX3_feedAll 75 = .ok (.iload 9, 2) := by decide +kernel
theorem dX3_feedAll_77 : decode cX3_feedAll 77 = .ok (.bipush 24, 2) := by decide +kernel
theorem dX3_feedAll_79 : decode cX3_feedAll 79 = .ok (.bipush 8, 2) := by decide +kernel
theorem dX3_feedAll_81 : decode cX3_feedAll 81 = .ok (.iload 8, 2) := by decide +kernel
theorem dX3_feedAll_83 : decode cX3_feedAll 83 = .ok (.iconst 4, 1) := by decide +kernel
theorem dX3_feedAll_84 : decode cX3_feedAll 84 = .ok (.irem, 1) := by decide +kernel
theorem dX3_feedAll_85 : decode cX3_feedAll 85 = .ok (.imul, 1) := by decide +kernel
theorem dX3_feedAll_86 : decode cX3_feedAll 86 = .ok (.isub, 1) := by decide +kernel
theorem dX3_feedAll_87 : decode cX3_feedAll 87 = .ok (.ishr, 1) := by decide +kernel
theorem dX3_feedAll_88 : decode cX3_feedAll 88 = .ok (.sipush 255, 3) := by decide +kernel
theorem dX3_feedAll_91 : decode cX3_feedAll 91 = .ok (.iand, 1) := by decide +kernel
theorem dX3_feedAll_92 : decode cX3_feedAll 92 = .ok (.invokevirtual 42, 3) := by decide +kernel
theorem dX3_feedAll_95 : decode cX3_feedAll 95 = .ok (.istore 7, 2) := by decide +kernel
theorem dX3_feedAll_97 : decode cX3_feedAll 97 = .ok (.iload 7, 2) := by decide +kernel
theorem dX3_feedAll_99 : decode cX3_feedAll 99 = .ok (.ifCond .eq 10, 3) := by decide +kernel
theorem dX3_feedAll_102 : decode cX3_feedAll 102 = .ok (.iload 6, 2) := by decide +kernel
theorem dX3_feedAll_104 : decode cX3_feedAll 104 = .ok (.iconst 1, 1) := by decide +kernel
theorem dX3_feedAll_105 : decode cX3_feedAll 105 = .ok (.iadd, 1) := by decide +kernel
theorem dX3_feedAll_106 : decode cX3_feedAll 106 = .ok (.goto 5, 3) := by decide +kernel
theorem dX3_feedAll_109 : decode cX3_feedAll 109 = .ok (.iload 6, 2) := by decide +kernel
theorem dX3_feedAll_111 : decode cX3_feedAll 111 = .ok (.istore 6, 2) := by decide +kernel
theorem dX3_feedAll_113 : decode cX3_feedAll 113 = .ok (.iinc 8 1, 3) := by decide +kernel
theorem dX3_feedAll_116 : decode cX3_feedAll 116 = .ok (.goto (-90), 3) := by decide +kernel
theorem dX3_feedAll_119 : decode cX3_feedAll 119 = .ok (.iload 6, 2) := by decide +kernel
theorem dX3_feedAll_121 : decode cX3_feedAll 121 = .ok (.ireturn, 1) := by decide +kernel
theorem dX3_commonOf_0 : decode cX3_commonOf 0 = .ok (.iconst 0, 1) := by decide +kernel
theorem dX3_commonOf_1 : decode cX3_commonOf 1 = .ok (.istore_n 3, 1) := by decide +kernel
theorem dX3_commonOf_2 : decode cX3_commonOf 2 = .ok (.iload_n 1, 1) := by decide +kernel
theorem dX3_commonOf_3 : decode cX3_commonOf 3 = .ok (.iload_n 3, 1) := by decide +kernel
theorem dX3_commonOf_4 : decode cX3_commonOf 4 = .ok (.iadd, 1) := by decide +kernel
theorem dX3_commonOf_5 : decode cX3_commonOf 5 = .ok (.aload_n 0, 1) := by decide +kernel
theorem dX3_commonOf_6 : decode cX3_commonOf 6 = .ok (.getfield 32, 3) := by decide +kernel
theorem dX3_commonOf_9 : decode cX3_commonOf 9 = .ok (.if_icmp .ge 38, 3) := by decide +kernel
theorem dX3_commonOf_12 : decode cX3_commonOf 12 = .ok (.iload_n 2, 1) := by decide +kernel
theorem dX3_commonOf_13 : decode cX3_commonOf 13 = .ok (.iload_n 3, 1) := by decide +kernel
theorem dX3_commonOf_14 : decode cX3_commonOf 14 = .ok (.iadd, 1) := by decide +kernel
theorem dX3_commonOf_15 : decode cX3_commonOf 15 = .ok (.aload_n 0, 1) := by decide +kernel
theorem dX3_commonOf_16 : decode cX3_commonOf 16 = .ok (.getfield 32, 3) := by decide +kernel
theorem dX3_commonOf_19 : decode cX3_commonOf 19 = .ok (.if_icmp .ge 28, 3) := by decide +kernel
theorem dX3_commonOf_22 : decode cX3_commonOf 22 = .ok (.aload_n 0, 1) := by decide +kernel
theorem dX3_commonOf_23 : decode cX3_commonOf 23 = .ok (.getfield 7, 3) := by decide +kernel
theorem dX3_commonOf_26 : decode cX3_commonOf 26 = .ok (.iload_n 1, 1) := by decide +kernel
theorem dX3_commonOf_27 : decode cX3_commonOf 27 = .ok (.iload_n 3, 1) := by decide +kernel
theorem dX3_commonOf_28 : decode cX3_commonOf 28 = .ok (.iadd, 1) := by decide +kernel
theorem dX3_commonOf_29 : decode cX3_commonOf 29 = .ok (.iaload, 1) := by decide +kernel
theorem dX3_commonOf_30 : decode cX3_commonOf 30 = .ok (.aload_n 0, 1) := by decide +kernel
theorem dX3_commonOf_31 : decode cX3_commonOf 31 = .ok (.getfield 7, 3) := by decide +kernel
theorem dX3_commonOf_34 : decode cX3_commonOf 34 = .ok (.iload_n 2, 1) := by decide +kernel
theorem dX3_commonOf_35 : decode cX3_commonOf 35 = .ok (.iload_n 3, 1) := by decide +kernel
theorem dX3_commonOf_36 : decode cX3_commonOf 36 = .ok (.iadd, 1) := by decide +kernel
theorem dX3_commonOf_37 : decode cX3_commonOf 37 = .ok (.iaload, 1) := by decide +kernel
theorem dX3_commonOf_38 : decode cX3_commonOf 38 = .ok (.if_icmp .ne 9, 3) := by decide +kernel
theorem dX3_commonOf_41 : decode cX3_commonOf 41 = .ok (.iinc 3 1, 3) := by decide +kernel
theorem dX3_commonOf_44 : decode cX3_commonOf 44 = .ok (.goto (-42), 3) := by decide +kernel
theorem dX3_commonOf_47 : decode cX3_commonOf 47 = .ok (.iload_n 3, 1) := by decide +kernel
theorem dX3_commonOf_48 : decode cX3_commonOf 48 = .ok (.ireturn, 1) := by decide +kernel
set_option maxRecDepth 20000 in
theorem ggX3_isBefore_X3_commonOf : GoodIn wsX3_isBefore wsX3_commonOf := goodIn_r _ [7, 1, 2, 8, 9, 10, 11, 12, 13, 14, 15, 16, 17, 18, 19, 20] (by decide +kernel) (by decide +kernel)
set_option maxRecDepth 20000 in
theorem gX3_isBefore_X3_commonOf : GoodIn wsX3_isBefore (wsV RX3 46 RX3 yX3_commonOf wsX3_commonOf) := goodIn_app (goodIn_of _ (by decide +kernel)) ggX3_isBefore_X3_commonOf
theorem dX3_isBefore_0 : decode cX3_isBefore 0 = .ok (.aload_n 0, 1) := by decide +kernel
theorem dX3_isBefore_1 : decode cX3_isBefore 1 = .ok (.iload_n 1, 1) := by decide +kernel
theorem dX3_isBefore_2 : decode cX3_isBefore 2 = .ok (.iload_n 2, 1) := by decide +kernel
theorem dX3_isBefore_3 : decode cX3_isBefore 3 = .ok (.invokevirtual 46, 3) := by decide +kernel
theorem dX3_isBefore_6 : decode cX3_isBefore 6 = .ok (.istore_n 3, 1) := by decide +kernel
theorem dX3_isBefore_7 : decode cX3_isBefore 7 = .ok (.iload_n 1, 1) := by decide +kernel
theorem dX3_isBefore_8 : decode cX3_isBefore 8 = .ok (.iload_n 3, 1) := by decide +kernel
theorem dX3_isBefore_9 : decode cX3_isBefore 9 = .ok (.iadd, 1) := by decide +kernel
theorem dX3_isBefore_10 : decode cX3_isBefore 10 = .ok (.aload_n 0, 1) := by decide +kernel
theorem dX3_isBefore_11 : decode cX3_isBefore 11 = .ok (.getfield 32, 3) := by decide +kernel
theorem dX3_isBefore_14 : decode cX3_isBefore 14 = .ok (.if_icmp .ne 21, 3) := by decide +kernel
theorem dX3_isBefore_17 : decode cX3_isBefore 17 = .ok (.iload_n 2, 1) := by decide +kernel
theorem dX3_isBefore_18 : decode cX3_isBefore 18 = .ok (.iload_n 3, 1) := by decide +kernel
theorem dX3_isBefore_19 : decode cX3_isBefore 19 = .ok (.iadd, 1) := by decide +kernel
theorem dX3_isBefore_20 : decode cX3_isBefore 20 = .ok (.aload_n 0, 1) := by decide +kernel
theorem dX3_isBefore_21 : decode cX3_isBefore 21 = .ok (.getfield 32, 3) := by decide +kernel
theorem dX3_isBefore_24 : decode cX3_isBefore 24 = .ok (.if_icmp .ge 7, 3) := by decide +kernel
theorem dX3_isBefore_27 : decode cX3_isBefore 27 = .ok (.iconst 1, 1) := by decide +kernel
theorem dX3_isBefore_28 : decode cX3_isBefore 28 = .ok (.goto 41, 3) := by decide +kernel
theorem dX3_isBefore_31 : decode cX3_isBefore 31 = .ok (.iconst 0, 1) := by decide +kernel
theorem dX3_isBefore_32 : decode cX3_isBefore 32 = .ok (.goto 37, 3) := by decide +kernel
theorem dX3_isBefore_35 : decode cX3_isBefore 35 = .ok (.iload_n 2, 1) := by decide +kernel
theorem dX3_isBefore_36 : decode cX3_isBefore 36 = .ok (.iload_n 3, 1) := by decide +kernel
theorem dX3_isBefore_37 : decode cX3_isBefore 37 = .ok (.iadd, 1) := by decide +kernel
theorem dX3_isBefore_38 : decode cX3_isBefore 38 = .ok (.aload_n 0, 1) := by decide +kernel
theorem dX3_isBefore_39 : decode cX3_isBefore 39 = .ok (.getfield 32, 3) := by decide +kernel
theorem dX3_isBefore_42 : decode cX3_isBefore 42 = .ok (.if_icmp .ge 26, 3) := by decide +kernel
theorem dX3_isBefore_45 : decode cX3_isBefore 45 = .ok (.aload_n 0, 1) := by decide +kernel
theorem dX3_isBefore_46 : decode cX3_isBefore 46 = .ok (.getfield 7, 3) := by decide +kernel
theorem dX3_isBefore_49 : decode cX3_isBefore 49 = .ok (.iload_n 1, 1) := by decide +kernel
theorem dX3_isBefore_50 : decode cX3_isBefore 50 = .ok (.iload_n 3, 1) := by decide +kernel
theorem dX3_isBefore_51 : decode cX3_isBefore 51 = .ok (.iadd, 1) := by decide +kernel
theorem dX3_isBefore_52 : decode cX3_isBefore 52 = .ok (.iaload, 1) := by decide +kernel
theorem dX3_isBefore_53 : decode cX3_isBefore 53 = .ok (.aload_n 0, 1) := by decide +kernel
theorem dX3_isBefore_54 : decode cX3_isBefore 54 = .ok (.getfield 7, 3) := by decide +kernel
theorem dX3_isBefore_57 : decode cX3_isBefore 57 = .ok (.iload_n 2, 1) := by decide +kernel
theorem dX3_isBefore_58 : decode cX3_isBefore 58 = .ok (.iload_n 3, 1) := by decide +kernel
theorem dX3_isBefore_59 : decode cX3_isBefore 59 = .ok (.iadd, 1) := by decide +kernel
theorem dX3_isBefore_60 : decode cX3_isBefore 60 = .ok (.iaload, 1) := by decide +kernel
theorem dX3_isBefore_61 : decode cX3_isBefore 61 = .ok (.if_icmp .ge 7, 3) := by decide +kernel
theorem dX3_isBefore_64 : decode cX3_isBefore 64 = .ok (.iconst 1, 1) := by decide +kernel
theorem dX3_isBefore_65 : decode cX3_isBefore 65 = .ok (.goto 4, 3) := by decide +kernel
theorem dX3_isBefore_68 : decode cX3_isBefore 68 = .ok (.iconst 0, 1) := by decide +kernel
theorem dX3_isBefore_69 : decode cX3_isBefore 69 = .ok (.ireturn, 1) := by decide +kernel
set_option maxRecDepth 20000 in
theorem ggX3_build_X3_isBefore : GoodIn wsX3_build wsX3_isBefore := goodIn_r _ [9, 2, 10, 11, 12, 13, 8, 14, 15, 16, 17, 18, 19, 20, 21, 22, 23, 24, 25, 26, 27] (by decide +kernel) (by decide +kernel)
set_option maxRecDepth 20000 in
theorem gX3_build_X3_isBefore : GoodIn wsX3_build (wsV RX3 50 RX3 yX3_isBefore wsX3_isBefore) := goodIn_app (goodIn_of _ (by decide +kernel)) ggX3_build_X3_isBefore
theorem dX3_build_0 : decode cX3_build 0 = .ok (.aload_n 0, 1) := by decide +kernel
theorem dX3_build_1 : decode cX3_build 1 = .ok (.getfield 35, 3) := by decide +kernel
theorem dX3_build_4 : decode cX3_build 4 = .ok (.ifCond .eq 8, 3) := by decide +kernel
theorem dX3_build_7 : decode cX3_build 7 = .ok (.aload_n 0, 1) := by decide +kernel
theorem dX3_build_8 : decode cX3_build 8 = .ok (.getfield 32, 3) := by decide +kernel
theorem dX3_build_11 : decode cX3_build 11 = .ok (.ireturn, 1) := by decide +kernel
theorem dX3_build_12 : decode cX3_build 12 = .ok (.iconst 0, 1) := by decide +kernel
theorem dX3_build_13 : decode cX3_build 13 = .ok (.istore_n 1, 1) := by decide +kernel
theorem dX3_build_14 : decode cX3_build 14 = .ok (.iload_n 1, 1) := by decide +kernel
theorem dX3_build_15 : decode cX3_build 15 = .ok (.aload_n 0, 1) := by decide +kernel
theorem dX3_build_16 : decode cX3_build 16 = .ok (.getfield 32, 3) := by decide +kernel
theorem dX3_build_19 : decode cX3_build 19 = .ok (.if_icmp .ge 16, 3) := by decide +kernel
theorem dX3_build_22 : decode cX3_build 22 = .ok (.aload_n 0, 1) := by decide +kernel
theorem dX3_build_23 : decode cX3_build 23 = .ok (.getfield 13, 3) := by decide +kernel
theorem dX3_build_26 : decode cX3_build 26 = .ok (.iload_n 1, 1) := by decide +kernel
theorem dX3_build_27 : decode cX3_build 27 = .ok (.iload_n 1, 1) := by decide +kernel
theorem dX3_build_28 : decode cX3_build 28 = .ok (.iastore, 1) := by decide +kernel
theorem dX3_build_29 : decode cX3_build 29 = .ok (.iinc 1 1, 3) := by decide +kernel
theorem dX3_build_32 : decode cX3_build 32 = .ok (.goto (-18), 3) := by decide +kernel
theorem dX3_build_35 : decode cX3_build 35 = .ok (.iconst 1, 1) := by decide +kernel
theorem dX3_build_36 : decode cX3_build 36 = .ok (.istore_n 1, 1) := by decide +kernel
theorem dX3_build_37 : decode cX3_build 37 = .ok (.iload_n 1, 1) := by decide +kernel
theorem dX3_build_38 : decode cX3_build 38 = .ok (.aload_n 0, 1) := by decide +kernel
theorem dX3_build_39 : decode cX3_build 39 = .ok (.getfield 32, 3) := by decide +kernel
theorem dX3_build_42 : decode cX3_build 42 = .ok (.if_icmp .ge 228, 3) := by decide +kernel
theorem dX3_build_45 : decode cX3_build 45 = .ok (.iconst 0, 1) := by decide +kernel
theorem dX3_build_46 : decode cX3_build 46 = .ok (.istore_n 2, 1) := by decide +kernel
theorem dX3_build_47 : decode cX3_build 47 = .ok (.iload_n 2, 1) := by decide +kernel
theorem dX3_build_48 : decode cX3_build 48 = .ok (.aload_n 0, 1) := by decide +kernel
theorem dX3_build_49 : decode cX3_build 49 = .ok (.getfield 32, 3) := by decide +kernel
theorem dX3_build_52 : decode cX3_build 52 = .ok (.if_icmp .ge 183, 3) := by decide +kernel
theorem dX3_build_55 : decode cX3_build 55 = .ok (.iload_n 2, 1) := by decide +kernel
theorem dX3_build_56 : decode cX3_build 56 = .ok (.iload_n 1, 1) := by decide +kernel
theorem dX3_build_57 : decode cX3_build 57 = .ok (.iadd, 1) := by decide +kernel
theorem dX3_build_58 : decode cX3_build 58 = .ok (.aload_n 0, 1) := by decide +kernel
theorem dX3_build_59 : decode cX3_build 59 = .ok (.getfield 32, 3) := by decide +kernel
theorem dX3_build_62 : decode cX3_build 62 = .ok (.if_icmp .ge 9, 3) := by decide +kernel
theorem dX3_build_65 : decode cX3_build 65 = .ok (.iload_n 2, 1) := by decide +kernel
theorem dX3_build_66 : decode cX3_build 66 = .ok (.iload_n 1, 1) := by decide +kernel
theorem dX3_build_67 : decode cX3_build 67 = .ok (.iadd, 1) := by decide +kernel
theorem dX3_build_68 : decode cX3_build 68 = .ok (.goto 7, 3) := by decide +kernel
theorem dX3_build_71 : decode cX3_build 71 = .ok (.aload_n 0, 1) := by decide +kernel
theorem dX3_build_72 : decode cX3_build 72 = .ok (.getfield 32, 3) := by decide +kernel
theorem dX3_build_75 : decode cX3_build 75 = .ok (.istore_n 3, 1) := by decide +kernel
theorem dX3_build_76 : decode cX3_build 76 = .ok (.iload_n 2, 1) := by decide +kernel
theorem dX3_build_77 : decode cX3_build 77 = .ok (.iconst 2, 1) := by decide +kernel
theorem dX3_build_78 : decode cX3_build 78 = .ok (.iload_n 1, 1) := by decide +kernel
theorem dX3_build_79 : decode cX3_build 79 = .ok (.imul, 1) := by decide +kernel
theorem dX3_build_80 : decode cX3_build 80 = .ok (.iadd, 1) := by decide +kernel
theorem dX3_build_81 : decode cX3_build 81 = .ok (.aload_n 0, 1) := by decide +kernel
theorem dX3_build_82 : decode cX3_build 82 = .ok (.getfield 32, 3) := by decide +kernel
theorem dX3_build_85 : decode cX3_build 85 = .ok (.if_icmp .ge 11, 3) := by decide +kernel
theorem dX3_build_88 : decode cX3_build 88 = .ok (.iload_n 2, 1) := by decide +kernel
theorem dX3_build_89 : decode cX3_build 89 = .ok (.iconst 2, 1) := by decide +kernel
theorem dX3_build_90 : decode cX3_build 90 = .ok (.iload_n 1, 1) := by decide +kernel
theorem dX3_build_91 : decode cX3_build 91 = .ok (.imul, 1) := by decide +kernel
theorem dX3_build_92 : decode cX3_build 92 = .ok (.iadd, 1) := by decide +kernel
theorem dX3_build_93 : decode cX3_build 93 = .ok (.goto 7, 3) := by decide +kernel
theorem dX3_build_96 : decode cX3_build 96 = .ok (.aload_n 0, 1) := by decide +kernel
theorem dX3_build_97 : decode cX3_build 97 = .ok (.getfield 32, 3) := by decide +kernel
theorem dX3_build_100 : decode cX3_build 100 = .ok (.istore 4, 2) := by decide +kernel
theorem dX3_build_102 : decode cX3_build 102 = .ok (.iload_n 2, 1) := by decide +kernel
theorem dX3_build_103 : decode cX3_build 103 = .ok (.istore 5, 2) := by decide +kernel
theorem dX3_build_105 : decode cX3_build 105 = .ok (.iload_n 3, 1) := by decide +kernel
theorem dX3_build_106 : decode cX3_build 106 = .ok (.istore 6, 2) := by decide +kernel
theorem dX3_build_108 : decode cX3_build 108 = .ok (.iload_n 2, 1) := by decide +kernel
theorem dX3_build_109 : decode cX3_build 109 = .ok (.istore 7, 2) := by decide +kernel
theorem dX3_build_111 : decode cX3_build 111 = .ok (.iload 7, 2) := by decide +kernel
theorem dX3_build_113 : decode cX3_build 113 = .ok (.iload 4, 2) := by decide +kernel
theorem dX3_build_115 : decode cX3_build 115 = .ok (.if_icmp .ge 111, 3) := by decide +kernel
theorem dX3_build_118 : decode cX3_build 118 = .ok (.iload 6, 2) := by decide +kernel
theorem dX3_build_120 : decode cX3_build 120 = .ok (.iload 4, 2) := by decide +kernel
theorem dX3_build_122 : decode cX3_build 122 = .ok (.if_icmp .eq 30, 3) := by decide +kernel
theorem dX3_build_125 : decode cX3_build 125 = .ok (.iload 5, 2) := by decide +kernel
theorem dX3_build_127 : decode cX3_build 127 = .ok (.iload_n 3, 1) := by decide +kernel
theorem dX3_build_128 : decode cX3_build 128 = .ok (.if_icmp .ge 28, 3) := by decide +kernel
theorem dX3_build_131 : decode cX3_build 131 = .ok (.aload_n 0, 1) := by decide +kernel
theorem dX3_build_132 : decode cX3_build 132 = .ok (.aload_n 0, 1) := by decide +kernel
theorem dX3_build_133 : decode cX3_build 133 = .ok (.getfield 13, 3) := by decide +kernel
theorem dX3_build_136 : decode cX3_build 136 = .ok (.iload 5, 2) := by decide +kernel
theorem dX3_build_138 : decode cX3_build 138 = .ok (.iaload, 1) := by decide +kernel
theorem dX3_build_139 : decode cX3_build 139 = .ok (.aload_n 0, 1) := by decide +kernel
theorem dX3_build_140 : decode cX3_build 140 = .ok (.getfield 13, 3) := by decide +kernel
end
section
theorem dX3_build_143 : decode cX3_build 143 = .ok (.iload 6, 2) := by decide +kernel
theorem dX3_build_145 : decode cX3_build 145 = .ok (.iaload, 1) := by decide +kernel
theorem dX3_build_146 : decode cX3_build 146 = .ok (.invokevirtual 50, 3) := by decide +kernel
theorem dX3_build_149 : decode cX3_build 149 = .ok (.ifCond .eq 7, 3) := by decide +kernel
theorem dX3_build_152 : decode cX3_build 152 = .ok (.iconst 1, 1) := by decide +kernel
theorem dX3_build_153 : decode cX3_build 153 = .ok (.goto 4, 3) := by decide +kernel
theorem dX3_build_156 : decode cX3_build 156 = .ok (.iconst 0, 1) := by decide +kernel
theorem dX3_build_157 : decode cX3_build 157 = .ok (.istore 8, 2) := by decide +kernel
theorem dX3_build_159 : decode cX3_build 159 = .ok (.aload_n 0, 1) := by decide +kernel
theorem dX3_build_160 : decode cX3_build 160 = .ok (.getfield 16, 3) := by decide +kernel
theorem dX3_build_163 : decode cX3_build 163 = .ok (.iload 7, 2) := by decide +kernel
theorem dX3_build_165 : decode cX3_build 165 = .ok (.iload 8, 2) := by decide +kernel
theorem dX3_build_167 : decode cX3_build 167 = .ok (.ifCond .eq 13, 3) := by decide +kernel
theorem dX3_build_170 : decode cX3_build 170 = .ok (.aload_n 0, 1) := by decide +kernel
theorem dX3_build_171 : decode cX3_build 171 = .ok (.getfield 13, 3) := by decide +kernel
theorem dX3_build_174 : decode cX3_build 174 = .ok (.iload 5, 2) := by decide +kernel
theorem dX3_build_176 : decode cX3_build 176 = .ok (.iaload, 1) := by decide +kernel
theorem dX3_build_177 : decode cX3_build 177 = .ok (.goto 10, 3) := by decide +kernel
theorem dX3_build_180 : decode cX3_build 180 = .ok (.aload_n 0, 1) := by decide +kernel
theorem dX3_build_181 : decode cX3_build 181 = .ok (.getfield 13, 3) := by decide +kernel
theorem dX3_build_184 : decode cX3_build 184 = .ok (.iload 6, 2) := by decide +kernel
theorem dX3_build_186 : decode cX3_build 186 = .ok (.iaload, 1) := by decide +kernel
theorem dX3_build_187 : decode cX3_build 187 = .ok (.iastore, 1) := by decide +kernel
theorem dX3_build_188 : decode cX3_build 188 = .ok (.iload 8, 2) := by decide +kernel
theorem dX3_build_190 : decode cX3_build 190 = .ok (.ifCond .eq 10, 3) := by decide +kernel
theorem dX3_build_193 : decode cX3_build 193 = .ok (.iload 5, 2) := by decide +kernel
theorem dX3_build_195 : decode cX3_build 195 = .ok (.iconst 1, 1) := by decide +kernel
theorem dX3_build_196 : decode cX3_build 196 = .ok (.iadd, 1) := by decide +kernel
theorem dX3_build_197 : decode cX3_build 197 = .ok (.goto 5, 3) := by decide +kernel
theorem dX3_build_200 : decode cX3_build 200 = .ok (.iload 5, 2) := by decide +kernel
theorem dX3_build_202 : decode cX3_build 202 = .ok (.istore 5, 2) := by decide +kernel
theorem dX3_build_204 : decode cX3_build 204 = .ok (.iload 8, 2) := by decide +kernel
theorem dX3_build_206 : decode cX3_build 206 = .ok (.ifCond .eq 8, 3) := by decide +kernel
theorem dX3_build_209 : decode cX3_build 209 = .ok (.iload 6, 2) := by decide +kernel
theorem dX3_build_211 : decode cX3_build 211 = .ok (.goto 7, 3) := by decide +kernel
theorem dX3_build_214 : decode cX3_build 214 = .ok (.iload 6, 2) := by decide +kernel
theorem dX3_build_216 : decode cX3_build 216 = .ok (.iconst 1, 1) := by decide +kernel
theorem dX3_build_217 : decode cX3_build 217 = .ok (.iadd, 1) := by decide +kernel
theorem dX3_build_218 : decode cX3_build 218 = .ok (.istore 6, 2) := by decide +kernel
theorem dX3_build_220 : decode cX3_build 220 = .ok (.iinc 7 1, 3) := by decide +kernel
theorem dX3_build_223 : decode cX3_build 223 = .ok (.goto (-112), 3) := by decide +kernel
theorem dX3_build_226 : decode cX3_build 226 = .ok (.iload_n 2, 1) := by decide +kernel
theorem dX3_build_227 : decode cX3_build 227 = .ok (.iconst 2, 1) := by decide +kernel
theorem dX3_build_228 : decode cX3_build 228 = .ok (.iload_n 1, 1) := by decide +kernel
theorem dX3_build_229 : decode cX3_build 229 = .ok (.imul, 1) := by decide +kernel
theorem dX3_build_230 : decode cX3_build 230 = .ok (.iadd, 1) := by decide +kernel
theorem dX3_build_231 : decode cX3_build 231 = .ok (.istore_n 2, 1) := by decide +kernel
theorem dX3_build_232 : decode cX3_build 232 = .ok (.goto (-185), 3) := by decide +kernel
theorem dX3_build_235 : decode cX3_build 235 = .ok (.iconst 0, 1) := by decide +kernel
theorem dX3_build_236 : decode cX3_build 236 = .ok (.istore_n 2, 1) := by decide +kernel
theorem dX3_build_237 : decode cX3_build 237 = .ok (.iload_n 2, 1) := by decide +kernel
theorem dX3_build_238 : decode cX3_build 238 = .ok (.aload_n 0, 1) := by decide +kernel
theorem dX3_build_239 : decode cX3_build 239 = .ok (.getfield 32, 3) := by decide +kernel
theorem dX3_build_242 : decode cX3_build 242 = .ok (.if_icmp .ge 21, 3) := by decide +kernel
theorem dX3_build_245 : decode cX3_build 245 = .ok (.aload_n 0, 1) := by decide +kernel
theorem dX3_build_246 : decode cX3_build 246 = .ok (.getfield 13, 3) := by decide +kernel
theorem dX3_build_249 : decode cX3_build 249 = .ok (.iload_n 2, 1) := by decide +kernel
theorem dX3_build_250 : decode cX3_build 250 = .ok (.aload_n 0, 1) := by decide +kernel
theorem dX3_build_251 : decode cX3_build 251 = .ok (.getfield 16, 3) := by decide +kernel
theorem dX3_build_254 : decode cX3_build 254 = .ok (.iload_n 2, 1) := by decide +kernel
theorem dX3_build_255 : decode cX3_build 255 = .ok (.iaload, 1) := by decide +kernel
theorem dX3_build_256 : decode cX3_build 256 = .ok (.iastore, 1) := by decide +kernel
theorem dX3_build_257 : decode cX3_build 257 = .ok (.iinc 2 1, 3) := by decide +kernel
theorem dX3_build_260 : decode cX3_build 260 = .ok (.goto (-23), 3) := by decide +kernel
theorem dX3_build_263 : decode cX3_build 263 = .ok (.iconst 2, 1) := by decide +kernel
theorem dX3_build_264 : decode cX3_build 264 = .ok (.iload_n 1, 1) := by decide +kernel
theorem dX3_build_265 : decode cX3_build 265 = .ok (.imul, 1) := by decide +kernel
theorem dX3_build_266 : decode cX3_build 266 = .ok (.istore_n 1, 1) := by decide +kernel
theorem dX3_build_267 : decode cX3_build 267 = .ok (.goto (-230), 3) := by decide +kernel
theorem dX3_build_270 : decode cX3_build 270 = .ok (.aload_n 0, 1) := by decide +kernel
theorem dX3_build_271 : decode cX3_build 271 = .ok (.iconst 1, 1) := by decide +kernel
theorem dX3_build_272 : decode cX3_build 272 = .ok (.putfield 35, 3) := by decide +kernel
theorem dX3_build_275 : decode cX3_build 275 = .ok (.aload_n 0, 1) := by decide +kernel
theorem dX3_build_276 : decode cX3_build 276 = .ok (.getfield 32, 3) := by decide +kernel
theorem dX3_build_279 : decode cX3_build 279 = .ok (.ireturn, 1) := by decide +kernel
theorem dX3_isEnd_0 : decode cX3_isEnd 0 = .ok (.aload_n 0, 1) := by decide +kernel
theorem dX3_isEnd_1 : decode cX3_isEnd 1 = .ok (.getfield 35, 3) := by decide +kernel
theorem dX3_isEnd_4 : decode cX3_isEnd 4 = .ok (.ifCond .eq 19, 3) := by decide +kernel
theorem dX3_isEnd_7 : decode cX3_isEnd 7 = .ok (.iload_n 1, 1) := by decide +kernel
theorem dX3_isEnd_8 : decode cX3_isEnd 8 = .ok (.ifCond .lt 15, 3) := by decide +kernel
theorem dX3_isEnd_11 : decode cX3_isEnd 11 = .ok (.iload_n 1, 1) := by decide +kernel
theorem dX3_isEnd_12 : decode cX3_isEnd 12 = .ok (.aload_n 0, 1) := by decide +kernel
theorem dX3_isEnd_13 : decode cX3_isEnd 13 = .ok (.getfield 32, 3) := by decide +kernel
theorem dX3_isEnd_16 : decode cX3_isEnd 16 = .ok (.if_icmp .ge 7, 3) := by decide +kernel
theorem dX3_isEnd_19 : decode cX3_isEnd 19 = .ok (.iconst 1, 1) := by decide +kernel
theorem dX3_isEnd_20 : decode cX3_isEnd 20 = .ok (.goto 4, 3) := by decide +kernel
theorem dX3_isEnd_23 : decode cX3_isEnd 23 = .ok (.iconst 0, 1) := by decide +kernel
theorem dX3_isEnd_24 : decode cX3_isEnd 24 = .ok (.ireturn, 1) := by decide +kernel
set_option maxRecDepth 20000 in
theorem ggX3_sa_X3_isEnd : GoodIn wsX3_sa wsX3_isEnd := goodIn_r _ [6, 7, 8, 9, 10, 11, 12, 13, 14, 15, 16, 17, 18, 19, 20, 21] (by decide +kernel) (by decide +kernel)
set_option maxRecDepth 20000 in
theorem gX3_sa_X3_isEnd : GoodIn wsX3_sa (wsV RX3 54 RX3 yX3_isEnd wsX3_isEnd) := goodIn_app (goodIn_of _ (by decide +kernel)) ggX3_sa_X3_isEnd
theorem dX3_sa_0 : decode cX3_sa 0 = .ok (.aload_n 0, 1) := by decide +kernel
theorem dX3_sa_1 : decode cX3_sa 1 = .ok (.iload_n 1, 1) := by decide +kernel
theorem dX3_sa_2 : decode cX3_sa 2 = .ok (.invokevirtual 54, 3) := by decide +kernel
theorem dX3_sa_5 : decode cX3_sa 5 = .ok (.ifCond .eq 12, 3) := by decide +kernel
theorem dX3_sa_8 : decode cX3_sa 8 = .ok (.aload_n 0, 1) := by decide +kernel
theorem dX3_sa_9 : decode cX3_sa 9 = .ok (.getfield 13, 3) := by decide +kernel
theorem dX3_sa_12 : decode cX3_sa 12 = .ok (.iload_n 1, 1) := by decide +kernel
theorem dX3_sa_13 : decode cX3_sa 13 = .ok (.iaload, 1) := by decide +kernel
theorem dX3_sa_14 : decode cX3_sa 14 = .ok (.goto 4, 3) := by decide +kernel
theorem dX3_sa_17 : decode cX3_sa 17 = .ok (.iconst (-1), 1) := by decide +kernel
theorem dX3_sa_18 : decode cX3_sa 18 = .ok (.ireturn, 1) := by decide +kernel
set_option maxRecDepth 20000 in
theorem ggX3_lcp_X3_isEnd : GoodIn wsX3_lcp wsX3_isEnd := goodIn_r _ [6, 7, 8, 14, 15, 16, 17, 18, 19, 20, 21, 22, 23, 24, 25, 26] (by decide +kernel) (by decide +kernel)
set_option maxRecDepth 20000 in
theorem gX3_lcp_X3_isEnd : GoodIn wsX3_lcp (wsV RX3 54 RX3 yX3_isEnd wsX3_isEnd) := goodIn_app (goodIn_of _ (by decide +kernel)) ggX3_lcp_X3_isEnd
set_option maxRecDepth 20000 in
theorem ggX3_lcp_X3_commonOf : GoodIn wsX3_lcp wsX3_commonOf := goodIn_r _ [12, 8, 13, 14, 15, 16, 17, 18, 19, 20, 21, 22, 23, 24, 25, 26] (by decide +kernel) (by decide +kernel)
set_option maxRecDepth 20000 in
theorem gX3_lcp_X3_commonOf : GoodIn wsX3_lcp (wsV RX3 46 RX3 yX3_commonOf wsX3_commonOf) := goodIn_app (goodIn_of _ (by decide +kernel)) ggX3_lcp_X3_commonOf
theorem dX3_lcp_0 : decode cX3_lcp 0 = .ok (.aload_n 0, 1) := by decide +kernel
theorem dX3_lcp_1 : decode cX3_lcp 1 = .ok (.iload_n 1, 1) := by decide +kernel
theorem dX3_lcp_2 : decode cX3_lcp 2 = .ok (.invokevirtual 54, 3) := by decide +kernel
theorem dX3_lcp_5 : decode cX3_lcp 5 = .ok (.ifCond .eq 28, 3) := by decide +kernel
theorem dX3_lcp_8 : decode cX3_lcp 8 = .ok (.iload_n 1, 1) := by decide +kernel
theorem dX3_lcp_9 : decode cX3_lcp 9 = .ok (.ifCond .le 24, 3) := by decide +kernel
theorem dX3_lcp_12 : decode cX3_lcp 12 = .ok (.aload_n 0, 1) := by decide +kernel
theorem dX3_lcp_13 : decode cX3_lcp 13 = .ok (.aload_n 0, 1) := by decide +kernel
theorem dX3_lcp_14 : decode cX3_lcp 14 = .ok (.getfield 13, 3) := by decide +kernel
theorem dX3_lcp_17 : decode cX3_lcp 17 = .ok (.iload_n 1, 1) := by decide +kernel
theorem dX3_lcp_18 : decode cX3_lcp 18 = .ok (.iconst 1, 1) := by decide +kernel
theorem dX3_lcp_19 : decode cX3_lcp 19 = .ok (.isub, 1) := by decide +kernel
theorem dX3_lcp_20 : decode cX3_lcp 20 = .ok (.iaload, 1) := by decide +kernel
theorem dX3_lcp_21 : decode cX3_lcp 21 = .ok (.aload_n 0, 1) := by decide +kernel
theorem dX3_lcp_22 : decode cX3_lcp 22 = .ok (.getfield 13, 3) := by decide +kernel
theorem dX3_lcp_25 : decode cX3_lcp 25 = .ok (.iload_n 1, 1) := by decide +kernel
theorem dX3_lcp_26 : decode cX3_lcp 26 = .ok (.iaload, 1) := by decide +kernel
theorem dX3_lcp_27 : decode cX3_lcp 27 = .ok (.invokevirtual 46, 3) := by decide +kernel
theorem dX3_lcp_30 : decode cX3_lcp 30 = .ok (.goto 4, 3) := by decide +kernel
theorem dX3_lcp_33 : decode cX3_lcp 33 = .ok (.iconst (-1), 1) := by decide +kernel
theorem dX3_lcp_34 : decode cX3_lcp 34 = .ok (.ireturn, 1) := by decide +kernel
set_option maxRecDepth 20000 in
theorem ggX3_rank_X3_isEnd : GoodIn wsX3_rank wsX3_isEnd := goodIn_r _ [6, 7, 8, 9, 10, 11, 12, 13, 14, 15, 16, 17, 18, 19, 20, 21] (by decide +kernel) (by decide +kernel)
set_option maxRecDepth 20000 in
theorem gX3_rank_X3_isEnd : GoodIn wsX3_rank (wsV RX3 54 RX3 yX3_isEnd wsX3_isEnd) := goodIn_app (goodIn_of _ (by decide +kernel)) ggX3_rank_X3_isEnd
theorem dX3_rank_0 : decode cX3_rank 0 = .ok (.aload_n 0, 1) := by decide +kernel
theorem dX3_rank_1 : decode cX3_rank 1 = .ok (.iload_n 1, 1) := by decide +kernel
theorem dX3_rank_2 : decode cX3_rank 2 = .ok (.invokevirtual 54, 3) := by decide +kernel
theorem dX3_rank_5 : decode cX3_rank 5 = .ok (.ifCond .ne 5, 3) := by decide +kernel
theorem dX3_rank_8 : decode cX3_rank 8 = .ok (.iconst (-1), 1) := by decide +kernel
theorem dX3_rank_9 : decode cX3_rank 9 = .ok (.ireturn, 1) := by decide +kernel
theorem dX3_rank_10 : decode cX3_rank 10 = .ok (.iconst 0, 1) := by decide +kernel
theorem dX3_rank_11 : decode cX3_rank 11 = .ok (.istore_n 2, 1) := by decide +kernel
theorem dX3_rank_12 : decode cX3_rank 12 = .ok (.aload_n 0, 1) := by decide +kernel
theorem dX3_rank_13 : decode cX3_rank 13 = .ok (.getfield 13, 3) := by decide +kernel
theorem dX3_rank_16 : decode cX3_rank 16 = .ok (.iload_n 2, 1) := by decide +kernel
theorem dX3_rank_17 : decode cX3_rank 17 = .ok (.iaload, 1) := by decide +kernel
theorem dX3_rank_18 : decode cX3_rank 18 = .ok (.iload_n 1, 1) := by decide +kernel
theorem dX3_rank_19 : decode cX3_rank 19 = .ok (.if_icmp .eq 9, 3) := by decide +kernel
theorem dX3_rank_22 : decode cX3_rank 22 = .ok (.iinc 2 1, 3) := by decide +kernel
theorem dX3_rank_25 : decode cX3_rank 25 = .ok (.goto (-13), 3) := by decide +kernel
theorem dX3_rank_28 : decode cX3_rank 28 = .ok (.iload_n 2, 1) := by decide +kernel
theorem dX3_rank_29 : decode cX3_rank 29 = .ok (.ireturn, 1) := by decide +kernel
set_option maxRecDepth 20000 in
theorem ggX3_common_X3_isEnd : GoodIn wsX3_common wsX3_isEnd := goodIn_r _ [5, 6, 7, 13, 14, 15, 16, 17, 18, 19, 20, 21, 22, 23, 24, 25] (by decide +kernel) (by decide +kernel)
set_option maxRecDepth 20000 in
theorem gX3_common_X3_isEnd : GoodIn wsX3_common (wsV RX3 54 RX3 yX3_isEnd wsX3_isEnd) := goodIn_app (goodIn_of _ (by decide +kernel)) ggX3_common_X3_isEnd
set_option maxRecDepth 20000 in
theorem ggX3_common_X3_commonOf : GoodIn wsX3_common wsX3_commonOf := goodIn_r _ [11, 7, 12, 13, 14, 15, 16, 17, 18, 19, 20, 21, 22, 23, 24, 25] (by decide +kernel) (by decide +kernel)
set_option maxRecDepth 20000 in
theorem gX3_common_X3_commonOf : GoodIn wsX3_common (wsV RX3 46 RX3 yX3_commonOf wsX3_commonOf) := goodIn_app (goodIn_of _ (by decide +kernel)) ggX3_common_X3_commonOf
theorem dX3_common_0 : decode cX3_common 0 = .ok (.aload_n 0, 1) := by decide +kernel
theorem dX3_common_1 : decode cX3_common 1 = .ok (.iload_n 1, 1) := by decide +kernel
theorem dX3_common_2 : decode cX3_common 2 = .ok (.invokevirtual 54, 3) := by decide +kernel
theorem dX3_common_5 : decode cX3_common 5 = .ok (.ifCond .eq 20, 3) := by decide +kernel
theorem dX3_common_8 : decode cX3_common 8 = .ok (.aload_n 0, 1) := by decide +kernel
theorem dX3_common_9 : decode cX3_common 9 = .ok (.iload_n 2, 1) := by decide +kernel
theorem dX3_common_10 : decode cX3_common 10 = .ok (.invokevirtual 54, 3) := by decide +kernel
theorem dX3_common_13 : decode cX3_common 13 = .ok (.ifCond .eq 12, 3) := by decide +kernel
theorem dX3_common_16 : decode cX3_common 16 = .ok (.aload_n 0, 1) := by decide +kernel
theorem dX3_common_17 : decode cX3_common 17 = .ok (.iload_n 1, 1) := by decide +kernel
theorem dX3_common_18 : decode cX3_common 18 = .ok (.iload_n 2, 1) := by decide +kernel
theorem dX3_common_19 : decode cX3_common 19 = .ok (.invokevirtual 46, 3) := by decide +kernel
theorem dX3_common_22 : decode cX3_common 22 = .ok (.goto 4, 3) := by decide +kernel
theorem dX3_common_25 : decode cX3_common 25 = .ok (.iconst (-1), 1) := by decide +kernel
theorem dX3_common_26 : decode cX3_common 26 = .ok (.ireturn, 1) := by decide +kernel
theorem dX3_patFeed_0 : decode cX3_patFeed 0 = .ok (.iload_n 1, 1) := by decide +kernel
theorem dX3_patFeed_1 : decode cX3_patFeed 1 = .ok (.ifCond .lt 22, 3) := by decide +kernel
theorem dX3_patFeed_4 : decode cX3_patFeed 4 = .ok (.iload_n 1, 1) := by decide +kernel
theorem dX3_patFeed_5 : decode cX3_patFeed 5 = .ok (.aload_n 0, 1) := by decide +kernel
theorem dX3_patFeed_6 : decode cX3_patFeed 6 = .ok (.getfield 26, 3) := by decide +kernel
theorem dX3_patFeed_9 : decode cX3_patFeed 9 = .ok (.if_icmp .ge 14, 3) := by decide +kernel
theorem dX3_patFeed_12 : decode cX3_patFeed 12 = .ok (.aload_n 0, 1) := by decide +kernel
theorem dX3_patFeed_13 : decode cX3_patFeed 13 = .ok (.getfield 57, 3) := by decide +kernel
theorem dX3_patFeed_16 : decode cX3_patFeed 16 = .ok (.aload_n 0, 1) := by decide +kernel
theorem dX3_patFeed_17 : decode cX3_patFeed 17 = .ok (.getfield 29, 3) := by decide +kernel
theorem dX3_patFeed_20 : decode cX3_patFeed 20 = .ok (.if_icmp .ne 5, 3) := by decide +kernel
theorem dX3_patFeed_23 : decode cX3_patFeed 23 = .ok (.iconst 0, 1) := by decide +kernel
theorem dX3_patFeed_24 : decode cX3_patFeed 24 = .ok (.ireturn, 1) := by decide +kernel
theorem dX3_patFeed_25 : decode cX3_patFeed 25 = .ok (.aload_n 0, 1) := by decide +kernel
theorem dX3_patFeed_26 : decode cX3_patFeed 26 = .ok (.getfield 19, 3) := by decide +kernel
theorem dX3_patFeed_29 : decode cX3_patFeed 29 = .ok (.aload_n 0, 1) := by decide +kernel
theorem dX3_patFeed_30 : decode cX3_patFeed 30 = .ok (.getfield 57, 3) := by decide +kernel
theorem dX3_patFeed_33 : decode cX3_patFeed 33 = .ok (.iload_n 1, 1) := by decide +kernel
theorem dX3_patFeed_34 : decode cX3_patFeed 34 = .ok (.iastore, 1) := by decide +kernel
theorem dX3_patFeed_35 : decode cX3_patFeed 35 = .ok (.aload_n 0, 1) := by decide +kernel
theorem dX3_patFeed_36 : decode cX3_patFeed 36 = .ok (.dup, 1) := by decide +kernel
theorem dX3_patFeed_37 : decode cX3_patFeed 37 = .ok (.getfield 57, 3) := by decide +kernel
theorem dX3_patFeed_40 : decode cX3_patFeed 40 = .ok (.iconst 1, 1) := by decide +kernel
theorem dX3_patFeed_41 : decode cX3_patFeed 41 = .ok (.iadd, 1) := by decide +kernel
theorem dX3_patFeed_42 : decode cX3_patFeed 42 = .ok (.putfield 57, 3) := by decide +kernel
theorem dX3_patFeed_45 : decode cX3_patFeed 45 = .ok (.aload_n 0, 1) := by decide +kernel
theorem dX3_patFeed_46 : decode cX3_patFeed 46 = .ok (.iconst 0, 1) := by decide +kernel
theorem dX3_patFeed_47 : decode cX3_patFeed 47 = .ok (.putfield 39, 3) := by decide +kernel
theorem dX3_patFeed_50 : decode cX3_patFeed 50 = .ok (.iconst 1, 1) := by decide +kernel
theorem dX3_patFeed_51 : decode cX3_patFeed 51 = .ok (.ireturn, 1) := by decide +kernel
theorem dX3_patClear_0 : decode cX3_patClear 0 = .ok (.aload_n 0, 1) := by decide +kernel
theorem dX3_patClear_1 : decode cX3_patClear 1 = .ok (.iconst 0, 1) := by decide +kernel
theorem dX3_patClear_2 : decode cX3_patClear 2 = .ok (.putfield 57, 3) := by decide +kernel
theorem dX3_patClear_5 : decode cX3_patClear 5 = .ok (.aload_n 0, 1) := by decide +kernel
theorem dX3_patClear_6 : decode cX3_patClear 6 = .ok (.iconst 0, 1) := by decide +kernel
theorem dX3_patClear_7 : decode cX3_patClear 7 = .ok (.putfield 39, 3) := by decide +kernel
theorem dX3_patClear_10 : decode cX3_patClear 10 = .ok (.return_, 1) := by decide +kernel
theorem dX3_begins_0 : decode cX3_begins 0 = .ok (.iconst 0, 1) := by decide +kernel
theorem dX3_begins_1 : decode cX3_begins 1 = .ok (.istore_n 2, 1) := by decide +kernel
theorem dX3_begins_2 : decode cX3_begins 2 = .ok (.iload_n 2, 1) := by decide +kernel
theorem dX3_begins_3 : decode cX3_begins 3 = .ok (.aload_n 0, 1) := by decide +kernel
theorem dX3_begins_4 : decode cX3_begins 4 = .ok (.getfield 57, 3) := by decide +kernel
theorem dX3_begins_7 : decode cX3_begins 7 = .ok (.if_icmp .ge 38, 3) := by decide +kernel
theorem dX3_begins_10 : decode cX3_begins 10 = .ok (.iload_n 1, 1) := by decide +kernel
theorem dX3_begins_11 : decode cX3_begins 11 = .ok (.iload_n 2, 1) := by decide +kernel
theorem dX3_begins_12 : decode cX3_begins 12 = .ok (.iadd, 1) := by decide +kernel
theorem dX3_begins_13 : decode cX3_begins 13 = .ok (.aload_n 0, 1) := by decide +kernel
theorem dX3_begins_14 : decode cX3_begins 14 = .ok (.getfield 32, 3) := by decide +kernel
theorem dX3_begins_17 : decode cX3_begins 17 = .ok (.if_icmp .ge 20, 3) := by decide +kernel
theorem dX3_begins_20 : decode cX3_begins 20 = .ok (.aload_n 0, 1) := by decide +kernel
theorem dX3_begins_21 : decode cX3_begins 21 = .ok (.getfield 7, 3) := by decide +kernel
theorem dX3_begins_24 : decode cX3_begins 24 = .ok (.iload_n 1, 1) := by decide +kernel
theorem dX3_begins_25 : decode cX3_begins 25 = .ok (.iload_n 2, 1) := by decide +kernel
theorem dX3_begins_26 : decode cX3_begins 26 = .ok (.iadd, 1) := by decide +kernel
theorem dX3_begins_27 : decode cX3_begins 27 = .ok (.iaload, 1) := by decide +kernel
theorem dX3_begins_28 : decode cX3_begins 28 = .ok (.aload_n 0, 1) := by decide +kernel
theorem dX3_begins_29 : decode cX3_begins 29 = .ok (.getfield 19, 3) := by decide +kernel
theorem dX3_begins_32 : decode cX3_begins 32 = .ok (.iload_n 2, 1) := by decide +kernel
theorem dX3_begins_33 : decode cX3_begins 33 = .ok (.iaload, 1) := by decide +kernel
theorem dX3_begins_34 : decode cX3_begins 34 = .ok (.if_icmp .eq 5, 3) := by decide +kernel
theorem dX3_begins_37 : decode cX3_begins 37 = .ok (.iconst 0, 1) := by decide +kernel
theorem dX3_begins_38 : decode cX3_begins 38 = .ok (.ireturn, 1) := by decide +kernel
theorem dX3_begins_39 : decode cX3_begins 39 = .ok (.iinc 2 1, 3) := by decide +kernel
theorem dX3_begins_42 : decode cX3_begins 42 = .ok (.goto (-40), 3) := by decide +kernel
theorem dX3_begins_45 : decode cX3_begins 45 = .ok (.iconst 1, 1) := by decide +kernel
theorem dX3_begins_46 : decode cX3_begins 46 = .ok (.ireturn, 1) := by decide +kernel
set_option maxRecDepth 20000 in
theorem ggX3_search_X3_begins : GoodIn wsX3_search wsX3_begins := goodIn_r _ [11, 12, 4, 13, 14, 15, 16, 17, 18, 19, 20, 21, 22, 23, 24, 25, 26, 27] (by decide +kernel) (by decide +kernel)
set_option maxRecDepth 20000 in
theorem gX3_search_X3_begins : GoodIn wsX3_search (wsV RX3 63 RX3 yX3_begins wsX3_begins) := goodIn_app (goodIn_of _ (by decide +kernel)) ggX3_search_X3_begins
theorem dX3_search_0 : decode cX3_search 0 = .ok (.aload_n 0, 1) := by decide +kernel
theorem dX3_search_1 : decode cX3_search 1 = .ok (.aload_n 0, 1) := by decide +kernel
theorem dX3_search_2 : decode cX3_search 2 = .ok (.getfield 35, 3) := by decide +kernel
theorem dX3_search_5 : decode cX3_search 5 = .ok (.putfield 39, 3) := by decide +kernel
theorem dX3_search_8 : decode cX3_search 8 = .ok (.aload_n 0, 1) := by decide +kernel
theorem dX3_search_9 : decode cX3_search 9 = .ok (.getfield 35, 3) := by decide +kernel
theorem dX3_search_12 : decode cX3_search 12 = .ok (.ifCond .ne 5, 3) := by decide +kernel
theorem dX3_search_15 : decode cX3_search 15 = .ok (.iconst (-1), 1) := by decide +kernel
theorem dX3_search_16 : decode cX3_search 16 = .ok (.ireturn, 1) := by decide +kernel
theorem dX3_search_17 : decode cX3_search 17 = .ok (.aload_n 0, 1) := by decide +kernel
theorem dX3_search_18 : decode cX3_search 18 = .ok (.iconst 0, 1) := by decide +kernel
theorem dX3_search_19 : decode cX3_search 19 = .ok (.putfield 60, 3) := by decide +kernel
theorem dX3_search_22 : decode cX3_search 22 = .ok (.aload_n 0, 1) := by decide +kernel
theorem dX3_search_23 : decode cX3_search 23 = .ok (.getfield 32, 3) := by decide +kernel
theorem dX3_search_26 : decode cX3_search 26 = .ok (.iconst 1, 1) := by decide +kernel
theorem dX3_search_27 : decode cX3_search 27 = .ok (.isub, 1) := by decide +kernel
theorem dX3_search_28 : decode cX3_search 28 = .ok (.istore_n 1, 1) := by decide +kernel
theorem dX3_search_29 : decode cX3_search 29 = .ok (.iload_n 1, 1) := by decide +kernel
theorem dX3_search_30 : decode cX3_search 30 = .ok (.ifCond .lt 37, 3) := by decide +kernel
theorem dX3_search_33 : decode cX3_search 33 = .ok (.aload_n 0, 1) := by decide +kernel
theorem dX3_search_34 : decode cX3_search 34 = .ok (.aload_n 0, 1) := by decide +kernel
theorem dX3_search_35 : decode cX3_search 35 = .ok (.getfield 13, 3) := by decide +kernel
theorem dX3_search_38 : decode cX3_search 38 = .ok (.iload_n 1, 1) := by decide +kernel
theorem dX3_search_39 : decode cX3_search 39 = .ok (.iaload, 1) := by decide +kernel
theorem dX3_search_40 : decode cX3_search 40 = .ok (.invokevirtual 63, 3) := by decide +kernel
theorem dX3_search_43 : decode cX3_search 43 = .ok (.ifCond .eq 18, 3) := by decide +kernel
theorem dX3_search_46 : decode cX3_search 46 = .ok (.aload_n 0, 1) := by decide +kernel
theorem dX3_search_47 : decode cX3_search 47 = .ok (.iload_n 1, 1) := by decide +kernel
theorem dX3_search_48 : decode cX3_search 48 = .ok (.putfield 66, 3) := by decide +kernel
theorem dX3_search_51 : decode cX3_search 51 = .ok (.aload_n 0, 1) := by decide +kernel
theorem dX3_search_52 : decode cX3_search 52 = .ok (.dup, 1) := by decide +kernel
theorem dX3_search_53 : decode cX3_search 53 = .ok (.getfield 60, 3) := by decide +kernel
theorem dX3_search_56 : decode cX3_search 56 = .ok (.iconst 1, 1) := by decide +kernel
theorem dX3_search_57 : decode cX3_search 57 = .ok (.iadd, 1) := by decide +kernel
theorem dX3_search_58 : decode cX3_search 58 = .ok (.putfield 60, 3) := by decide +kernel
theorem dX3_search_61 : decode cX3_search 61 = .ok (.iinc 1 (-1), 3) := by decide +kernel
theorem dX3_search_64 : decode cX3_search 64 = .ok (.goto (-35), 3) := by decide +kernel
theorem dX3_search_67 : decode cX3_search 67 = .ok (.aload_n 0, 1) := by decide +kernel
theorem dX3_search_68 : decode cX3_search 68 = .ok (.getfield 60, 3) := by decide +kernel
theorem dX3_search_71 : decode cX3_search 71 = .ok (.ireturn, 1) := by decide +kernel
theorem dX3_hit_0 : decode cX3_hit 0 = .ok (.aload_n 0, 1) := by decide +kernel
theorem dX3_hit_1 : decode cX3_hit 1 = .ok (.getfield 39, 3) := by decide +kernel
theorem dX3_hit_4 : decode cX3_hit 4 = .ok (.ifCond .eq 29, 3) := by decide +kernel
theorem dX3_hit_7 : decode cX3_hit 7 = .ok (.iload_n 1, 1) := by decide +kernel
theorem dX3_hit_8 : decode cX3_hit 8 = .ok (.ifCond .lt 25, 3) := by decide +kernel
theorem dX3_hit_11 : decode cX3_hit 11 = .ok (.iload_n 1, 1) := by decide +kernel
theorem dX3_hit_12 : decode cX3_hit 12 = .ok (.aload_n 0, 1) := by decide +kernel
theorem dX3_hit_13 : decode cX3_hit 13 = .ok (.getfield 60, 3) := by decide +kernel
theorem dX3_hit_16 : decode cX3_hit 16 = .ok (.if_icmp .ge 17, 3) := by decide +kernel
theorem dX3_hit_19 : decode cX3_hit 19 = .ok (.aload_n 0, 1) := by decide +kernel
theorem dX3_hit_20 : decode cX3_hit 20 = .ok (.getfield 13, 3) := by decide +kernel
theorem dX3_hit_23 : decode cX3_hit 23 = .ok (.aload_n 0, 1) := by decide +kernel
theorem dX3_hit_24 : decode cX3_hit 24 = .ok (.getfield 66, 3) := by decide +kernel
theorem dX3_hit_27 : decode cX3_hit 27 = .ok (.iload_n 1, 1) := by decide +kernel
theorem dX3_hit_28 : decode cX3_hit 28 = .ok (.iadd, 1) := by decide +kernel
theorem dX3_hit_29 : decode cX3_hit 29 = .ok (.iaload, 1) := by decide +kernel
theorem dX3_hit_30 : decode cX3_hit 30 = .ok (.goto 4, 3) := by decide +kernel
theorem dX3_hit_33 : decode cX3_hit 33 = .ok (.iconst (-1), 1) := by decide +kernel
theorem dX3_hit_34 : decode cX3_hit 34 = .ok (.ireturn, 1) := by decide +kernel
set_option maxRecDepth 20000 in
theorem ggX3_repeated_X3_commonOf : GoodIn wsX3_repeated wsX3_commonOf := goodIn_r _ [8, 2, 9, 10, 11, 12, 13, 14, 15, 16, 17, 18, 19, 20, 21, 22] (by decide +kernel) (by decide +kernel)
set_option maxRecDepth 20000 in
theorem gX3_repeated_X3_commonOf : GoodIn wsX3_repeated (wsV RX3 46 RX3 yX3_commonOf wsX3_commonOf) := goodIn_app (goodIn_of _ (by decide +kernel)) ggX3_repeated_X3_commonOf
theorem dX3_repeated_0 : decode cX3_repeated 0 = .ok (.aload_n 0, 1) := by decide +kernel
theorem dX3_repeated_1 : decode cX3_repeated 1 = .ok (.getfield 35, 3) := by decide +kernel
theorem dX3_repeated_4 : decode cX3_repeated 4 = .ok (.ifCond .ne 5, 3) := by decide +kernel
theorem dX3_repeated_7 : decode cX3_repeated 7 = .ok (.iconst (-1), 1) := by decide +kernel
theorem dX3_repeated_8 : decode cX3_repeated 8 = .ok (.ireturn, 1) := by decide +kernel
theorem dX3_repeated_9 : decode cX3_repeated 9 = .ok (.iconst 0, 1) := by decide +kernel
theorem dX3_repeated_10 : decode cX3_repeated 10 = .ok (.istore_n 1, 1) := by decide +kernel
theorem dX3_repeated_11 : decode cX3_repeated 11 = .ok (.iconst 1, 1) := by decide +kernel
theorem dX3_repeated_12 : decode cX3_repeated 12 = .ok (.istore_n 2, 1) := by decide +kernel
theorem dX3_repeated_13 : decode cX3_repeated 13 = .ok (.iload_n 2, 1) := by decide +kernel
theorem dX3_repeated_14 : decode cX3_repeated 14 = .ok (.aload_n 0, 1) := by decide +kernel
theorem dX3_repeated_15 : decode cX3_repeated 15 = .ok (.getfield 32, 3) := by decide +kernel
theorem dX3_repeated_18 : decode cX3_repeated 18 = .ok (.if_icmp .ge 39, 3) := by decide +kernel
theorem dX3_repeated_21 : decode cX3_repeated 21 = .ok (.aload_n 0, 1) := by decide +kernel
theorem dX3_repeated_22 : decode cX3_repeated 22 = .ok (.aload_n 0, 1) := by decide +kernel
theorem dX3_repeated_23 : decode cX3_repeated 23 = .ok (.getfield 13, 3) := by decide +kernel
theorem dX3_repeated_26 : decode cX3_repeated 26 = .ok (.iload_n 2, 1) := by decide +kernel
theorem dX3_repeated_27 : decode cX3_repeated 27 = .ok (.iconst 1, 1) := by decide +kernel
theorem dX3_repeated_28 : decode cX3_repeated 28 = .ok (.isub, 1) := by decide +kernel
theorem dX3_repeated_29 : decode cX3_repeated 29 = .ok (.iaload, 1) := by decide +kernel
theorem dX3_repeated_30 : decode cX3_repeated 30 = .ok (.aload_n 0, 1) := by decide +kernel
theorem dX3_repeated_31 : decode cX3_repeated 31 = .ok (.getfield 13, 3) := by decide +kernel
theorem dX3_repeated_34 : decode cX3_repeated 34 = .ok (.iload_n 2, 1) := by decide +kernel
theorem dX3_repeated_35 : decode cX3_repeated 35 = .ok (.iaload, 1) := by decide +kernel
theorem dX3_repeated_36 : decode cX3_repeated 36 = .ok (.invokevirtual 46, 3) := by decide +kernel
theorem dX3_repeated_39 : decode cX3_repeated 39 = .ok (.istore_n 3, 1) := by decide +kernel
theorem dX3_repeated_40 : decode cX3_repeated 40 = .ok (.iload_n 3, 1) := by decide +kernel
theorem dX3_repeated_41 : decode cX3_repeated 41 = .ok (.iload_n 1, 1) := by decide +kernel
theorem dX3_repeated_42 : decode cX3_repeated 42 = .ok (.if_icmp .le 7, 3) := by decide +kernel
theorem dX3_repeated_45 : decode cX3_repeated 45 = .ok (.iload_n 3, 1) := by decide +kernel
theorem dX3_repeated_46 : decode cX3_repeated 46 = .ok (.goto 4, 3) := by decide +kernel
theorem dX3_repeated_49 : decode cX3_repeated 49 = .ok (.iload_n 1, 1) := by decide +kernel
theorem dX3_repeated_50 : decode cX3_repeated 50 = .ok (.istore_n 1, 1) := by decide +kernel
theorem dX3_repeated_51 : decode cX3_repeated 51 = .ok (.iinc 2 1, 3) := by decide +kernel
theorem dX3_repeated_54 : decode cX3_repeated 54 = .ok (.goto (-41), 3) := by decide +kernel
theorem dX3_repeated_57 : decode cX3_repeated 57 = .ok (.iload_n 1, 1) := by decide +kernel
theorem dX3_repeated_58 : decode cX3_repeated 58 = .ok (.ireturn, 1) := by decide +kernel
set_option maxRecDepth 20000 in
theorem ggX3_repeatedAt_X3_repeated : GoodIn wsX3_repeatedAt wsX3_repeated := goodIn_r _ [7, 8, 2, 1, 9, 10, 11, 6, 12, 13, 14, 15, 16, 17, 18, 19, 20, 21, 22, 23, 24, 25, 26] (by decide +kernel) (by decide +kernel)
set_option maxRecDepth 20000 in
theorem gX3_repeatedAt_X3_repeated : GoodIn wsX3_repeatedAt (wsV RX3 69 RX3 yX3_repeated wsX3_repeated) := goodIn_app (goodIn_of _ (by decide +kernel)) ggX3_repeatedAt_X3_repeated
set_option maxRecDepth 20000 in
theorem ggX3_repeatedAt_X3_commonOf : GoodIn wsX3_repeatedAt wsX3_commonOf := goodIn_r _ [12, 2, 13, 14, 15, 16, 17, 18, 19, 20, 21, 22, 23, 24, 25, 26] (by decide +kernel) (by decide +kernel)
set_option maxRecDepth 20000 in
theorem gX3_repeatedAt_X3_commonOf : GoodIn wsX3_repeatedAt (wsV RX3 46 RX3 yX3_commonOf wsX3_commonOf) := goodIn_app (goodIn_of _ (by decide +kernel)) ggX3_repeatedAt_X3_commonOf
theorem dX3_repeatedAt_0 : decode cX3_repeatedAt 0 = .ok (.aload_n 0, 1) := by decide +kernel
theorem dX3_repeatedAt_1 : decode cX3_repeatedAt 1 = .ok (.invokevirtual 69, 3) := by decide +kernel
theorem dX3_repeatedAt_4 : decode cX3_repeatedAt 4 = .ok (.istore_n 1, 1) := by decide +kernel
theorem dX3_repeatedAt_5 : decode cX3_repeatedAt 5 = .ok (.iload_n 1, 1) := by decide +kernel
theorem dX3_repeatedAt_6 : decode cX3_repeatedAt 6 = .ok (.iconst 1, 1) := by decide +kernel
theorem dX3_repeatedAt_7 : decode cX3_repeatedAt 7 = .ok (.if_icmp .ge 5, 3) := by decide +kernel
theorem dX3_repeatedAt_10 : decode cX3_repeatedAt 10 = .ok (.iconst (-1), 1) := by decide +kernel
theorem dX3_repeatedAt_11 : decode cX3_repeatedAt 11 = .ok (.ireturn, 1) := by decide +kernel
theorem dX3_repeatedAt_12 : decode cX3_repeatedAt 12 = .ok (.iconst 1, 1) := by decide +kernel
theorem dX3_repeatedAt_13 : decode cX3_repeatedAt 13 = .ok (.istore_n 2, 1) := by decide +kernel
theorem dX3_repeatedAt_14 : decode cX3_repeatedAt 14 = .ok (.aload_n 0, 1) := by decide +kernel
theorem dX3_repeatedAt_15 : decode cX3_repeatedAt 15 = .ok (.aload_n 0, 1) := by decide +kernel
theorem dX3_repeatedAt_16 : decode cX3_repeatedAt 16 = .ok (.getfield 13, 3) := by decide +kernel
theorem dX3_repeatedAt_19 : decode cX3_repeatedAt 19 = .ok (.iload_n 2, 1) := by decide +kernel
theorem dX3_repeatedAt_20 : decode cX3_repeatedAt 20 = .ok (.iconst 1, 1) := by decide +kernel
theorem dX3_repeatedAt_21 : decode cX3_repeatedAt 21 = .ok (.isub, 1) := by decide +kernel
theorem dX3_repeatedAt_22 : decode cX3_repeatedAt 22 = .ok (.iaload, 1) := by decide +kernel
theorem dX3_repeatedAt_23 : decode cX3_repeatedAt 23 = .ok (.aload_n 0, 1) := by decide +kernel
theorem dX3_repeatedAt_24 : decode cX3_repeatedAt 24 = .ok (.getfield 13, 3) := by decide +kernel
theorem dX3_repeatedAt_27 : decode cX3_repeatedAt 27 = .ok (.iload_n 2, 1) := by decide +kernel
theorem dX3_repeatedAt_28 : decode cX3_repeatedAt 28 = .ok (.iaload, 1) := by decide +kernel
theorem dX3_repeatedAt_29 : decode cX3_repeatedAt 29 = .ok (.invokevirtual 46, 3) := by decide +kernel
theorem dX3_repeatedAt_32 : decode cX3_repeatedAt 32 = .ok (.iload_n 1, 1) := by decide +kernel
theorem dX3_repeatedAt_33 : decode cX3_repeatedAt 33 = .ok (.if_icmp .ge 9, 3) := by decide +kernel
theorem dX3_repeatedAt_36 : decode cX3_repeatedAt 36 = .ok (.iinc 2 1, 3) := by decide +kernel
theorem dX3_repeatedAt_39 : decode cX3_repeatedAt 39 = .ok (.goto (-25), 3) := by decide +kernel
theorem dX3_repeatedAt_42 : decode cX3_repeatedAt 42 = .ok (.aload_n 0, 1) := by decide +kernel
theorem dX3_repeatedAt_43 : decode cX3_repeatedAt 43 = .ok (.getfield 13, 3) := by decide +kernel
theorem dX3_repeatedAt_46 : decode cX3_repeatedAt 46 = .ok (.iload_n 2, 1) := by decide +kernel
theorem dX3_repeatedAt_47 : decode cX3_repeatedAt 47 = .ok (.iconst 1, 1) := by decide +kernel
theorem dX3_repeatedAt_48 : decode cX3_repeatedAt 48 = .ok (.isub, 1) := by decide +kernel
theorem dX3_repeatedAt_49 : decode cX3_repeatedAt 49 = .ok (.iaload, 1) := by decide +kernel
theorem dX3_repeatedAt_50 : decode cX3_repeatedAt 50 = .ok (.istore_n 3, 1) := by decide +kernel
theorem dX3_repeatedAt_51 : decode cX3_repeatedAt 51 = .ok (.iload_n 2, 1) := by decide +kernel
theorem dX3_repeatedAt_52 : decode cX3_repeatedAt 52 = .ok (.aload_n 0, 1) := by decide +kernel
theorem dX3_repeatedAt_53 : decode cX3_repeatedAt 53 = .ok (.getfield 32, 3) := by decide +kernel
theorem dX3_repeatedAt_56 : decode cX3_repeatedAt 56 = .ok (.if_icmp .ge 52, 3) := by decide +kernel
theorem dX3_repeatedAt_59 : decode cX3_repeatedAt 59 = .ok (.aload_n 0, 1) := by decide +kernel
theorem dX3_repeatedAt_60 : decode cX3_repeatedAt 60 = .ok (.aload_n 0, 1) := by decide +kernel
theorem dX3_repeatedAt_61 : decode cX3_repeatedAt 61 = .ok (.getfield 13, 3) := by decide +kernel
theorem dX3_repeatedAt_64 : decode cX3_repeatedAt 64 = .ok (.iload_n 2, 1) := by decide +kernel
theorem dX3_repeatedAt_65 : decode cX3_repeatedAt 65 = .ok (.iconst 1, 1) := by decide +kernel
theorem dX3_repeatedAt_66 : decode cX3_repeatedAt 66 = .ok (.isub, 1) := by decide +kernel
theorem dX3_repeatedAt_67 : decode cX3_repeatedAt 67 = .ok (.iaload, 1) := by decide +kernel
theorem dX3_repeatedAt_68 : decode cX3_repeatedAt 68 = .ok (.aload_n 0, 1) := by decide +kernel
theorem dX3_repeatedAt_69 : decode cX3_repeatedAt 69 = .ok (.getfield 13, 3) := by decide +kernel
theorem dX3_repeatedAt_72 : decode cX3_repeatedAt 72 = .ok (.iload_n 2, 1) := by decide +kernel
theorem dX3_repeatedAt_73 : decode cX3_repeatedAt 73 = .ok (.iaload, 1) := by decide +kernel
theorem dX3_repeatedAt_74 : decode cX3_repeatedAt 74 = .ok (.invokevirtual 46, 3) := by decide +kernel
theorem dX3_repeatedAt_77 : decode cX3_repeatedAt 77 = .ok (.iload_n 1, 1) := by decide +kernel
theorem dX3_repeatedAt_78 : decode cX3_repeatedAt 78 = .ok (.if_icmp .ne 30, 3) := by decide +kernel
theorem dX3_repeatedAt_81 : decode cX3_repeatedAt 81 = .ok (.aload_n 0, 1) := by decide +kernel
theorem dX3_repeatedAt_82 : decode cX3_repeatedAt 82 = .ok (.getfield 13, 3) := by decide +kernel
theorem dX3_repeatedAt_85 : decode cX3_repeatedAt 85 = .ok (.iload_n 2, 1) := by decide +kernel
theorem dX3_repeatedAt_86 : decode cX3_repeatedAt 86 = .ok (.iaload, 1) := by decide +kernel
theorem dX3_repeatedAt_87 : decode cX3_repeatedAt 87 = .ok (.iload_n 3, 1) := by decide +kernel
theorem dX3_repeatedAt_88 : decode cX3_repeatedAt 88 = .ok (.if_icmp .ge 12, 3) := by decide +kernel
theorem dX3_repeatedAt_91 : decode cX3_repeatedAt 91 = .ok (.aload_n 0, 1) := by decide +kernel
theorem dX3_repeatedAt_92 : decode cX3_repeatedAt 92 = .ok (.getfield 13, 3) := by decide +kernel
theorem dX3_repeatedAt_95 : decode cX3_repeatedAt 95 = .ok (.iload_n 2, 1) := by decide +kernel
theorem dX3_repeatedAt_96 : decode cX3_repeatedAt 96 = .ok (.iaload, 1) := by decide +kernel
theorem dX3_repeatedAt_97 : decode cX3_repeatedAt 97 = .ok (.goto 4, 3) := by decide +kernel
theorem dX3_repeatedAt_100 : decode cX3_repeatedAt 100 = .ok (.iload_n 3, 1) := by decide +kernel
theorem dX3_repeatedAt_101 : decode cX3_repeatedAt 101 = .ok (.istore_n 3, 1) := by decide +kernel
theorem dX3_repeatedAt_102 : decode cX3_repeatedAt 102 = .ok (.iinc 2 1, 3) := by decide +kernel
theorem dX3_repeatedAt_105 : decode cX3_repeatedAt 105 = .ok (.goto (-54), 3) := by decide +kernel
theorem dX3_repeatedAt_108 : decode cX3_repeatedAt 108 = .ok (.iload_n 3, 1) := by decide +kernel
theorem dX3_repeatedAt_109 : decode cX3_repeatedAt 109 = .ok (.ireturn, 1) := by decide +kernel
set_option maxRecDepth 20000 in
theorem ggX3_different_X3_commonOf : GoodIn wsX3_different wsX3_commonOf := goodIn_r _ [8, 2, 9, 10, 11, 12, 13, 14, 15, 16, 17, 18, 19, 20, 21, 22] (by decide +kernel) (by decide +kernel)
set_option maxRecDepth 20000 in
theorem gX3_different_X3_commonOf : GoodIn wsX3_different (wsV RX3 46 RX3 yX3_commonOf wsX3_commonOf) := goodIn_app (goodIn_of _ (by decide +kernel)) ggX3_different_X3_commonOf
theorem dX3_different_0 : decode cX3_different 0 = .ok (.aload_n 0, 1) := by decide +kernel
theorem dX3_different_1 : decode cX3_different 1 = .ok (.getfield 35, 3) := by decide +kernel
theorem dX3_different_4 : decode cX3_different 4 = .ok (.ifCond .ne 5, 3) := by decide +kernel
theorem dX3_different_7 : decode cX3_different 7 = .ok (.iconst (-1), 1) := by decide +kernel
theorem dX3_different_8 : decode cX3_different 8 = .ok (.ireturn, 1) := by decide +kernel
theorem dX3_different_9 : decode cX3_different 9 = .ok (.iconst 0, 1) := by decide +kernel
theorem dX3_different_10 : decode cX3_different 10 = .ok (.istore_n 1, 1) := by decide +kernel
theorem dX3_different_11 : decode cX3_different 11 = .ok (.iconst 0, 1) := by decide +kernel
theorem dX3_different_12 : decode cX3_different 12 = .ok (.istore_n 2, 1) := by decide +kernel
theorem dX3_different_13 : decode cX3_different 13 = .ok (.iload_n 2, 1) := by decide +kernel
theorem dX3_different_14 : decode cX3_different 14 = .ok (.aload_n 0, 1) := by decide +kernel
theorem dX3_different_15 : decode cX3_different 15 = .ok (.getfield 32, 3) := by decide +kernel
theorem dX3_different_18 : decode cX3_different 18 = .ok (.if_icmp .ge 50, 3) := by decide +kernel
theorem dX3_different_21 : decode cX3_different 21 = .ok (.iload_n 1, 1) := by decide +kernel
theorem dX3_different_22 : decode cX3_different 22 = .ok (.aload_n 0, 1) := by decide +kernel
theorem dX3_different_23 : decode cX3_different 23 = .ok (.getfield 32, 3) := by decide +kernel
theorem dX3_different_26 : decode cX3_different 26 = .ok (.iadd, 1) := by decide +kernel
theorem dX3_different_27 : decode cX3_different 27 = .ok (.aload_n 0, 1) := by decide +kernel
theorem dX3_different_28 : decode cX3_different 28 = .ok (.getfield 13, 3) := by decide +kernel
theorem dX3_different_31 : decode cX3_different 31 = .ok (.iload_n 2, 1) := by decide +kernel
theorem dX3_different_32 : decode cX3_different 32 = .ok (.iaload, 1) := by decide +kernel
theorem dX3_different_33 : decode cX3_different 33 = .ok (.isub, 1) := by decide +kernel
theorem dX3_different_34 : decode cX3_different 34 = .ok (.iload_n 2, 1) := by decide +kernel
theorem dX3_different_35 : decode cX3_different 35 = .ok (.ifCond .ne 7, 3) := by decide +kernel
theorem dX3_different_38 : decode cX3_different 38 = .ok (.iconst 0, 1) := by decide +kernel
theorem dX3_different_39 : decode cX3_different 39 = .ok (.goto 21, 3) := by decide +kernel
theorem dX3_different_42 : decode cX3_different 42 = .ok (.aload_n 0, 1) := by decide +kernel
theorem dX3_different_43 : decode cX3_different 43 = .ok (.aload_n 0, 1) := by decide +kernel
theorem dX3_different_44 : decode cX3_different 44 = .ok (.getfield 13, 3) := by decide +kernel
theorem dX3_different_47 : decode cX3_different 47 = .ok (.iload_n 2, 1) := by decide +kernel
theorem dX3_different_48 : decode cX3_different 48 = .ok (.iconst 1, 1) := by decide +kernel
theorem dX3_different_49 : decode cX3_different 49 = .ok (.isub, 1) := by decide +kernel
theorem dX3_different_50 : decode cX3_different 50 = .ok (.iaload, 1) := by decide +kernel
theorem dX3_different_51 : decode cX3_different 51 = .ok (.aload_n 0, 1) := by decide +kernel
theorem dX3_different_52 : decode cX3_different 52 = .ok (.getfield 13, 3) := by decide +kernel
theorem dX3_different_55 : decode cX3_different 55 = .ok (.iload_n 2, 1) := by decide +kernel
theorem dX3_different_56 : decode cX3_different 56 = .ok (.iaload, 1) := by decide +kernel
theorem dX3_different_57 : decode cX3_different 57 = .ok (.invokevirtual 46, 3) := by decide +kernel
theorem dX3_different_60 : decode cX3_different 60 = .ok (.isub, 1) := by decide +kernel
theorem dX3_different_61 : decode cX3_different 61 = .ok (.istore_n 1, 1) := by decide +kernel
theorem dX3_different_62 : decode cX3_different 62 = .ok (.iinc 2 1, 3) := by decide +kernel
theorem dX3_different_65 : decode cX3_different 65 = .ok (.goto (-52), 3) := by decide +kernel
theorem dX3_different_68 : decode cX3_different 68 = .ok (.iload_n 1, 1) := by decide +kernel
theorem dX3_different_69 : decode cX3_different 69 = .ok (.ireturn, 1) := by decide +kernel
theorem dX3_count_0 : decode cX3_count 0 = .ok (.iload_n 1, 1) := by decide +kernel
theorem dX3_count_1 : decode cX3_count 1 = .ok (.tableswitch 77 0 5 #[39, 44, 49, 62, 67, 72], 39) := by decide +kernel
theorem dX3_count_40 : decode cX3_count 40 = .ok (.aload_n 0, 1) := by decide +kernel
theorem dX3_count_41 : decode cX3_count 41 = .ok (.getfield 32, 3) := by decide +kernel
theorem dX3_count_44 : decode cX3_count 44 = .ok (.ireturn, 1) := by decide +kernel
theorem dX3_count_45 : decode cX3_count 45 = .ok (.aload_n 0, 1) := by decide +kernel
theorem dX3_count_46 : decode cX3_count 46 = .ok (.getfield 57, 3) := by decide +kernel
theorem dX3_count_49 : decode cX3_count 49 = .ok (.ireturn, 1) := by decide +kernel
theorem dX3_count_50 : decode cX3_count 50 = .ok (.aload_n 0, 1) := by decide +kernel
theorem dX3_count_51 : decode cX3_count 51 = .ok (.getfield 35, 3) := by decide +kernel
theorem dX3_count_54 : decode cX3_count 54 = .ok (.ifCond .eq 7, 3) := by decide +kernel
theorem dX3_count_57 : decode cX3_count 57 = .ok (.iconst 1, 1) := by decide +kernel
theorem dX3_count_58 : decode cX3_count 58 = .ok (.goto 4, 3) := by decide +kernel
theorem dX3_count_61 : decode cX3_count 61 = .ok (.iconst 0, 1) := by decide +kernel
theorem dX3_count_62 : decode cX3_count 62 = .ok (.ireturn, 1) := by decide +kernel
theorem dX3_count_63 : decode cX3_count 63 = .ok (.aload_n 0, 1) := by decide +kernel
theorem dX3_count_64 : decode cX3_count 64 = .ok (.getfield 22, 3) := by decide +kernel
theorem dX3_count_67 : decode cX3_count 67 = .ok (.ireturn, 1) := by decide +kernel
theorem dX3_count_68 : decode cX3_count 68 = .ok (.aload_n 0, 1) := by decide +kernel
theorem dX3_count_69 : decode cX3_count 69 = .ok (.getfield 26, 3) := by decide +kernel
theorem dX3_count_72 : decode cX3_count 72 = .ok (.ireturn, 1) := by decide +kernel
theorem dX3_count_73 : decode cX3_count 73 = .ok (.aload_n 0, 1) := by decide +kernel
theorem dX3_count_74 : decode cX3_count 74 = .ok (.getfield 29, 3) := by decide +kernel
theorem dX3_count_77 : decode cX3_count 77 = .ok (.ireturn, 1) := by decide +kernel
theorem dX3_count_78 : decode cX3_count 78 = .ok (.iconst (-1), 1) := by decide +kernel
theorem dX3_count_79 : decode cX3_count 79 = .ok (.ireturn, 1) := by decide +kernel
theorem dX3_clear_0 : decode cX3_clear 0 = .ok (.aload_n 0, 1) := by decide +kernel
theorem dX3_clear_1 : decode cX3_clear 1 = .ok (.iconst 0, 1) := by decide +kernel
theorem dX3_clear_2 : decode cX3_clear 2 = .ok (.putfield 32, 3) := by decide +kernel
end
section
theorem dX3_clear_5 : decode cX3_clear 5 = .ok (.aload_n 0, 1) := by decide +kernel
theorem dX3_clear_6 : decode cX3_clear 6 = .ok (.iconst 0, 1) := by decide +kernel
theorem dX3_clear_7 : decode cX3_clear 7 = .ok (.putfield 57, 3) := by decide +kernel
theorem dX3_clear_10 : decode cX3_clear 10 = .ok (.aload_n 0, 1) := by decide +kernel
theorem dX3_clear_11 : decode cX3_clear 11 = .ok (.iconst 0, 1) := by decide +kernel
theorem dX3_clear_12 : decode cX3_clear 12 = .ok (.putfield 35, 3) := by decide +kernel
theorem dX3_clear_15 : decode cX3_clear 15 = .ok (.aload_n 0, 1) := by decide +kernel
theorem dX3_clear_16 : decode cX3_clear 16 = .ok (.iconst 0, 1) := by decide +kernel
theorem dX3_clear_17 : decode cX3_clear 17 = .ok (.putfield 39, 3) := by decide +kernel
theorem dX3_clear_20 : decode cX3_clear 20 = .ok (.return_, 1) := by decide +kernel
theorem dJ9_max_7cf53_0 : decode cJ9_max_7cf53 0 = .ok (.iload_n 0, 1) := by decide +kernel
theorem dJ9_max_7cf53_1 : decode cJ9_max_7cf53 1 = .ok (.iload_n 1, 1) := by decide +kernel
theorem dJ9_max_7cf53_2 : decode cJ9_max_7cf53 2 = .ok (.if_icmp .lt 7, 3) := by decide +kernel
theorem dJ9_max_7cf53_5 : decode cJ9_max_7cf53 5 = .ok (.iload_n 0, 1) := by decide +kernel
theorem dJ9_max_7cf53_6 : decode cJ9_max_7cf53 6 = .ok (.goto 4, 3) := by decide +kernel
theorem dJ9_max_7cf53_9 : decode cJ9_max_7cf53 9 = .ok (.iload_n 1, 1) := by decide +kernel
theorem dJ9_max_7cf53_10 : decode cJ9_max_7cf53 10 = .ok (.ireturn, 1) := by decide +kernel
theorem dJ9_min_7cf53_0 : decode cJ9_min_7cf53 0 = .ok (.iload_n 0, 1) := by decide +kernel
theorem dJ9_min_7cf53_1 : decode cJ9_min_7cf53 1 = .ok (.iload_n 1, 1) := by decide +kernel
theorem dJ9_min_7cf53_2 : decode cJ9_min_7cf53 2 = .ok (.if_icmp .gt 7, 3) := by decide +kernel
theorem dJ9_min_7cf53_5 : decode cJ9_min_7cf53 5 = .ok (.iload_n 0, 1) := by decide +kernel
theorem dJ9_min_7cf53_6 : decode cJ9_min_7cf53 6 = .ok (.goto 4, 3) := by decide +kernel
theorem dJ9_min_7cf53_9 : decode cJ9_min_7cf53 9 = .ok (.iload_n 1, 1) := by decide +kernel
theorem dJ9_min_7cf53_10 : decode cJ9_min_7cf53 10 = .ok (.ireturn, 1) := by decide +kernel
theorem dL_cell_0 : decode cL_cell 0 = .ok (.iload_n 1, 1) := by decide +kernel
theorem dL_cell_1 : decode cL_cell 1 = .ok (.aload_n 0, 1) := by decide +kernel
theorem dL_cell_2 : decode cL_cell 2 = .ok (.arraylength, 1) := by decide +kernel
theorem dL_cell_3 : decode cL_cell 3 = .ok (.if_icmp .ge 9, 3) := by decide +kernel
theorem dL_cell_6 : decode cL_cell 6 = .ok (.aload_n 0, 1) := by decide +kernel
theorem dL_cell_7 : decode cL_cell 7 = .ok (.iload_n 1, 1) := by decide +kernel
theorem dL_cell_8 : decode cL_cell 8 = .ok (.iaload, 1) := by decide +kernel
theorem dL_cell_9 : decode cL_cell 9 = .ok (.goto 4, 3) := by decide +kernel
theorem dL_cell_12 : decode cL_cell 12 = .ok (.iconst 0, 1) := by decide +kernel
theorem dL_cell_13 : decode cL_cell 13 = .ok (.ireturn, 1) := by decide +kernel
set_option maxRecDepth 20000 in
theorem ggL_law_L_cell : GoodIn wsL_law wsL_cell := goodIn_r _ [9] (by decide +kernel) (by decide +kernel)
set_option maxRecDepth 20000 in
theorem gL_law_L_cell : GoodIn wsL_law (va_wsS RL 9 yL_cell wsL_cell) := goodIn_app (goodIn_of _ (by decide +kernel)) ggL_law_L_cell
set_option maxRecDepth 20000 in
theorem ggL_law_X2_init : GoodIn wsL_law wsX2_init := goodIn_r _ [12, 13, 14, 15, 16, 17, 18, 19, 20, 21, 22, 23, 24, 25, 26, 27, 28, 29, 30, 2, 31, 32, 33, 34, 35, 36, 37, 38, 39, 40, 41, 42, 43, 44, 45, 46, 47, 48, 49, 50, 51, 52, 53, 54, 55, 56, 57, 58, 59, 60, 61, 62, 63, 64, 65, 66, 67, 68, 69, 385, 386, 387, 388, 389, 390, 391, 392, 393, 394, 395, 396, 410, 411, 412, 413, 414, 415, 416, 417, 418, 419, 420, 421, 422, 423, 424, 425, 426, 427] (by decide +kernel) (by decide +kernel)
set_option maxRecDepth 20000 in
theorem gL_law_X2_init : GoodIn wsL_law (wsX2_init) := ggL_law_X2_init
set_option maxRecDepth 20000 in
theorem ggL_law_X3_init : GoodIn wsL_law wsX3_init := goodIn_r _ [72, 73, 14, 15, 25, 74, 75, 76, 77, 78, 79, 80, 397, 398, 399, 400, 401, 402, 403, 404, 405, 406, 407, 408, 409] (by decide +kernel) (by decide +kernel)
set_option maxRecDepth 20000 in
theorem gL_law_X3_init : GoodIn wsL_law (wsX3_init) := ggL_law_X3_init
set_option maxRecDepth 20000 in
theorem ggL_law_X2_feed : GoodIn wsL_law wsX2_feed := goodIn_r _ [84, 85, 22, 86, 87, 88, 89, 2, 90, 16, 91, 92, 93, 94, 95, 385, 386, 387, 388, 389, 390, 391, 392, 393, 394, 395, 396] (by decide +kernel) (by decide +kernel)
set_option maxRecDepth 20000 in
theorem gL_law_X2_feed : GoodIn wsL_law (wsV RL 21 RX2 yX2_feed wsX2_feed) := goodIn_app (goodIn_of _ (by decide +kernel)) ggL_law_X2_feed
set_option maxRecDepth 20000 in
theorem ggL_law_X3_feed : GoodIn wsL_law wsX3_feed := goodIn_r _ [99, 79, 100, 78, 74, 101, 102, 397, 398, 399, 400, 401, 402, 403, 404, 405, 406, 407, 408, 409] (by decide +kernel) (by decide +kernel)
set_option maxRecDepth 20000 in
theorem gL_law_X3_feed : GoodIn wsL_law (wsV RL 25 RX3 yX3_feed wsX3_feed) := goodIn_app (goodIn_of _ (by decide +kernel)) ggL_law_X3_feed
set_option maxRecDepth 20000 in
theorem ggL_law_X2_feedAll : GoodIn wsL_law wsX2_feedAll := goodIn_r _ [106, 107, 108, 2, 109, 110, 82, 83, 84, 85, 22, 86, 87, 88, 89, 90, 16, 91, 92, 93, 94, 95, 385, 386, 387, 388, 389, 390, 391, 392, 393, 394, 395, 396] (by decide +kernel) (by decide +kernel)
set_option maxRecDepth 20000 in
theorem gL_law_X2_feedAll : GoodIn wsL_law (wsV RL 26 RX2 yX2_feedAll wsX2_feedAll) := goodIn_app (goodIn_of _ (by decide +kernel)) ggL_law_X2_feedAll
set_option maxRecDepth 20000 in
theorem ggL_law_X3_feedAll : GoodIn wsL_law wsX3_feedAll := goodIn_r _ [114, 115, 97, 98, 5, 99, 79, 100, 78, 74, 101, 102, 397, 398, 399, 400, 401, 402, 403, 404, 405, 406, 407, 408, 409] (by decide +kernel) (by decide +kernel)
set_option maxRecDepth 20000 in
theorem gL_law_X3_feedAll : GoodIn wsL_law (wsV RL 30 RX3 yX3_feedAll wsX3_feedAll) := goodIn_app (goodIn_of _ (by decide +kernel)) ggL_law_X3_feedAll
set_option maxRecDepth 20000 in
theorem ggL_law_X2_build : GoodIn wsL_law wsX2_build := goodIn_r _ [119, 86, 20, 85, 120, 121, 122, 19, 123, 44, 48, 57, 124, 125, 126, 46, 127, 69, 128, 33, 34, 35, 129, 130, 131, 132, 133, 134, 56, 135, 136, 137, 138, 49, 51, 139, 140, 141, 142, 143, 144, 145, 146, 54, 147, 148, 149, 150, 151, 152, 153, 154, 155, 156, 157, 158, 159, 55, 160, 161, 162, 163, 164, 2, 165, 166, 167, 168, 169, 58, 59, 170, 171, 172, 173, 174, 175, 52, 176, 177, 178, 179, 60, 180, 181, 182, 183, 184, 185, 186, 187, 188, 189, 190, 191, 192, 193, 194, 195, 196, 197, 198, 199, 200, 201, 202, 203, 204, 205, 206, 207, 208, 209, 210, 211, 212, 213, 214, 215, 216, 217, 218, 219, 220, 221, 222, 223, 27, 24, 224, 225, 226, 227, 228, 28, 36, 37, 38, 229, 230, 231, 232, 233, 22, 385, 386, 387, 388, 389, 390, 391, 392, 393, 394, 395, 396, 410, 411, 412, 413, 414, 415, 416, 417, 418, 419, 420, 421, 422, 423, 424, 425, 426, 427] (by decide +kernel) (by decide +kernel)
set_option maxRecDepth 20000 in
theorem gL_law_X2_build : GoodIn wsL_law (wsV RL 31 RX2 yX2_build wsX2_build) := goodIn_app (goodIn_of _ (by decide +kernel)) ggL_law_X2_build
set_option maxRecDepth 20000 in
theorem ggL_law_X3_build : GoodIn wsL_law wsX3_build := goodIn_r _ [237, 101, 100, 75, 76, 238, 239, 240, 5, 241, 74, 242, 243, 244, 245, 397, 398, 399, 400, 401, 402, 403, 404, 405, 406, 407, 408, 409] (by decide +kernel) (by decide +kernel)
set_option maxRecDepth 20000 in
theorem gL_law_X3_build : GoodIn wsL_law (wsV RL 35 RX3 yX3_build wsX3_build) := goodIn_app (goodIn_of _ (by decide +kernel)) ggL_law_X3_build
set_option maxRecDepth 20000 in
theorem ggL_law_X2_sa : GoodIn wsL_law wsX2_sa := goodIn_r _ [249, 24, 250, 251, 252, 2, 253, 86, 85, 385, 386, 387, 388, 389, 390, 391, 392, 393, 394, 395, 396] (by decide +kernel) (by decide +kernel)
set_option maxRecDepth 20000 in
theorem gL_law_X2_sa : GoodIn wsL_law (wsV RL 36 RX2 yX2_sa wsX2_sa) := goodIn_app (goodIn_of _ (by decide +kernel)) ggL_law_X2_sa
set_option maxRecDepth 20000 in
theorem ggL_law_X3_sa : GoodIn wsL_law wsX3_sa := goodIn_r _ [257, 75, 258, 259, 260, 5, 261, 101, 100, 397, 398, 399, 400, 401, 402, 403, 404, 405, 406, 407, 408, 409] (by decide +kernel) (by decide +kernel)
set_option maxRecDepth 20000 in
theorem gL_law_X3_sa : GoodIn wsL_law (wsV RL 40 RX3 yX3_sa wsX3_sa) := goodIn_app (goodIn_of _ (by decide +kernel)) ggL_law_X3_sa
set_option maxRecDepth 20000 in
theorem ggL_law_X2_lcp : GoodIn wsL_law wsX2_lcp := goodIn_r _ [265, 28, 250, 251, 252, 2, 253, 86, 85, 385, 386, 387, 388, 389, 390, 391, 392, 393, 394, 395, 396] (by decide +kernel) (by decide +kernel)
set_option maxRecDepth 20000 in
theorem gL_law_X2_lcp : GoodIn wsL_law (wsV RL 41 RX2 yX2_lcp wsX2_lcp) := goodIn_app (goodIn_of _ (by decide +kernel)) ggL_law_X2_lcp
set_option maxRecDepth 20000 in
theorem ggL_law_X3_lcp : GoodIn wsL_law wsX3_lcp := goodIn_r _ [269, 75, 258, 259, 260, 5, 261, 101, 100, 242, 243, 244, 245, 74, 397, 398, 399, 400, 401, 402, 403, 404, 405, 406, 407, 408, 409] (by decide +kernel) (by decide +kernel)
set_option maxRecDepth 20000 in
theorem gL_law_X3_lcp : GoodIn wsL_law (wsV RL 44 RX3 yX3_lcp wsX3_lcp) := goodIn_app (goodIn_of _ (by decide +kernel)) ggL_law_X3_lcp
set_option maxRecDepth 20000 in
theorem ggL_law_X2_rank : GoodIn wsL_law wsX2_rank := goodIn_r _ [273, 27, 250, 251, 252, 2, 253, 86, 85, 385, 386, 387, 388, 389, 390, 391, 392, 393, 394, 395, 396] (by decide +kernel) (by decide +kernel)
set_option maxRecDepth 20000 in
theorem gL_law_X2_rank : GoodIn wsL_law (wsV RL 45 RX2 yX2_rank wsX2_rank) := goodIn_app (goodIn_of _ (by decide +kernel)) ggL_law_X2_rank
set_option maxRecDepth 20000 in
theorem ggL_law_X3_rank : GoodIn wsL_law wsX3_rank := goodIn_r _ [277, 75, 258, 259, 260, 5, 261, 101, 100, 397, 398, 399, 400, 401, 402, 403, 404, 405, 406, 407, 408, 409] (by decide +kernel) (by decide +kernel)
set_option maxRecDepth 20000 in
theorem gL_law_X3_rank : GoodIn wsL_law (wsV RL 48 RX3 yX3_rank wsX3_rank) := goodIn_app (goodIn_of _ (by decide +kernel)) ggL_law_X3_rank
set_option maxRecDepth 20000 in
theorem ggL_law_X2_common : GoodIn wsL_law wsX2_common := goodIn_r _ [281, 250, 251, 252, 2, 253, 86, 85, 230, 231, 232, 233, 36, 37, 34, 38, 22, 229, 170, 171, 385, 386, 387, 388, 389, 390, 391, 392, 393, 394, 395, 396] (by decide +kernel) (by decide +kernel)
set_option maxRecDepth 20000 in
theorem gL_law_X2_common : GoodIn wsL_law (wsV RL 49 RX2 yX2_common wsX2_common) := goodIn_app (goodIn_of _ (by decide +kernel)) ggL_law_X2_common
set_option maxRecDepth 20000 in
theorem ggL_law_X3_common : GoodIn wsL_law wsX3_common := goodIn_r _ [285, 258, 259, 260, 5, 261, 101, 100, 242, 243, 244, 245, 74, 397, 398, 399, 400, 401, 402, 403, 404, 405, 406, 407, 408, 409] (by decide +kernel) (by decide +kernel)
set_option maxRecDepth 20000 in
theorem gL_law_X3_common : GoodIn wsL_law (wsV RL 53 RX3 yX3_common wsX3_common) := goodIn_app (goodIn_of _ (by decide +kernel)) ggL_law_X3_common
set_option maxRecDepth 20000 in
theorem ggL_law_X2_patFeed : GoodIn wsL_law wsX2_patFeed := goodIn_r _ [289, 290, 26, 87, 88, 89, 2, 90, 16, 91, 92, 93, 94, 95, 385, 386, 387, 388, 389, 390, 391, 392, 393, 394, 395, 396] (by decide +kernel) (by decide +kernel)
set_option maxRecDepth 20000 in
theorem gL_law_X2_patFeed : GoodIn wsL_law (wsV RL 54 RX2 yX2_patFeed wsX2_patFeed) := goodIn_app (goodIn_of _ (by decide +kernel)) ggL_law_X2_patFeed
set_option maxRecDepth 20000 in
theorem ggL_law_X3_patFeed : GoodIn wsL_law wsX3_patFeed := goodIn_r _ [294, 79, 295, 80, 77, 102, 397, 398, 399, 400, 401, 402, 403, 404, 405, 406, 407, 408, 409] (by decide +kernel) (by decide +kernel)
set_option maxRecDepth 20000 in
theorem gL_law_X3_patFeed : GoodIn wsL_law (wsV RL 57 RX3 yX3_patFeed wsX3_patFeed) := goodIn_app (goodIn_of _ (by decide +kernel)) ggL_law_X3_patFeed
set_option maxRecDepth 20000 in
theorem ggL_law_X2_patClear : GoodIn wsL_law wsX2_patClear := goodIn_r _ [299, 290, 91, 92, 93, 2, 94, 95, 385, 386, 387, 388, 389, 390, 391, 392, 393, 394, 395, 396] (by decide +kernel) (by decide +kernel)
set_option maxRecDepth 20000 in
theorem gL_law_X2_patClear : GoodIn wsL_law (wsV RL 58 RX2 yX2_patClear wsX2_patClear) := goodIn_app (goodIn_of _ (by decide +kernel)) ggL_law_X2_patClear
set_option maxRecDepth 20000 in
theorem ggL_law_X3_patClear : GoodIn wsL_law wsX3_patClear := goodIn_r _ [303, 295, 102, 397, 398, 399, 400, 401, 402, 403, 404, 405, 406, 407, 408, 409] (by decide +kernel) (by decide +kernel)
set_option maxRecDepth 20000 in
theorem gL_law_X3_patClear : GoodIn wsL_law (wsV RL 61 RX3 yX3_patClear wsX3_patClear) := goodIn_app (goodIn_of _ (by decide +kernel)) ggL_law_X3_patClear
set_option maxRecDepth 20000 in
theorem ggL_law_X2_search : GoodIn wsL_law wsX2_search := goodIn_r _ [307, 86, 308, 95, 309, 310, 311, 2, 312, 85, 24, 229, 170, 171, 313, 314, 315, 316, 290, 22, 26, 385, 386, 387, 388, 389, 390, 391, 392, 393, 394, 395, 396] (by decide +kernel) (by decide +kernel)
set_option maxRecDepth 20000 in
theorem gL_law_X2_search : GoodIn wsL_law (wsV RL 62 RX2 yX2_search wsX2_search) := goodIn_app (goodIn_of _ (by decide +kernel)) ggL_law_X2_search
set_option maxRecDepth 20000 in
theorem ggL_law_X3_search : GoodIn wsL_law wsX3_search := goodIn_r _ [320, 101, 102, 321, 100, 75, 322, 323, 324, 325, 5, 326, 295, 74, 77, 397, 398, 399, 400, 401, 402, 403, 404, 405, 406, 407, 408, 409] (by decide +kernel) (by decide +kernel)
set_option maxRecDepth 20000 in
theorem gL_law_X3_search : GoodIn wsL_law (wsV RL 65 RX3 yX3_search wsX3_search) := goodIn_app (goodIn_of _ (by decide +kernel)) ggL_law_X3_search
set_option maxRecDepth 20000 in
theorem ggL_law_X2_hit : GoodIn wsL_law wsX2_hit := goodIn_r _ [330, 95, 24, 308, 229, 170, 2, 171, 385, 386, 387, 388, 389, 390, 391, 392, 393, 394, 395, 396] (by decide +kernel) (by decide +kernel)
set_option maxRecDepth 20000 in
theorem gL_law_X2_hit : GoodIn wsL_law (wsV RL 66 RX2 yX2_hit wsX2_hit) := goodIn_app (goodIn_of _ (by decide +kernel)) ggL_law_X2_hit
set_option maxRecDepth 20000 in
theorem ggL_law_X3_hit : GoodIn wsL_law wsX3_hit := goodIn_r _ [334, 102, 321, 75, 322, 397, 398, 399, 400, 401, 402, 403, 404, 405, 406, 407, 408, 409] (by decide +kernel) (by decide +kernel)
set_option maxRecDepth 20000 in
theorem gL_law_X3_hit : GoodIn wsL_law (wsV RL 69 RX3 yX3_hit wsX3_hit) := goodIn_app (goodIn_of _ (by decide +kernel)) ggL_law_X3_hit
set_option maxRecDepth 20000 in
theorem ggL_law_X2_repeated : GoodIn wsL_law wsX2_repeated := goodIn_r _ [338, 86, 339, 340, 341, 2, 342, 85, 28, 36, 37, 34, 38, 385, 386, 387, 388, 389, 390, 391, 392, 393, 394, 395, 396] (by decide +kernel) (by decide +kernel)
set_option maxRecDepth 20000 in
theorem gL_law_X2_repeated : GoodIn wsL_law (wsV RL 70 RX2 yX2_repeated wsX2_repeated) := goodIn_app (goodIn_of _ (by decide +kernel)) ggL_law_X2_repeated
set_option maxRecDepth 20000 in
theorem ggL_law_X3_repeated : GoodIn wsL_law wsX3_repeated := goodIn_r _ [346, 101, 100, 75, 242, 243, 244, 5, 245, 74, 397, 398, 399, 400, 401, 402, 403, 404, 405, 406, 407, 408, 409] (by decide +kernel) (by decide +kernel)
set_option maxRecDepth 20000 in
theorem gL_law_X3_repeated : GoodIn wsL_law (wsV RL 73 RX3 yX3_repeated wsX3_repeated) := goodIn_app (goodIn_of _ (by decide +kernel)) ggL_law_X3_repeated
set_option maxRecDepth 20000 in
theorem ggL_law_X2_repeatedAt : GoodIn wsL_law wsX2_repeatedAt := goodIn_r _ [350, 86, 339, 340, 341, 2, 342, 85, 28, 36, 37, 34, 38, 351, 352, 353, 354, 24, 32, 33, 35, 229, 170, 171, 385, 386, 387, 388, 389, 390, 391, 392, 393, 394, 395, 396] (by decide +kernel) (by decide +kernel)
set_option maxRecDepth 20000 in
theorem gL_law_X2_repeatedAt : GoodIn wsL_law (wsV RL 74 RX2 yX2_repeatedAt wsX2_repeatedAt) := goodIn_app (goodIn_of _ (by decide +kernel)) ggL_law_X2_repeatedAt
set_option maxRecDepth 20000 in
theorem ggL_law_X3_repeatedAt : GoodIn wsL_law wsX3_repeatedAt := goodIn_r _ [358, 75, 100, 359, 344, 345, 5, 346, 101, 242, 243, 244, 245, 74, 397, 398, 399, 400, 401, 402, 403, 404, 405, 406, 407, 408, 409] (by decide +kernel) (by decide +kernel)
set_option maxRecDepth 20000 in
theorem gL_law_X3_repeatedAt : GoodIn wsL_law (wsV RL 77 RX3 yX3_repeatedAt wsX3_repeatedAt) := goodIn_app (goodIn_of _ (by decide +kernel)) ggL_law_X3_repeatedAt
set_option maxRecDepth 20000 in
theorem ggL_law_X2_different : GoodIn wsL_law wsX2_different := goodIn_r _ [363, 86, 85, 24, 28, 385, 386, 387, 388, 389, 390, 391, 392, 393, 394, 395, 396] (by decide +kernel) (by decide +kernel)
set_option maxRecDepth 20000 in
theorem gL_law_X2_different : GoodIn wsL_law (wsV RL 78 RX2 yX2_different wsX2_different) := goodIn_app (goodIn_of _ (by decide +kernel)) ggL_law_X2_different
set_option maxRecDepth 20000 in
theorem ggL_law_X3_different : GoodIn wsL_law wsX3_different := goodIn_r _ [367, 101, 100, 75, 242, 243, 244, 5, 245, 74, 397, 398, 399, 400, 401, 402, 403, 404, 405, 406, 407, 408, 409] (by decide +kernel) (by decide +kernel)
set_option maxRecDepth 20000 in
theorem gL_law_X3_different : GoodIn wsL_law (wsV RL 81 RX3 yX3_different wsX3_different) := goodIn_app (goodIn_of _ (by decide +kernel)) ggL_law_X3_different
set_option maxRecDepth 20000 in
theorem ggL_law_X2_count : GoodIn wsL_law wsX2_count := goodIn_r _ [371, 85, 290, 86, 22, 16, 26, 385, 386, 387, 388, 389, 390, 391, 392, 393, 394, 395, 396] (by decide +kernel) (by decide +kernel)
set_option maxRecDepth 20000 in
theorem gL_law_X2_count : GoodIn wsL_law (wsV RL 82 RX2 yX2_count wsX2_count) := goodIn_app (goodIn_of _ (by decide +kernel)) ggL_law_X2_count
set_option maxRecDepth 20000 in
theorem ggL_law_X3_count : GoodIn wsL_law wsX3_count := goodIn_r _ [375, 100, 295, 101, 78, 79, 80, 397, 398, 399, 400, 401, 402, 403, 404, 405, 406, 407, 408, 409] (by decide +kernel) (by decide +kernel)
set_option maxRecDepth 20000 in
theorem gL_law_X3_count : GoodIn wsL_law (wsV RL 85 RX3 yX3_count wsX3_count) := goodIn_app (goodIn_of _ (by decide +kernel)) ggL_law_X3_count
set_option maxRecDepth 20000 in
theorem ggL_law_X2_clear : GoodIn wsL_law wsX2_clear := goodIn_r _ [379, 85, 86, 380, 297, 298, 2, 299, 290, 91, 92, 93, 94, 95, 385, 386, 387, 388, 389, 390, 391, 392, 393, 394, 395, 396] (by decide +kernel) (by decide +kernel)
set_option maxRecDepth 20000 in
theorem gL_law_X2_clear : GoodIn wsL_law (wsV RL 86 RX2 yX2_clear wsX2_clear) := goodIn_app (goodIn_of _ (by decide +kernel)) ggL_law_X2_clear
set_option maxRecDepth 20000 in
theorem ggL_law_X3_clear : GoodIn wsL_law wsX3_clear := goodIn_r _ [384, 100, 295, 101, 102, 397, 398, 399, 400, 401, 402, 403, 404, 405, 406, 407, 408, 409] (by decide +kernel) (by decide +kernel)
set_option maxRecDepth 20000 in
theorem gL_law_X3_clear : GoodIn wsL_law (wsV RL 89 RX3 yX3_clear wsX3_clear) := goodIn_app (goodIn_of _ (by decide +kernel)) ggL_law_X3_clear
theorem dL_law_0 : decode cL_law 0 = .ok (.new 7, 3) := by decide +kernel
theorem dL_law_3 : decode cL_law 3 = .ok (.dup, 1) := by decide +kernel
theorem dL_law_4 : decode cL_law 4 = .ok (.aload_n 0, 1) := by decide +kernel
theorem dL_law_5 : decode cL_law 5 = .ok (.iconst 0, 1) := by decide +kernel
theorem dL_law_6 : decode cL_law 6 = .ok (.invokestatic 9, 3) := by decide +kernel
theorem dL_law_9 : decode cL_law 9 = .ok (.aload_n 0, 1) := by decide +kernel
theorem dL_law_10 : decode cL_law 10 = .ok (.iconst 1, 1) := by decide +kernel
theorem dL_law_11 : decode cL_law 11 = .ok (.invokestatic 9, 3) := by decide +kernel
theorem dL_law_14 : decode cL_law 14 = .ok (.aload_n 0, 1) := by decide +kernel
theorem dL_law_15 : decode cL_law 15 = .ok (.iconst 2, 1) := by decide +kernel
theorem dL_law_16 : decode cL_law 16 = .ok (.invokestatic 9, 3) := by decide +kernel
theorem dL_law_19 : decode cL_law 19 = .ok (.invokespecial 15, 3) := by decide +kernel
theorem dL_law_22 : decode cL_law 22 = .ok (.astore_n 1, 1) := by decide +kernel
theorem dL_law_23 : decode cL_law 23 = .ok (.new 18, 3) := by decide +kernel
theorem dL_law_26 : decode cL_law 26 = .ok (.dup, 1) := by decide +kernel
theorem dL_law_27 : decode cL_law 27 = .ok (.aload_n 0, 1) := by decide +kernel
theorem dL_law_28 : decode cL_law 28 = .ok (.iconst 0, 1) := by decide +kernel
theorem dL_law_29 : decode cL_law 29 = .ok (.invokestatic 9, 3) := by decide +kernel
theorem dL_law_32 : decode cL_law 32 = .ok (.aload_n 0, 1) := by decide +kernel
theorem dL_law_33 : decode cL_law 33 = .ok (.iconst 1, 1) := by decide +kernel
theorem dL_law_34 : decode cL_law 34 = .ok (.invokestatic 9, 3) := by decide +kernel
theorem dL_law_37 : decode cL_law 37 = .ok (.aload_n 0, 1) := by decide +kernel
theorem dL_law_38 : decode cL_law 38 = .ok (.iconst 2, 1) := by decide +kernel
theorem dL_law_39 : decode cL_law 39 = .ok (.invokestatic 9, 3) := by decide +kernel
theorem dL_law_42 : decode cL_law 42 = .ok (.invokespecial 20, 3) := by decide +kernel
theorem dL_law_45 : decode cL_law 45 = .ok (.astore_n 2, 1) := by decide +kernel
theorem dL_law_46 : decode cL_law 46 = .ok (.iconst 3, 1) := by decide +kernel
theorem dL_law_47 : decode cL_law 47 = .ok (.istore_n 3, 1) := by decide +kernel
theorem dL_law_48 : decode cL_law 48 = .ok (.iload_n 3, 1) := by decide +kernel
theorem dL_law_49 : decode cL_law 49 = .ok (.aload_n 0, 1) := by decide +kernel
theorem dL_law_50 : decode cL_law 50 = .ok (.arraylength, 1) := by decide +kernel
theorem dL_law_51 : decode cL_law 51 = .ok (.bipush 6, 2) := by decide +kernel
theorem dL_law_53 : decode cL_law 53 = .ok (.isub, 1) := by decide +kernel
theorem dL_law_54 : decode cL_law 54 = .ok (.if_icmp .gt 436, 3) := by decide +kernel
theorem dL_law_57 : decode cL_law 57 = .ok (.aload_n 0, 1) := by decide +kernel
theorem dL_law_58 : decode cL_law 58 = .ok (.iload_n 3, 1) := by decide +kernel
theorem dL_law_59 : decode cL_law 59 = .ok (.iaload, 1) := by decide +kernel
theorem dL_law_60 : decode cL_law 60 = .ok (.bipush 15, 2) := by decide +kernel
theorem dL_law_62 : decode cL_law 62 = .ok (.iand, 1) := by decide +kernel
theorem dL_law_63 : decode cL_law 63 = .ok (.tableswitch 421 0 15 #[77, 100, 163, 176, 199, 222, 245, 278, 301, 312, 325, 348, 361, 374, 387, 410], 77) := by decide +kernel
theorem dL_law_140 : decode cL_law 140 = .ok (.aload_n 1, 1) := by decide +kernel
theorem dL_law_141 : decode cL_law 141 = .ok (.aload_n 0, 1) := by decide +kernel
theorem dL_law_142 : decode cL_law 142 = .ok (.iload_n 3, 1) := by decide +kernel
theorem dL_law_143 : decode cL_law 143 = .ok (.iconst 1, 1) := by decide +kernel
theorem dL_law_144 : decode cL_law 144 = .ok (.iadd, 1) := by decide +kernel
theorem dL_law_145 : decode cL_law 145 = .ok (.iaload, 1) := by decide +kernel
theorem dL_law_146 : decode cL_law 146 = .ok (.invokevirtual 21, 3) := by decide +kernel
theorem dL_law_149 : decode cL_law 149 = .ok (.aload_n 2, 1) := by decide +kernel
theorem dL_law_150 : decode cL_law 150 = .ok (.aload_n 0, 1) := by decide +kernel
theorem dL_law_151 : decode cL_law 151 = .ok (.iload_n 3, 1) := by decide +kernel
theorem dL_law_152 : decode cL_law 152 = .ok (.iconst 1, 1) := by decide +kernel
theorem dL_law_153 : decode cL_law 153 = .ok (.iadd, 1) := by decide +kernel
theorem dL_law_154 : decode cL_law 154 = .ok (.iaload, 1) := by decide +kernel
theorem dL_law_155 : decode cL_law 155 = .ok (.invokevirtual 25, 3) := by decide +kernel
theorem dL_law_158 : decode cL_law 158 = .ok (.if_icmp .eq 326, 3) := by decide +kernel
theorem dL_law_161 : decode cL_law 161 = .ok (.iconst 0, 1) := by decide +kernel
theorem dL_law_162 : decode cL_law 162 = .ok (.ireturn, 1) := by decide +kernel
theorem dL_law_163 : decode cL_law 163 = .ok (.aload_n 1, 1) := by decide +kernel
theorem dL_law_164 : decode cL_law 164 = .ok (.aload_n 0, 1) := by decide +kernel
theorem dL_law_165 : decode cL_law 165 = .ok (.iload_n 3, 1) := by decide +kernel
theorem dL_law_166 : decode cL_law 166 = .ok (.iconst 1, 1) := by decide +kernel
theorem dL_law_167 : decode cL_law 167 = .ok (.iadd, 1) := by decide +kernel
theorem dL_law_168 : decode cL_law 168 = .ok (.iaload, 1) := by decide +kernel
theorem dL_law_169 : decode cL_law 169 = .ok (.aload_n 0, 1) := by decide +kernel
theorem dL_law_170 : decode cL_law 170 = .ok (.iload_n 3, 1) := by decide +kernel
theorem dL_law_171 : decode cL_law 171 = .ok (.iconst 2, 1) := by decide +kernel
theorem dL_law_172 : decode cL_law 172 = .ok (.iadd, 1) := by decide +kernel
theorem dL_law_173 : decode cL_law 173 = .ok (.iaload, 1) := by decide +kernel
theorem dL_law_174 : decode cL_law 174 = .ok (.aload_n 0, 1) := by decide +kernel
theorem dL_law_175 : decode cL_law 175 = .ok (.iload_n 3, 1) := by decide +kernel
theorem dL_law_176 : decode cL_law 176 = .ok (.iconst 3, 1) := by decide +kernel
theorem dL_law_177 : decode cL_law 177 = .ok (.iadd, 1) := by decide +kernel
theorem dL_law_178 : decode cL_law 178 = .ok (.iaload, 1) := by decide +kernel
theorem dL_law_179 : decode cL_law 179 = .ok (.aload_n 0, 1) := by decide +kernel
theorem dL_law_180 : decode cL_law 180 = .ok (.iload_n 3, 1) := by decide +kernel
theorem dL_law_181 : decode cL_law 181 = .ok (.iconst 4, 1) := by decide +kernel
theorem dL_law_182 : decode cL_law 182 = .ok (.iadd, 1) := by decide +kernel
theorem dL_law_183 : decode cL_law 183 = .ok (.iaload, 1) := by decide +kernel
theorem dL_law_184 : decode cL_law 184 = .ok (.aload_n 0, 1) := by decide +kernel
theorem dL_law_185 : decode cL_law 185 = .ok (.iload_n 3, 1) := by decide +kernel
theorem dL_law_186 : decode cL_law 186 = .ok (.iconst 5, 1) := by decide +kernel
theorem dL_law_187 : decode cL_law 187 = .ok (.iadd, 1) := by decide +kernel
theorem dL_law_188 : decode cL_law 188 = .ok (.iaload, 1) := by decide +kernel
theorem dL_law_189 : decode cL_law 189 = .ok (.invokevirtual 26, 3) := by decide +kernel
theorem dL_law_192 : decode cL_law 192 = .ok (.aload_n 2, 1) := by decide +kernel
theorem dL_law_193 : decode cL_law 193 = .ok (.aload_n 0, 1) := by decide +kernel
theorem dL_law_194 : decode cL_law 194 = .ok (.iload_n 3, 1) := by decide +kernel
theorem dL_law_195 : decode cL_law 195 = .ok (.iconst 1, 1) := by decide +kernel
theorem dL_law_196 : decode cL_law 196 = .ok (.iadd, 1) := by decide +kernel
theorem dL_law_197 : decode cL_law 197 = .ok (.iaload, 1) := by decide +kernel
theorem dL_law_198 : decode cL_law 198 = .ok (.aload_n 0, 1) := by decide +kernel
theorem dL_law_199 : decode cL_law 199 = .ok (.iload_n 3, 1) := by decide +kernel
theorem dL_law_200 : decode cL_law 200 = .ok (.iconst 2, 1) := by decide +kernel
theorem dL_law_201 : decode cL_law 201 = .ok (.iadd, 1) := by decide +kernel
theorem dL_law_202 : decode cL_law 202 = .ok (.iaload, 1) := by decide +kernel
theorem dL_law_203 : decode cL_law 203 = .ok (.aload_n 0, 1) := by decide +kernel
theorem dL_law_204 : decode cL_law 204 = .ok (.iload_n 3, 1) := by decide +kernel
theorem dL_law_205 : decode cL_law 205 = .ok (.iconst 3, 1) := by decide +kernel
theorem dL_law_206 : decode cL_law 206 = .ok (.iadd, 1) := by decide +kernel
theorem dL_law_207 : decode cL_law 207 = .ok (.iaload, 1) := by decide +kernel
theorem dL_law_208 : decode cL_law 208 = .ok (.aload_n 0, 1) := by decide +kernel
theorem dL_law_209 : decode cL_law 209 = .ok (.iload_n 3, 1) := by decide +kernel
theorem dL_law_210 : decode cL_law 210 = .ok (.iconst 4, 1) := by decide +kernel
theorem dL_law_211 : decode cL_law 211 = .ok (.iadd, 1) := by decide +kernel
theorem dL_law_212 : decode cL_law 212 = .ok (.iaload, 1) := by decide +kernel
theorem dL_law_213 : decode cL_law 213 = .ok (.aload_n 0, 1) := by decide +kernel
theorem dL_law_214 : decode cL_law 214 = .ok (.iload_n 3, 1) := by decide +kernel
theorem dL_law_215 : decode cL_law 215 = .ok (.iconst 5, 1) := by decide +kernel
theorem dL_law_216 : decode cL_law 216 = .ok (.iadd, 1) := by decide +kernel
theorem dL_law_217 : decode cL_law 217 = .ok (.iaload, 1) := by decide +kernel
theorem dL_law_218 : decode cL_law 218 = .ok (.invokevirtual 30, 3) := by decide +kernel
theorem dL_law_221 : decode cL_law 221 = .ok (.if_icmp .eq 263, 3) := by decide +kernel
theorem dL_law_224 : decode cL_law 224 = .ok (.iconst 0, 1) := by decide +kernel
theorem dL_law_225 : decode cL_law 225 = .ok (.ireturn, 1) := by decide +kernel
theorem dL_law_226 : decode cL_law 226 = .ok (.aload_n 1, 1) := by decide +kernel
theorem dL_law_227 : decode cL_law 227 = .ok (.invokevirtual 31, 3) := by decide +kernel
theorem dL_law_230 : decode cL_law 230 = .ok (.aload_n 2, 1) := by decide +kernel
theorem dL_law_231 : decode cL_law 231 = .ok (.invokevirtual 35, 3) := by decide +kernel
theorem dL_law_234 : decode cL_law 234 = .ok (.if_icmp .eq 250, 3) := by decide +kernel
theorem dL_law_237 : decode cL_law 237 = .ok (.iconst 0, 1) := by decide +kernel
theorem dL_law_238 : decode cL_law 238 = .ok (.ireturn, 1) := by decide +kernel
theorem dL_law_239 : decode cL_law 239 = .ok (.aload_n 1, 1) := by decide +kernel
theorem dL_law_240 : decode cL_law 240 = .ok (.aload_n 0, 1) := by decide +kernel
theorem dL_law_241 : decode cL_law 241 = .ok (.iload_n 3, 1) := by decide +kernel
theorem dL_law_242 : decode cL_law 242 = .ok (.iconst 1, 1) := by decide +kernel
theorem dL_law_243 : decode cL_law 243 = .ok (.iadd, 1) := by decide +kernel
theorem dL_law_244 : decode cL_law 244 = .ok (.iaload, 1) := by decide +kernel
theorem dL_law_245 : decode cL_law 245 = .ok (.invokevirtual 36, 3) := by decide +kernel
theorem dL_law_248 : decode cL_law 248 = .ok (.aload_n 2, 1) := by decide +kernel
theorem dL_law_249 : decode cL_law 249 = .ok (.aload_n 0, 1) := by decide +kernel
theorem dL_law_250 : decode cL_law 250 = .ok (.iload_n 3, 1) := by decide +kernel
theorem dL_law_251 : decode cL_law 251 = .ok (.iconst 1, 1) := by decide +kernel
theorem dL_law_252 : decode cL_law 252 = .ok (.iadd, 1) := by decide +kernel
theorem dL_law_253 : decode cL_law 253 = .ok (.iaload, 1) := by decide +kernel
theorem dL_law_254 : decode cL_law 254 = .ok (.invokevirtual 40, 3) := by decide +kernel
theorem dL_law_257 : decode cL_law 257 = .ok (.if_icmp .eq 227, 3) := by decide +kernel
theorem dL_law_260 : decode cL_law 260 = .ok (.iconst 0, 1) := by decide +kernel
theorem dL_law_261 : decode cL_law 261 = .ok (.ireturn, 1) := by decide +kernel
theorem dL_law_262 : decode cL_law 262 = .ok (.aload_n 1, 1) := by decide +kernel
theorem dL_law_263 : decode cL_law 263 = .ok (.aload_n 0, 1) := by decide +kernel
theorem dL_law_264 : decode cL_law 264 = .ok (.iload_n 3, 1) := by decide +kernel
theorem dL_law_265 : decode cL_law 265 = .ok (.iconst 1, 1) := by decide +kernel
theorem dL_law_266 : decode cL_law 266 = .ok (.iadd, 1) := by decide +kernel
theorem dL_law_267 : decode cL_law 267 = .ok (.iaload, 1) := by decide +kernel
theorem dL_law_268 : decode cL_law 268 = .ok (.invokevirtual 41, 3) := by decide +kernel
theorem dL_law_271 : decode cL_law 271 = .ok (.aload_n 2, 1) := by decide +kernel
theorem dL_law_272 : decode cL_law 272 = .ok (.aload_n 0, 1) := by decide +kernel
theorem dL_law_273 : decode cL_law 273 = .ok (.iload_n 3, 1) := by decide +kernel
theorem dL_law_274 : decode cL_law 274 = .ok (.iconst 1, 1) := by decide +kernel
theorem dL_law_275 : decode cL_law 275 = .ok (.iadd, 1) := by decide +kernel
theorem dL_law_276 : decode cL_law 276 = .ok (.iaload, 1) := by decide +kernel
theorem dL_law_277 : decode cL_law 277 = .ok (.invokevirtual 44, 3) := by decide +kernel
theorem dL_law_280 : decode cL_law 280 = .ok (.if_icmp .eq 204, 3) := by decide +kernel
theorem dL_law_283 : decode cL_law 283 = .ok (.iconst 0, 1) := by decide +kernel
theorem dL_law_284 : decode cL_law 284 = .ok (.ireturn, 1) := by decide +kernel
theorem dL_law_285 : decode cL_law 285 = .ok (.aload_n 1, 1) := by decide +kernel
theorem dL_law_286 : decode cL_law 286 = .ok (.aload_n 0, 1) := by decide +kernel
theorem dL_law_287 : decode cL_law 287 = .ok (.iload_n 3, 1) := by decide +kernel
theorem dL_law_288 : decode cL_law 288 = .ok (.iconst 1, 1) := by decide +kernel
theorem dL_law_289 : decode cL_law 289 = .ok (.iadd, 1) := by decide +kernel
theorem dL_law_290 : decode cL_law 290 = .ok (.iaload, 1) := by decide +kernel
theorem dL_law_291 : decode cL_law 291 = .ok (.invokevirtual 45, 3) := by decide +kernel
theorem dL_law_294 : decode cL_law 294 = .ok (.aload_n 2, 1) := by decide +kernel
theorem dL_law_295 : decode cL_law 295 = .ok (.aload_n 0, 1) := by decide +kernel
theorem dL_law_296 : decode cL_law 296 = .ok (.iload_n 3, 1) := by decide +kernel
theorem dL_law_297 : decode cL_law 297 = .ok (.iconst 1, 1) := by decide +kernel
theorem dL_law_298 : decode cL_law 298 = .ok (.iadd, 1) := by decide +kernel
theorem dL_law_299 : decode cL_law 299 = .ok (.iaload, 1) := by decide +kernel
theorem dL_law_300 : decode cL_law 300 = .ok (.invokevirtual 48, 3) := by decide +kernel
theorem dL_law_303 : decode cL_law 303 = .ok (.if_icmp .eq 181, 3) := by decide +kernel
theorem dL_law_306 : decode cL_law 306 = .ok (.iconst 0, 1) := by decide +kernel
theorem dL_law_307 : decode cL_law 307 = .ok (.ireturn, 1) := by decide +kernel
theorem dL_law_308 : decode cL_law 308 = .ok (.aload_n 1, 1) := by decide +kernel
theorem dL_law_309 : decode cL_law 309 = .ok (.aload_n 0, 1) := by decide +kernel
theorem dL_law_310 : decode cL_law 310 = .ok (.iload_n 3, 1) := by decide +kernel
theorem dL_law_311 : decode cL_law 311 = .ok (.iconst 1, 1) := by decide +kernel
theorem dL_law_312 : decode cL_law 312 = .ok (.iadd, 1) := by decide +kernel
theorem dL_law_313 : decode cL_law 313 = .ok (.iaload, 1) := by decide +kernel
theorem dL_law_314 : decode cL_law 314 = .ok (.aload_n 0, 1) := by decide +kernel
theorem dL_law_315 : decode cL_law 315 = .ok (.iload_n 3, 1) := by decide +kernel
theorem dL_law_316 : decode cL_law 316 = .ok (.iconst 2, 1) := by decide +kernel
theorem dL_law_317 : decode cL_law 317 = .ok (.iadd, 1) := by decide +kernel
theorem dL_law_318 : decode cL_law 318 = .ok (.iaload, 1) := by decide +kernel
theorem dL_law_319 : decode cL_law 319 = .ok (.invokevirtual 49, 3) := by decide +kernel
theorem dL_law_322 : decode cL_law 322 = .ok (.aload_n 2, 1) := by decide +kernel
theorem dL_law_323 : decode cL_law 323 = .ok (.aload_n 0, 1) := by decide +kernel
theorem dL_law_324 : decode cL_law 324 = .ok (.iload_n 3, 1) := by decide +kernel
theorem dL_law_325 : decode cL_law 325 = .ok (.iconst 1, 1) := by decide +kernel
theorem dL_law_326 : decode cL_law 326 = .ok (.iadd, 1) := by decide +kernel
theorem dL_law_327 : decode cL_law 327 = .ok (.iaload, 1) := by decide +kernel
theorem dL_law_328 : decode cL_law 328 = .ok (.aload_n 0, 1) := by decide +kernel
theorem dL_law_329 : decode cL_law 329 = .ok (.iload_n 3, 1) := by decide +kernel
theorem dL_law_330 : decode cL_law 330 = .ok (.iconst 2, 1) := by decide +kernel
theorem dL_law_331 : decode cL_law 331 = .ok (.iadd, 1) := by decide +kernel
theorem dL_law_332 : decode cL_law 332 = .ok (.iaload, 1) := by decide +kernel
theorem dL_law_333 : decode cL_law 333 = .ok (.invokevirtual 53, 3) := by decide +kernel
theorem dL_law_336 : decode cL_law 336 = .ok (.if_icmp .eq 148, 3) := by decide +kernel
theorem dL_law_339 : decode cL_law 339 = .ok (.iconst 0, 1) := by decide +kernel
theorem dL_law_340 : decode cL_law 340 = .ok (.ireturn, 1) := by decide +kernel
theorem dL_law_341 : decode cL_law 341 = .ok (.aload_n 1, 1) := by decide +kernel
theorem dL_law_342 : decode cL_law 342 = .ok (.aload_n 0, 1) := by decide +kernel
theorem dL_law_343 : decode cL_law 343 = .ok (.iload_n 3, 1) := by decide +kernel
theorem dL_law_344 : decode cL_law 344 = .ok (.iconst 1, 1) := by decide +kernel
theorem dL_law_345 : decode cL_law 345 = .ok (.iadd, 1) := by decide +kernel
theorem dL_law_346 : decode cL_law 346 = .ok (.iaload, 1) := by decide +kernel
theorem dL_law_347 : decode cL_law 347 = .ok (.invokevirtual 54, 3) := by decide +kernel
theorem dL_law_350 : decode cL_law 350 = .ok (.aload_n 2, 1) := by decide +kernel
theorem dL_law_351 : decode cL_law 351 = .ok (.aload_n 0, 1) := by decide +kernel
theorem dL_law_352 : decode cL_law 352 = .ok (.iload_n 3, 1) := by decide +kernel
theorem dL_law_353 : decode cL_law 353 = .ok (.iconst 1, 1) := by decide +kernel
theorem dL_law_354 : decode cL_law 354 = .ok (.iadd, 1) := by decide +kernel
theorem dL_law_355 : decode cL_law 355 = .ok (.iaload, 1) := by decide +kernel
theorem dL_law_356 : decode cL_law 356 = .ok (.invokevirtual 57, 3) := by decide +kernel
theorem dL_law_359 : decode cL_law 359 = .ok (.if_icmp .eq 125, 3) := by decide +kernel
theorem dL_law_362 : decode cL_law 362 = .ok (.iconst 0, 1) := by decide +kernel
theorem dL_law_363 : decode cL_law 363 = .ok (.ireturn, 1) := by decide +kernel
theorem dL_law_364 : decode cL_law 364 = .ok (.aload_n 1, 1) := by decide +kernel
theorem dL_law_365 : decode cL_law 365 = .ok (.invokevirtual 58, 3) := by decide +kernel
theorem dL_law_368 : decode cL_law 368 = .ok (.aload_n 2, 1) := by decide +kernel
theorem dL_law_369 : decode cL_law 369 = .ok (.invokevirtual 61, 3) := by decide +kernel
theorem dL_law_372 : decode cL_law 372 = .ok (.goto 112, 3) := by decide +kernel
theorem dL_law_375 : decode cL_law 375 = .ok (.aload_n 1, 1) := by decide +kernel
theorem dL_law_376 : decode cL_law 376 = .ok (.invokevirtual 62, 3) := by decide +kernel
theorem dL_law_379 : decode cL_law 379 = .ok (.aload_n 2, 1) := by decide +kernel
theorem dL_law_380 : decode cL_law 380 = .ok (.invokevirtual 65, 3) := by decide +kernel
theorem dL_law_383 : decode cL_law 383 = .ok (.if_icmp .eq 101, 3) := by decide +kernel
theorem dL_law_386 : decode cL_law 386 = .ok (.iconst 0, 1) := by decide +kernel
theorem dL_law_387 : decode cL_law 387 = .ok (.ireturn, 1) := by decide +kernel
theorem dL_law_388 : decode cL_law 388 = .ok (.aload_n 1, 1) := by decide +kernel
theorem dL_law_389 : decode cL_law 389 = .ok (.aload_n 0, 1) := by decide +kernel
theorem dL_law_390 : decode cL_law 390 = .ok (.iload_n 3, 1) := by decide +kernel
theorem dL_law_391 : decode cL_law 391 = .ok (.iconst 1, 1) := by decide +kernel
theorem dL_law_392 : decode cL_law 392 = .ok (.iadd, 1) := by decide +kernel
theorem dL_law_393 : decode cL_law 393 = .ok (.iaload, 1) := by decide +kernel
theorem dL_law_394 : decode cL_law 394 = .ok (.invokevirtual 66, 3) := by decide +kernel
theorem dL_law_397 : decode cL_law 397 = .ok (.aload_n 2, 1) := by decide +kernel
theorem dL_law_398 : decode cL_law 398 = .ok (.aload_n 0, 1) := by decide +kernel
theorem dL_law_399 : decode cL_law 399 = .ok (.iload_n 3, 1) := by decide +kernel
theorem dL_law_400 : decode cL_law 400 = .ok (.iconst 1, 1) := by decide +kernel
theorem dL_law_401 : decode cL_law 401 = .ok (.iadd, 1) := by decide +kernel
theorem dL_law_402 : decode cL_law 402 = .ok (.iaload, 1) := by decide +kernel
theorem dL_law_403 : decode cL_law 403 = .ok (.invokevirtual 69, 3) := by decide +kernel
theorem dL_law_406 : decode cL_law 406 = .ok (.if_icmp .eq 78, 3) := by decide +kernel
theorem dL_law_409 : decode cL_law 409 = .ok (.iconst 0, 1) := by decide +kernel
theorem dL_law_410 : decode cL_law 410 = .ok (.ireturn, 1) := by decide +kernel
theorem dL_law_411 : decode cL_law 411 = .ok (.aload_n 1, 1) := by decide +kernel
theorem dL_law_412 : decode cL_law 412 = .ok (.invokevirtual 70, 3) := by decide +kernel
theorem dL_law_415 : decode cL_law 415 = .ok (.aload_n 2, 1) := by decide +kernel
theorem dL_law_416 : decode cL_law 416 = .ok (.invokevirtual 73, 3) := by decide +kernel
theorem dL_law_419 : decode cL_law 419 = .ok (.if_icmp .eq 65, 3) := by decide +kernel
theorem dL_law_422 : decode cL_law 422 = .ok (.iconst 0, 1) := by decide +kernel
theorem dL_law_423 : decode cL_law 423 = .ok (.ireturn, 1) := by decide +kernel
theorem dL_law_424 : decode cL_law 424 = .ok (.aload_n 1, 1) := by decide +kernel
theorem dL_law_425 : decode cL_law 425 = .ok (.invokevirtual 74, 3) := by decide +kernel
theorem dL_law_428 : decode cL_law 428 = .ok (.aload_n 2, 1) := by decide +kernel
theorem dL_law_429 : decode cL_law 429 = .ok (.invokevirtual 77, 3) := by decide +kernel
theorem dL_law_432 : decode cL_law 432 = .ok (.if_icmp .eq 52, 3) := by decide +kernel
theorem dL_law_435 : decode cL_law 435 = .ok (.iconst 0, 1) := by decide +kernel
theorem dL_law_436 : decode cL_law 436 = .ok (.ireturn, 1) := by decide +kernel
theorem dL_law_437 : decode cL_law 437 = .ok (.aload_n 1, 1) := by decide +kernel
theorem dL_law_438 : decode cL_law 438 = .ok (.invokevirtual 78, 3) := by decide +kernel
theorem dL_law_441 : decode cL_law 441 = .ok (.aload_n 2, 1) := by decide +kernel
theorem dL_law_442 : decode cL_law 442 = .ok (.invokevirtual 81, 3) := by decide +kernel
theorem dL_law_445 : decode cL_law 445 = .ok (.if_icmp .eq 39, 3) := by decide +kernel
theorem dL_law_448 : decode cL_law 448 = .ok (.iconst 0, 1) := by decide +kernel
theorem dL_law_449 : decode cL_law 449 = .ok (.ireturn, 1) := by decide +kernel
theorem dL_law_450 : decode cL_law 450 = .ok (.aload_n 1, 1) := by decide +kernel
theorem dL_law_451 : decode cL_law 451 = .ok (.aload_n 0, 1) := by decide +kernel
theorem dL_law_452 : decode cL_law 452 = .ok (.iload_n 3, 1) := by decide +kernel
theorem dL_law_453 : decode cL_law 453 = .ok (.iconst 1, 1) := by decide +kernel
theorem dL_law_454 : decode cL_law 454 = .ok (.iadd, 1) := by decide +kernel
theorem dL_law_455 : decode cL_law 455 = .ok (.iaload, 1) := by decide +kernel
theorem dL_law_456 : decode cL_law 456 = .ok (.invokevirtual 82, 3) := by decide +kernel
theorem dL_law_459 : decode cL_law 459 = .ok (.aload_n 2, 1) := by decide +kernel
theorem dL_law_460 : decode cL_law 460 = .ok (.aload_n 0, 1) := by decide +kernel
theorem dL_law_461 : decode cL_law 461 = .ok (.iload_n 3, 1) := by decide +kernel
theorem dL_law_462 : decode cL_law 462 = .ok (.iconst 1, 1) := by decide +kernel
theorem dL_law_463 : decode cL_law 463 = .ok (.iadd, 1) := by decide +kernel
theorem dL_law_464 : decode cL_law 464 = .ok (.iaload, 1) := by decide +kernel
theorem dL_law_465 : decode cL_law 465 = .ok (.invokevirtual 85, 3) := by decide +kernel
theorem dL_law_468 : decode cL_law 468 = .ok (.if_icmp .eq 16, 3) := by decide +kernel
theorem dL_law_471 : decode cL_law 471 = .ok (.iconst 0, 1) := by decide +kernel
theorem dL_law_472 : decode cL_law 472 = .ok (.ireturn, 1) := by decide +kernel
theorem dL_law_473 : decode cL_law 473 = .ok (.aload_n 1, 1) := by decide +kernel
theorem dL_law_474 : decode cL_law 474 = .ok (.invokevirtual 86, 3) := by decide +kernel
theorem dL_law_477 : decode cL_law 477 = .ok (.aload_n 2, 1) := by decide +kernel
theorem dL_law_478 : decode cL_law 478 = .ok (.invokevirtual 89, 3) := by decide +kernel
theorem dL_law_481 : decode cL_law 481 = .ok (.goto 3, 3) := by decide +kernel
theorem dL_law_484 : decode cL_law 484 = .ok (.iinc 3 6, 3) := by decide +kernel
theorem dL_law_487 : decode cL_law 487 = .ok (.goto (-439), 3) := by decide +kernel
theorem dL_law_490 : decode cL_law 490 = .ok (.iconst 1, 1) := by decide +kernel
theorem dL_law_491 : decode cL_law 491 = .ok (.ireturn, 1) := by decide +kernel
abbrev vwCl : List vw_C := [(RX0, TX0, 15), (RX1, TX1, 3), (RX2, TX2, 12), (RX3, TX3, 13)]
end
section
/-! ints of the machine as Int; arrays of ints as Int → Int -/
def zI (a : Int) : Int32 := Int32.ofInt a
abbrev zR (a : Int) : Prop := -2147483648 ≤ a ∧ a < 2147483648
theorem zI_add (a b : Int) : zI a + zI b = zI (a + b) := (Int32.ofInt_add a b).symm
theorem zI_sub (a b : Int) : zI a - zI b = zI (a - b) := (Int32.ofInt_sub a b).symm
theorem zI_mul (a b : Int) : zI a * zI b = zI (a * b) := (Int32.ofInt_mul a b).symm
theorem zI_neg (a : Int) : -zI a = zI (-a) := (Int32.ofInt_neg a).symm
theorem zI_toInt {a : Int} (h : zR a) : (zI a).toInt = a := Int32.toInt_ofInt_of_le (by have := h.1; omega) (by have := h.2; omega)
theorem zI_lt {a b : Int} (ha : zR a) (hb : zR b) : zI a < zI b ↔ a < b := by
  rw [Int32.lt_iff_toInt_lt, zI_toInt ha, zI_toInt hb]
theorem zI_le {a b : Int} (ha : zR a) (hb : zR b) : zI a ≤ zI b ↔ a ≤ b := by
  rw [Int32.le_iff_toInt_le, zI_toInt ha, zI_toInt hb]
theorem zI_eq {a b : Int} (ha : zR a) (hb : zR b) : zI a = zI b ↔ a = b := by
  rw [← Int32.toInt_inj, zI_toInt ha, zI_toInt hb]
theorem zI_0 : zI 0 = 0 := rfl
theorem zI_of (x : Int32) : x = zI x.toInt ∧ zR x.toInt := ⟨(Int32.ofInt_toInt x).symm, by have := Int32.le_toInt x; omega, by have := Int32.toInt_lt x; omega⟩
theorem zI_nat (n : Nat) : zI (n : Int) = Int32.ofNat n := by
  rw [zI, Int32.ofInt_eq_ofNat]
theorem zI_clamp {a : Int} (h : zR a) : (zI a).toNatClampNeg = a.toNat := by
  show (zI a).toInt.toNat = a.toNat
  rw [zI_toInt h]
theorem zI_in {a : Int} {n : Nat} (h : zR a) (h0 : 0 ≤ a) (h1 : a < n) : vp_in (zI a) n := vp_in_iff.mpr (by rw [zI_toInt h]; exact ⟨h0, h1⟩)
def zA (g : Int → Int) : Nat → Int32 := fun j => zI (g (j : Int))
def zup (g : Int → Int) (k x : Int) : Int → Int := fun j => if j = k then x else g j
theorem zup_eq (g : Int → Int) (k x : Int) : zup g k x k = x := by simp [zup]
theorem zup_ne {g : Int → Int} {k x j : Int} (h : j ≠ k) : zup g k x j = g j := by simp [zup, h]
theorem zA_at {g : Int → Int} {i : Int} (h : zR i) (h0 : 0 ≤ i) : zA g (zI i).toNatClampNeg = zI (g i) := by
  rw [zI_clamp h, zA, Int.toNat_of_nonneg h0]
theorem zA_up {g : Int → Int} {i x : Int} (h : zR i) (h0 : 0 ≤ i) : upd (zA g) (zI i).toNatClampNeg (zI x) = zA (zup g i x) := by
  rw [zI_clamp h]
  funext j
  show (if j = i.toNat then zI x else zA g j) = zI (zup g i x j)
  by_cases e : (j : Int) = i
  · rw [if_pos (by omega), e, zup_eq]
  · rw [if_neg (by omega), zup_ne e, zA]
theorem zA_new : zA (fun _ => 0) = fun _ => (0 : Int32) := rfl
def bi (b : Bool) : Int := if b = true then 1 else 0
theorem bi_t : bi true = 1 := rfl
theorem bi_f : bi false = 0 := rfl
theorem bi_01 (b : Bool) : bi b = 0 ∨ bi b = 1 := by cases b <;> simp [bi]
theorem bi_iff {b : Bool} : bi b = 0 ↔ b = false := by cases b <;> simp [bi]
theorem bi_iff1 {b : Bool} : bi b = 1 ↔ b = true := by cases b <;> simp [bi]
/-- reads behind a look at the bounds -/
def zat (n : Nat) (g : Int → Int) (i : Int) : Int := if 0 ≤ i ∧ i < n then g i else -1
def zput (n : Nat) (g : Int → Int) (i x : Int) : Int → Int := if 0 ≤ i ∧ i < n then zup g i x else g
theorem zat_in {n : Nat} {g : Int → Int} {i : Int} (h0 : 0 ≤ i) (h1 : i < n) : zat n g i = g i := if_pos ⟨h0, h1⟩
theorem zat_out {n : Nat} {g : Int → Int} {i : Int} (h : i < 0 ∨ (n : Int) ≤ i) : zat n g i = -1 := if_neg (by omega)
theorem zput_in {n : Nat} {g : Int → Int} {i x : Int} (h0 : 0 ≤ i) (h1 : i < n) : zput n g i x = zup g i x := if_pos ⟨h0, h1⟩
theorem zput_out {n : Nat} {g : Int → Int} {i x : Int} (h : i < 0 ∨ (n : Int) ≤ i) : zput n g i x = g := if_neg (by omega)
theorem znar_b {x : Int} (h : x = 0 ∨ x = 1) : vp_nar .boolean (zI x) = zI x := by
  rcases h with h | h <;> subst h <;> decide +kernel
theorem znar_b2 {x : Int} (h : x = 0 ∨ x = 1) : narrow .boolean (.int (zI x)) = .int (zI x) := by
  rcases h with h | h <;> subst h <;> decide +kernel
theorem zfit_b {x : Int} (h : x = 0 ∨ x = 1) : fits .boolean (.int (zI x)) = true := by
  rcases h with h | h <;> subst h <;> decide +kernel
section ZR
variable {p : Program} {l : Launch} {e : Env} {R : Room} {s : State} {m : MethodId} {args : Array Value} {below : List Frame} {meth : Method} {c : Code} {H : Heap} {locs : List Loc} {cells slots : Nat} {Q : State → Prop}
variable {cc : ByteArray} {pc : Nat} {ls : Array Slot} {rest : List Value} {a b : Int}
theorem z_iadd (hx : p.tables.exec = Jvm.exec) (hb : c.code = cc) (hdg : decode cc pc = .ok (.iadd, 1)) (k : W p l e R s m args below meth c H locs cells slots Q (F0 m (pc + 1) ls (.int (zI (a + b)) :: rest))) : W p l e R s m args below meth c H locs cells slots Q (F0 m pc ls (.int (zI b) :: .int (zI a) :: rest)) :=
  lv_iadd hx hb hdg (by rw [zI_add]; exact k)
theorem z_isub (hx : p.tables.exec = Jvm.exec) (hb : c.code = cc) (hdg : decode cc pc = .ok (.isub, 1)) (k : W p l e R s m args below meth c H locs cells slots Q (F0 m (pc + 1) ls (.int (zI (a - b)) :: rest))) : W p l e R s m args below meth c H locs cells slots Q (F0 m pc ls (.int (zI b) :: .int (zI a) :: rest)) :=
  lv_isub hx hb hdg (by rw [zI_sub]; exact k)
theorem z_imul (hx : p.tables.exec = Jvm.exec) (hb : c.code = cc) (hdg : decode cc pc = .ok (.imul, 1)) (k : W p l e R s m args below meth c H locs cells slots Q (F0 m (pc + 1) ls (.int (zI (a * b)) :: rest))) : W p l e R s m args below meth c H locs cells slots Q (F0 m pc ls (.int (zI b) :: .int (zI a) :: rest)) :=
  lv_imul hx hb hdg (by rw [zI_mul]; exact k)
theorem z_if_eq (hx : p.tables.exec = Jvm.exec) (hb : c.code = cc) {off : Int} {tgt : Nat} (hdg : decode cc pc = .ok (.ifCond .eq off, 3)) (ht : (pc : Int) + off = (tgt : Int)) (ha : zR a)
    (kt : a = 0 → W p l e R s m args below meth c H locs cells slots Q (F0 m tgt ls rest)) (kf : a ≠ 0 → W p l e R s m args below meth c H locs cells slots Q (F0 m (pc + 3) ls rest)) : W p l e R s m args below meth c H locs cells slots Q (F0 m pc ls (.int (zI a) :: rest)) :=
  lv_if_eq hx hb hdg ht (fun h => kt ((zI_eq ha (by omega)).mp h)) (fun h => kf (fun q => h ((zI_eq ha (by omega)).mpr q)))
theorem z_if_ne (hx : p.tables.exec = Jvm.exec) (hb : c.code = cc) {off : Int} {tgt : Nat} (hdg : decode cc pc = .ok (.ifCond .ne off, 3)) (ht : (pc : Int) + off = (tgt : Int)) (ha : zR a)
    (kt : a ≠ 0 → W p l e R s m args below meth c H locs cells slots Q (F0 m tgt ls rest)) (kf : a = 0 → W p l e R s m args below meth c H locs cells slots Q (F0 m (pc + 3) ls rest)) : W p l e R s m args below meth c H locs cells slots Q (F0 m pc ls (.int (zI a) :: rest)) :=
  lv_if_ne hx hb hdg ht (fun h => kt (fun q => h ((zI_eq ha (by omega)).mpr q))) (fun h => kf ((zI_eq ha (by omega)).mp h))
theorem z_if_lt (hx : p.tables.exec = Jvm.exec) (hb : c.code = cc) {off : Int} {tgt : Nat} (hdg : decode cc pc = .ok (.ifCond .lt off, 3)) (ht : (pc : Int) + off = (tgt : Int)) (ha : zR a)
    (kt : a < 0 → W p l e R s m args below meth c H locs cells slots Q (F0 m tgt ls rest)) (kf : 0 ≤ a → W p l e R s m args below meth c H locs cells slots Q (F0 m (pc + 3) ls rest)) : W p l e R s m args below meth c H locs cells slots Q (F0 m pc ls (.int (zI a) :: rest)) :=
  lv_if_lt hx hb hdg ht (fun h => kt ((zI_lt ha (by omega)).mp h)) (fun h => kf (Int.not_lt.mp (fun q => h ((zI_lt ha (by omega)).mpr q))))
theorem z_if_ge (hx : p.tables.exec = Jvm.exec) (hb : c.code = cc) {off : Int} {tgt : Nat} (hdg : decode cc pc = .ok (.ifCond .ge off, 3)) (ht : (pc : Int) + off = (tgt : Int)) (ha : zR a)
    (kt : 0 ≤ a → W p l e R s m args below meth c H locs cells slots Q (F0 m tgt ls rest)) (kf : a < 0 → W p l e R s m args below meth c H locs cells slots Q (F0 m (pc + 3) ls rest)) : W p l e R s m args below meth c H locs cells slots Q (F0 m pc ls (.int (zI a) :: rest)) :=
  lv_if_ge hx hb hdg ht (fun h => kt ((zI_le (by omega) ha).mp h)) (fun h => kf (Int.not_le.mp (fun q => h ((zI_le (by omega) ha).mpr q))))
theorem z_if_gt (hx : p.tables.exec = Jvm.exec) (hb : c.code = cc) {off : Int} {tgt : Nat} (hdg : decode cc pc = .ok (.ifCond .gt off, 3)) (ht : (pc : Int) + off = (tgt : Int)) (ha : zR a)
    (kt : 0 < a → W p l e R s m args below meth c H locs cells slots Q (F0 m tgt ls rest)) (kf : a ≤ 0 → W p l e R s m args below meth c H locs cells slots Q (F0 m (pc + 3) ls rest)) : W p l e R s m args below meth c H locs cells slots Q (F0 m pc ls (.int (zI a) :: rest)) :=
  lv_if_gt hx hb hdg ht (fun h => kt ((zI_lt (by omega) ha).mp h)) (fun h => kf (Int.not_lt.mp (fun q => h ((zI_lt (by omega) ha).mpr q))))
theorem z_if_le (hx : p.tables.exec = Jvm.exec) (hb : c.code = cc) {off : Int} {tgt : Nat} (hdg : decode cc pc = .ok (.ifCond .le off, 3)) (ht : (pc : Int) + off = (tgt : Int)) (ha : zR a)
    (kt : a ≤ 0 → W p l e R s m args below meth c H locs cells slots Q (F0 m tgt ls rest)) (kf : 0 < a → W p l e R s m args below meth c H locs cells slots Q (F0 m (pc + 3) ls rest)) : W p l e R s m args below meth c H locs cells slots Q (F0 m pc ls (.int (zI a) :: rest)) :=
  lv_if_le hx hb hdg ht (fun h => kt ((zI_le ha (by omega)).mp h)) (fun h => kf (Int.not_le.mp (fun q => h ((zI_le ha (by omega)).mpr q))))
theorem z_icmp_eq (hx : p.tables.exec = Jvm.exec) (hb : c.code = cc) {off : Int} {tgt : Nat} (hdg : decode cc pc = .ok (.if_icmp .eq off, 3)) (ht : (pc : Int) + off = (tgt : Int)) (ha : zR a) (hbb : zR b)
    (kt : a = b → W p l e R s m args below meth c H locs cells slots Q (F0 m tgt ls rest)) (kf : a ≠ b → W p l e R s m args below meth c H locs cells slots Q (F0 m (pc + 3) ls rest)) : W p l e R s m args below meth c H locs cells slots Q (F0 m pc ls (.int (zI b) :: .int (zI a) :: rest)) :=
  lv_icmp_eq hx hb hdg ht (fun h => kt ((zI_eq ha hbb).mp h)) (fun h => kf (fun q => h ((zI_eq ha hbb).mpr q)))
theorem z_icmp_ne (hx : p.tables.exec = Jvm.exec) (hb : c.code = cc) {off : Int} {tgt : Nat} (hdg : decode cc pc = .ok (.if_icmp .ne off, 3)) (ht : (pc : Int) + off = (tgt : Int)) (ha : zR a) (hbb : zR b)
    (kt : a ≠ b → W p l e R s m args below meth c H locs cells slots Q (F0 m tgt ls rest)) (kf : a = b → W p l e R s m args below meth c H locs cells slots Q (F0 m (pc + 3) ls rest)) : W p l e R s m args below meth c H locs cells slots Q (F0 m pc ls (.int (zI b) :: .int (zI a) :: rest)) :=
  lv_icmp_ne hx hb hdg ht (fun h => kt (fun q => h ((zI_eq ha hbb).mpr q))) (fun h => kf ((zI_eq ha hbb).mp h))
theorem z_icmp_lt (hx : p.tables.exec = Jvm.exec) (hb : c.code = cc) {off : Int} {tgt : Nat} (hdg : decode cc pc = .ok (.if_icmp .lt off, 3)) (ht : (pc : Int) + off = (tgt : Int)) (ha : zR a) (hbb : zR b)
    (kt : a < b → W p l e R s m args below meth c H locs cells slots Q (F0 m tgt ls rest)) (kf : b ≤ a → W p l e R s m args below meth c H locs cells slots Q (F0 m (pc + 3) ls rest)) : W p l e R s m args below meth c H locs cells slots Q (F0 m pc ls (.int (zI b) :: .int (zI a) :: rest)) :=
  lv_icmp_lt hx hb hdg ht (fun h => kt ((zI_lt ha hbb).mp h)) (fun h => kf (Int.not_lt.mp (fun q => h ((zI_lt ha hbb).mpr q))))
theorem z_icmp_ge (hx : p.tables.exec = Jvm.exec) (hb : c.code = cc) {off : Int} {tgt : Nat} (hdg : decode cc pc = .ok (.if_icmp .ge off, 3)) (ht : (pc : Int) + off = (tgt : Int)) (ha : zR a) (hbb : zR b)
    (kt : b ≤ a → W p l e R s m args below meth c H locs cells slots Q (F0 m tgt ls rest)) (kf : a < b → W p l e R s m args below meth c H locs cells slots Q (F0 m (pc + 3) ls rest)) : W p l e R s m args below meth c H locs cells slots Q (F0 m pc ls (.int (zI b) :: .int (zI a) :: rest)) :=
  lv_icmp_ge hx hb hdg ht (fun h => kt ((zI_le hbb ha).mp h)) (fun h => kf (Int.not_le.mp (fun q => h ((zI_le hbb ha).mpr q))))
theorem z_icmp_gt (hx : p.tables.exec = Jvm.exec) (hb : c.code = cc) {off : Int} {tgt : Nat} (hdg : decode cc pc = .ok (.if_icmp .gt off, 3)) (ht : (pc : Int) + off = (tgt : Int)) (ha : zR a) (hbb : zR b)
    (kt : b < a → W p l e R s m args below meth c H locs cells slots Q (F0 m tgt ls rest)) (kf : a ≤ b → W p l e R s m args below meth c H locs cells slots Q (F0 m (pc + 3) ls rest)) : W p l e R s m args below meth c H locs cells slots Q (F0 m pc ls (.int (zI b) :: .int (zI a) :: rest)) :=
  lv_icmp_gt hx hb hdg ht (fun h => kt ((zI_lt hbb ha).mp h)) (fun h => kf (Int.not_lt.mp (fun q => h ((zI_lt hbb ha).mpr q))))
theorem z_icmp_le (hx : p.tables.exec = Jvm.exec) (hb : c.code = cc) {off : Int} {tgt : Nat} (hdg : decode cc pc = .ok (.if_icmp .le off, 3)) (ht : (pc : Int) + off = (tgt : Int)) (ha : zR a) (hbb : zR b)
    (kt : a ≤ b → W p l e R s m args below meth c H locs cells slots Q (F0 m tgt ls rest)) (kf : b < a → W p l e R s m args below meth c H locs cells slots Q (F0 m (pc + 3) ls rest)) : W p l e R s m args below meth c H locs cells slots Q (F0 m pc ls (.int (zI b) :: .int (zI a) :: rest)) :=
  lv_icmp_le hx hb hdg ht (fun h => kt ((zI_le ha hbb).mp h)) (fun h => kf (Int.not_le.mp (fun q => h ((zI_le ha hbb).mpr q))))
/-- the top of the stack by another name -/
theorem z_top (h : a = b) (k : W p l e R s m args below meth c H locs cells slots Q (F0 m pc ls (.int (zI b) :: rest))) : W p l e R s m args below meth c H locs cells slots Q (F0 m pc ls (.int (zI a) :: rest)) := by rw [h]; exact k
theorem z_topx {x : Int32} (h : x = zI b) (k : W p l e R s m args below meth c H locs cells slots Q (F0 m pc ls (.int (zI b) :: rest))) : W p l e R s m args below meth c H locs cells slots Q (F0 m pc ls (.int x :: rest)) := by rw [h]; exact k
variable {D : va_G} {cl : List vw_C} {tys : List (ClassId × FieldType)} {ws : va_W} {A : Nat → Prop} {H0 : Heap} {ad : Nat}
theorem z_iald (hx : p.tables.exec = Jvm.exec) (hb : c.code = cc) (hK : va_K D cl tys s) (hP : va_P D cl ws H) (q0 t0 : Nat) {cA : ClassId} {n : Nat} {g : Int → Int} (ha : ws[q0]? = some (ad, .inl (cA, n, .inl (zA g)))) (ht : tys[t0]? = some (cA, .int)) (hdg : decode cc pc = .ok (.iaload, 1)) (hr : zR a) (h0 : 0 ≤ a) (h1 : a < n)
    (kk : W p l e R s m args below meth c H locs cells slots Q (F0 m (pc + 1) ls (.int (zI (g a)) :: rest))) : W p l e R s m args below meth c H locs cells slots Q (F0 m pc ls (.int (zI a) :: .ref ad :: rest)) :=
  va_iald hx hb hK hP q0 t0 ha ht (zI_in hr h0 h1) hdg (by rw [zA_at hr h0]; exact kk)
theorem z_zald (hx : p.tables.exec = Jvm.exec) (hb : c.code = cc) (hK : va_K D cl tys s) (hP : va_P D cl ws H) (q0 t0 : Nat) {cA : ClassId} {n : Nat} {g : Int → Int} (ha : ws[q0]? = some (ad, .inl (cA, n, .inl (zA g)))) (ht : tys[t0]? = some (cA, .boolean)) (hdg : decode cc pc = .ok (.baload, 1)) (hr : zR a) (h0 : 0 ≤ a) (h1 : a < n)
    (kk : W p l e R s m args below meth c H locs cells slots Q (F0 m (pc + 1) ls (.int (zI (g a)) :: rest))) : W p l e R s m args below meth c H locs cells slots Q (F0 m pc ls (.int (zI a) :: .ref ad :: rest)) :=
  va_zald hx hb hK hP q0 t0 ha ht (zI_in hr h0 h1) hdg (by rw [zA_at hr h0]; exact kk)
theorem z_iast (hx : p.tables.exec = Jvm.exec) (hb : c.code = cc) (hK : va_K D cl tys s) (hP : va_P D cl ws H) (hD : va_D A ws) (hS : va_S A H0 H locs) (q0 t0 : Nat) {cA : ClassId} {n : Nat} {g : Int → Int} (ha : ws[q0]? = some (ad, .inl (cA, n, .inl (zA g)))) (ht : tys[t0]? = some (cA, .int)) (hdg : decode cc pc = .ok (.iastore, 1)) (hr : zR a) (h0 : 0 ≤ a) (h1 : a < n)
    (kk : ∀ (H1 : Heap) (locs1 : List Loc), va_P D cl (ws.set q0 (ad, .inl (cA, n, .inl (zA (zup g a b))))) H1 → va_D A (ws.set q0 (ad, .inl (cA, n, .inl (zA (zup g a b))))) → va_S A H0 H1 locs1 → W p l e R s m args below meth c H1 locs1 cells slots Q (F0 m (pc + 1) ls rest)) : W p l e R s m args below meth c H locs cells slots Q (F0 m pc ls (.int (zI b) :: .int (zI a) :: .ref ad :: rest)) :=
  va_iast hx hb hK hP hD hS q0 t0 ha ht (zI_in hr h0 h1) hdg (by rw [zA_up hr h0]; exact kk)
theorem z_zast (hx : p.tables.exec = Jvm.exec) (hb : c.code = cc) (hK : va_K D cl tys s) (hP : va_P D cl ws H) (hD : va_D A ws) (hS : va_S A H0 H locs) (q0 t0 : Nat) {cA : ClassId} {n : Nat} {g : Int → Int} (ha : ws[q0]? = some (ad, .inl (cA, n, .inl (zA g)))) (ht : tys[t0]? = some (cA, .boolean)) (hdg : decode cc pc = .ok (.bastore, 1)) (hr : zR a) (h0 : 0 ≤ a) (h1 : a < n) (hbb : b = 0 ∨ b = 1)
    (kk : ∀ (H1 : Heap) (locs1 : List Loc), va_P D cl (ws.set q0 (ad, .inl (cA, n, .inl (zA (zup g a b))))) H1 → va_D A (ws.set q0 (ad, .inl (cA, n, .inl (zA (zup g a b))))) → va_S A H0 H1 locs1 → W p l e R s m args below meth c H1 locs1 cells slots Q (F0 m (pc + 1) ls rest)) : W p l e R s m args below meth c H locs cells slots Q (F0 m pc ls (.int (zI b) :: .int (zI a) :: .ref ad :: rest)) :=
  va_zast hx hb hK hP hD hS q0 t0 ha ht (zI_in hr h0 h1) hdg (by rw [znar_b hbb, zA_up hr h0]; exact kk)
theorem z_alen (hx : p.tables.exec = Jvm.exec) (hb : c.code = cc) (hK : va_K D cl tys s) (hP : va_P D cl ws H) (q0 t0 : Nat) {cA : ClassId} {x : vp_A} (ha : ws[q0]? = some (ad, .inl (cA, x))) {ty : FieldType} (ht : tys[t0]? = some (cA, ty)) (hdg : decode cc pc = .ok (.arraylength, 1))
    (kk : W p l e R s m args below meth c H locs cells slots Q (F0 m (pc + 1) ls (.int (zI (x.1 : Int)) :: rest))) : W p l e R s m args below meth c H locs cells slots Q (F0 m pc ls (.ref ad :: rest)) :=
  va_alen hx hb hK hP q0 t0 ha ht (v := zI (x.1 : Int)) (zI_nat x.1).symm hdg kk
end ZR
/-! contracts: methods that only read; methods that write to cells of their own world -/
def zQi (post : Int → Prop) : Array Value → State → Outcome → State → Prop := fun _ st oc t => ∃ r : Int, oc = .returned (some (.int (zI r))) ∧ post r ∧ t.heap = st.heap
abbrev zT (cI cZ cL : ClassId) : List (ClassId × FieldType) := [(cI, .int), (cZ, .boolean), (cL, .object RX1)]
def zK (D : va_G) (cI cZ cL : ClassId) (U : State) : Prop := va_K D vwCl (zT cI cZ cL) U ∧ va_Nw (.methodLinkNest RX0 127 yX2_put RX2) U ∧ va_Nw (.methodLinkNest RX0 131 yX2_at RX2) U
theorem zK.moved {D : va_G} {cI cZ cL : ClassId} {s U : State} (hW : s.WarmedH U.vm) (h : zK D cI cZ cL s) : zK D cI cZ cL U := ⟨va_K.moved hW.alike h.1, va_Nw.warmM hW h.2.1, va_Nw.warmM hW h.2.2⟩
theorem zK.calling {D : va_G} {cI cZ cL : ClassId} {U : State} {g : JFrame} {mk : MethodId} {a : Array Value} (h : zK D cI cZ cL U) : zK D cI cZ cL (U.calling g mk a) := ⟨va_K.moved (u := U) (U := U.calling g mk a) (Vm.Alike.refl U.vm) h.1, va_Nw.same rfl (u := U) (U := U.calling g mk a) rfl h.2.1, va_Nw.same rfl (u := U) (U := U.calling g mk a) rfl h.2.2⟩
/-- the start of a method that reads the cells ws -/
def zPr (D : va_G) (cI cZ cL : ClassId) (av : List Value) (ws : va_W) : Array Value → State → Prop := va_Pc av (fun U => va_P D vwCl ws U.heap ∧ zK D cI cZ cL U)
/-- the start of a method that writes to the cells ws -/
def zPw (D : va_G) (cI cZ cL : ClassId) (sz : Nat) (av : List Value) (ws : va_W) : Array Value → State → Prop := va_Pc av (fun U => U.heap.size = sz ∧ va_P D vwCl ws U.heap ∧ zK D cI cZ cL U ∧ va_D (fun _ => True) ws)
def zQw {S : Type} (D : va_G) (A : Nat → Prop) (post : S → Prop) (Wf : S → va_W) : Array Value → State → Outcome → State → Prop := fun _ st oc t => (∃ u : S, oc = .returned none ∧ post u ∧ va_P D vwCl (Wf u) t.heap ∧ va_D A (Wf u)) ∧ va_F A st t
def zQwi {S : Type} (D : va_G) (A : Nat → Prop) (post : Int → S → Prop) (Wf : S → va_W) : Array Value → State → Outcome → State → Prop := fun _ st oc t => (∃ (r : Int) (u : S), oc = .returned (some (.int (zI r))) ∧ post r u ∧ va_P D vwCl (Wf u) t.heap ∧ va_D A (Wf u)) ∧ va_F A st t
section ZC
variable {p : Program} {l : Launch} {e : Env} {R : Room} {s : State} {m : MethodId} {args : Array Value} {below : List Frame} {meth : Method} {c : Code} {H : Heap} {locs : List Loc} {cells slots : Nat} {Q : State → Prop}
variable {pc : Nat} {ls : Array Slot} {rest st0 : List Value} {a : Array Value} {D : va_G} {cI cZ cL : ClassId} {ws wc wr : va_W} {A0 : Nat → Prop} {H0 : Heap} {mc ms : Nat}
theorem zPr_pre {av : List Value} (hK : zK D cI cZ cL s) (hP : va_P D vwCl ws H) : PreS s H (zPr D cI cZ cL av ws) av :=
  ⟨fun a U g mk q => ⟨q.1, q.2.1, q.2.2.calling⟩, fun U hU hW => ⟨rfl, by rw [hU]; exact hP, hK.moved hW⟩⟩
theorem zPr_preV {av : List Value} {b : Nat} {q0 ci : Nat} {q : vw_C} {fs : List Value} (hK : zK D cI cZ cL s) (hP : va_P D vwCl ws H) (hc : vwCl[ci]? = some q) (he : ws[q0]? = some (b, .inr (ci, fs))) : PreV s H q.1 b (zPr D cI cZ cL (.ref b :: av) ws) av :=
  ⟨fun a U g mk q => ⟨q.1, q.2.1, q.2.2.calling⟩, va_recv hK.1 hP hc he, fun U hU hW => ⟨rfl, by rw [hU]; exact hP, hK.moved hW⟩⟩
theorem zPw_pre {av : List Value} (hK : zK D cI cZ cL s) (hP : va_P D vwCl ws H) (hD : va_D (fun _ => True) ws) : PreS s H (zPw D cI cZ cL H.size av ws) av :=
  ⟨fun a U g mk q => ⟨q.1, q.2.1, q.2.2.1, q.2.2.2.1.calling, q.2.2.2.2⟩, fun U hU hW => ⟨rfl, by rw [hU], by rw [hU]; exact hP, hK.moved hW, hD⟩⟩
theorem zPw_preV {av : List Value} {b : Nat} {q0 ci : Nat} {q : vw_C} {fs : List Value} (hK : zK D cI cZ cL s) (hP : va_P D vwCl ws H) (hD : va_D (fun _ => True) ws) (hc : vwCl[ci]? = some q) (he : ws[q0]? = some (b, .inr (ci, fs))) : PreV s H q.1 b (zPw D cI cZ cL H.size (.ref b :: av) ws) av :=
  ⟨fun a U g mk q => ⟨q.1, q.2.1, q.2.2.1, q.2.2.2.1.calling, q.2.2.2.2⟩, va_recv hK.1 hP hc he, fun U hU hW => ⟨rfl, by rw [hU], by rw [hU]; exact hP, hK.moved hW, hD⟩⟩
/-- behind a call that only reads -/
theorem z_cr {post : Int → Prop} (hr : va_Run p l e R s m args below meth c H locs cells slots 0 0 (F0 m pc ls st0) rest (zQi post a) (fun _ => False))
    (kk : ∀ r : Int, post r → W p l e R s m args below meth c H locs cells slots Q (F0 m (pc + 3) ls (.int (zI r) :: rest))) : W p l e R s m args below meth c H locs cells slots Q (F0 m pc ls st0) := by
  intro T hT X
  obtain ⟨v, st₀, t, T', L, h0, X', hL, e1, -, ⟨r, hv, hp, hh⟩, st⟩ := hr T hT X
  cases hv
  obtain ⟨t2, a1, b1⟩ := kk r hp T' (by rw [e1, hh, h0]) (Stand.forget X' (fun q h => (hL q h).elim))
  exact ⟨t2, st t2 a1, b1⟩
/-- behind a call that writes -/
theorem z_cw {S : Type} {post : S → Prop} {Wf Wt : S → va_W} (isC isR perm : List Nat) (hP : va_P D vwCl ws H) (hD : va_D A0 ws) (hS : va_S A0 H0 H locs) (hA : ∀ q, H0.size ≤ q → A0 q)
    (hC : isC.map (fun i => ws[i]?) = wc.map some) (hR : isR.map (fun i => ws[i]?) = wr.map some) (hn : va_nd isC = true) (hn2 : va_nd isR = true) (hdis : ∀ i ∈ isR, i ∉ isC) (hpn : va_nd perm = true) (hperm : ∀ u, perm.map (fun i => (wr ++ Wf u)[i]?) = (Wt u).map some) (hperm2 : ∀ u, perm.filterMap (fun i => (wr ++ Wf u)[i]?) = Wt u)
    (hr : va_P D vwCl wc H → va_D (fun _ => True) wc → va_Run p l e R s m args below meth c H locs cells slots mc ms (F0 m pc ls st0) rest (zQw D (va_A wc H.size) post Wf a) (va_A wc H.size)) (hCf : isC.filterMap (fun i => ws[i]?) = wc)
    (kk : ∀ (u : S) (H1 : Heap) (locs1 : List Loc), post u → va_P D vwCl (Wt u) H1 → va_D A0 (Wt u) → va_S A0 H0 H1 locs1 → W p l e R s m args below meth c H1 locs1 (cells + mc) (slots + ms) Q (F0 m (pc + 3) ls rest)) : W p l e R s m args below meth c H locs cells slots Q (F0 m pc ls st0) := by
  have hF := va_free (wc := wc) hD hS hA isC hC
  have hr := hr (hP.sub isC hCf) ((hD.sub isC hn hC).weaken (fun _ _ _ _ => trivial))
  intro T hT X
  obtain ⟨v, st₀, t, T', L, h0, X', hL, e1, e2, ⟨⟨u, hv, hp, hP1, hD1⟩, hz, hk⟩, st⟩ := hr T hT X
  cases hv
  rw [h0] at hz hk
  have hS' : va_S A0 H0 T'.heap (locs ++ L) := ⟨Nat.le_trans hS.1 (by rw [e1]; exact hz), fun q h1 h2 => by rw [e1, hk q (Nat.lt_of_lt_of_le h1 hS.1) (fun z => h2 (hF q z))]; exact hS.2.1 q h1 h2, fun q hq => by
      rcases List.mem_append.mp hq with h | h
      · exact hS.2.2 q h
      · exact hF _ (hL q h)⟩
  obtain ⟨hP2, hD2⟩ := va_join (wr := wr) (w1 := Wf u) (H1 := T'.heap) hP hD isC isR hC hR hn2 hdis (fun q h1 h2 => by rw [e1]; exact hk q h1 h2) hF (by rw [e1]; exact hP1) hD1
  obtain ⟨t2, a1, b1⟩ := kk u T'.heap (locs ++ L) hp (hP2.sub perm (hperm2 u)) (hD2.sub perm hpn (hperm u)) hS' T' rfl X'
  exact ⟨t2, st t2 a1, b1⟩
theorem z_cwi {S : Type} {post : Int → S → Prop} {Wf Wt : S → va_W} (isC isR perm : List Nat) (hP : va_P D vwCl ws H) (hD : va_D A0 ws) (hS : va_S A0 H0 H locs) (hA : ∀ q, H0.size ≤ q → A0 q)
    (hC : isC.map (fun i => ws[i]?) = wc.map some) (hR : isR.map (fun i => ws[i]?) = wr.map some) (hn : va_nd isC = true) (hn2 : va_nd isR = true) (hdis : ∀ i ∈ isR, i ∉ isC) (hpn : va_nd perm = true) (hperm : ∀ u, perm.map (fun i => (wr ++ Wf u)[i]?) = (Wt u).map some) (hperm2 : ∀ u, perm.filterMap (fun i => (wr ++ Wf u)[i]?) = Wt u)
    (hr : va_P D vwCl wc H → va_D (fun _ => True) wc → va_Run p l e R s m args below meth c H locs cells slots mc ms (F0 m pc ls st0) rest (zQwi D (va_A wc H.size) post Wf a) (va_A wc H.size)) (hCf : isC.filterMap (fun i => ws[i]?) = wc)
    (kk : ∀ (r : Int) (u : S) (H1 : Heap) (locs1 : List Loc), post r u → va_P D vwCl (Wt u) H1 → va_D A0 (Wt u) → va_S A0 H0 H1 locs1 → W p l e R s m args below meth c H1 locs1 (cells + mc) (slots + ms) Q (F0 m (pc + 3) ls (.int (zI r) :: rest))) : W p l e R s m args below meth c H locs cells slots Q (F0 m pc ls st0) := by
  have hF := va_free (wc := wc) hD hS hA isC hC
  have hr := hr (hP.sub isC hCf) ((hD.sub isC hn hC).weaken (fun _ _ _ _ => trivial))
  intro T hT X
  obtain ⟨v, st₀, t, T', L, h0, X', hL, e1, e2, ⟨⟨r, u, hv, hp, hP1, hD1⟩, hz, hk⟩, st⟩ := hr T hT X
  cases hv
  rw [h0] at hz hk
  have hS' : va_S A0 H0 T'.heap (locs ++ L) := ⟨Nat.le_trans hS.1 (by rw [e1]; exact hz), fun q h1 h2 => by rw [e1, hk q (Nat.lt_of_lt_of_le h1 hS.1) (fun z => h2 (hF q z))]; exact hS.2.1 q h1 h2, fun q hq => by
      rcases List.mem_append.mp hq with h | h
      · exact hS.2.2 q h
      · exact hF _ (hL q h)⟩
  obtain ⟨hP2, hD2⟩ := va_join (wr := wr) (w1 := Wf u) (H1 := T'.heap) hP hD isC isR hC hR hn2 hdis (fun q h1 h2 => by rw [e1]; exact hk q h1 h2) hF (by rw [e1]; exact hP1) hD1
  obtain ⟨t2, a1, b1⟩ := kk r u T'.heap (locs ++ L) hp (hP2.sub perm (hperm2 u)) (hD2.sub perm hpn (hperm u)) hS' T' rfl X'
  exact ⟨t2, st t2 a1, b1⟩
end ZC
end
section
/-! the objects' fields in the order of their slots -/
abbrev so (a : Nat → Nat) (ts : Int) (hl : Nat) (len sg vc : Int) : List Value := [.ref (a 1), .ref (a 2), .ref (a 3), .ref (a 4), .ref (a 5), .ref (a 6), .ref (a 7), .ref (a 8), .ref (a 9), .ref (a 10), .int (zI ts), .ref hl, .int (zI len), .int (zI sg), .int (zI vc)]
abbrev lo (hl : Nat) (len sg : Int) : List Value := [.ref hl, .int (zI len), .int (zI sg)]
abbrev te (b a : Nat → Nat) (sg len pl bt fh ht : Int) : List Value := [.int (zI sg), .ref (a 0), .ref (b 1), .ref (a 2), .ref (b 2), .ref (b 3), .ref (b 4), .int (zI len), .int (zI pl), .int (zI bt), .int (zI fh), .int (zI ht)]
abbrev mo (d : Nat → Nat) (rm sg pr sz bt ps fi ht fo : Int) : List Value := [.int (zI rm), .int (zI sg), .int (zI pr), .ref (d 1), .int (zI sz), .int (zI bt), .ref (d 2), .ref (d 3), .ref (d 4), .int (zI ps), .int (zI fi), .int (zI ht), .int (zI fo)]
def zmax (a b : Int) : Int := if a < b then b else a
def zmin (a b : Int) : Int := if b < a then b else a
theorem zmax_I {a b : Int} (ha : zR a) (hb : zR b) : (if zI a < zI b then zI b else zI a) = zI (zmax a b) := by
  unfold zmax
  by_cases h : a < b
  · rw [if_pos h, if_pos ((zI_lt ha hb).mpr h)]
  · rw [if_neg h, if_neg (fun q => h ((zI_lt ha hb).mp q))]
theorem zmin_I {a b : Int} (ha : zR a) (hb : zR b) : (if zI b < zI a then zI b else zI a) = zI (zmin a b) := by
  unfold zmin
  by_cases h : b < a
  · rw [if_pos h, if_pos ((zI_lt hb ha).mpr h)]
  · rw [if_neg h, if_neg (fun q => h ((zI_lt hb ha).mp q))]
/-- the letter at a place; -1 behind the last -/
def zla (len : Int) (lt : Int → Int) (i : Int) : Int := if 0 ≤ i ∧ i < len then lt i else -1
theorem zla_in {len : Int} {lt : Int → Int} {i : Int} (h0 : 0 ≤ i) (h1 : i < len) : zla len lt i = lt i := if_pos ⟨h0, h1⟩
theorem zla_out {len : Int} {lt : Int → Int} {i : Int} (h : i < 0 ∨ len ≤ i) : zla len lt i = -1 := if_neg (by omega)
def zir (len : Int) (rs : Int → Bool) (i : Int) : Bool := decide (0 ≤ i) && (decide (i < len) && rs i)
def zif (len : Int) (rs : Int → Bool) (i : Int) : Bool := decide (0 ≤ i) && (decide (i < len) && !rs i)
theorem zir_in {len : Int} {rs : Int → Bool} {i : Int} (h0 : 0 ≤ i) (h1 : i < len) : zir len rs i = rs i := by simp [zir, h0, h1]
theorem zif_in {len : Int} {rs : Int → Bool} {i : Int} (h0 : 0 ≤ i) (h1 : i < len) : zif len rs i = !rs i := by simp [zif, h0, h1]
theorem zir_out {len : Int} {rs : Int → Bool} {i : Int} (h : i < 0 ∨ len ≤ i) : zir len rs i = false := by
  unfold zir
  rcases h with h | h
  · rw [decide_eq_false (by omega)]; rfl
  · rw [decide_eq_false (p := i < len) (by omega)]; simp
theorem zif_out {len : Int} {rs : Int → Bool} {i : Int} (h : i < 0 ∨ len ≤ i) : zif len rs i = false := by
  unfold zif
  rcases h with h | h
  · rw [decide_eq_false (by omega)]; rfl
  · rw [decide_eq_false (p := i < len) (by omega)]; simp
def zB (rs : Int → Bool) : Int → Int := fun i => bi (rs i)
theorem zB_R (rs : Int → Bool) (i : Int) : zR (zB rs i) := by
  unfold zB; rcases bi_01 (rs i) with h | h <;> rw [h] <;> decide
theorem bi_R (b : Bool) : zR (bi b) := by
  rcases bi_01 b with h | h <;> rw [h] <;> decide
theorem zB_ne {rs : Int → Bool} {i : Int} (h : zB rs i ≠ 0) : rs i = true := by
  unfold zB at h; cases q : rs i <;> simp [q, bi] at h ⊢
theorem zB_eq {rs : Int → Bool} {i : Int} (h : zB rs i = 0) : rs i = false := by
  unfold zB at h; cases q : rs i <;> simp [q, bi] at h ⊢
theorem bi_ne {b : Bool} (h : bi b ≠ 0) : b = true := by cases b <;> simp [bi] at h ⊢
theorem bi_eq {b : Bool} (h : bi b = 0) : b = false := by cases b <;> simp [bi] at h ⊢
theorem zir_t {len : Int} {rs : Int → Bool} {i : Int} (h0 : 0 ≤ i) (h1 : i < len) (h : zB rs i ≠ 0) : 1 = bi (zir len rs i) := by rw [zir_in h0 h1, zB_ne h]; rfl
theorem zir_f {len : Int} {rs : Int → Bool} {i : Int} (h0 : 0 ≤ i) (h1 : i < len) (h : zB rs i = 0) : 0 = bi (zir len rs i) := by rw [zir_in h0 h1, zB_eq h]; rfl
theorem zir_o {len : Int} {rs : Int → Bool} {i : Int} (h : i < 0 ∨ len ≤ i) : 0 = bi (zir len rs i) := by rw [zir_out h]; rfl
theorem zif_t {len : Int} {rs : Int → Bool} {i : Int} (h0 : 0 ≤ i) (h1 : i < len) (h : zB rs i = 0) : 1 = bi (zif len rs i) := by rw [zif_in h0 h1, zB_eq h]; rfl
theorem zif_f {len : Int} {rs : Int → Bool} {i : Int} (h0 : 0 ≤ i) (h1 : i < len) (h : zB rs i ≠ 0) : 0 = bi (zif len rs i) := by rw [zif_in h0 h1, zB_ne h]; rfl
theorem zif_o {len : Int} {rs : Int → Bool} {i : Int} (h : i < 0 ∨ len ≤ i) : 0 = bi (zif len rs i) := by rw [zif_out h]; rfl
end
section
/-! what the sorter's methods compute, as functions -/
def zS (f : Int → Int) : Prop := ∀ i, -1000000 ≤ f i ∧ f i ≤ 1000000
def zfill {α : Type} (lo hi : Int) (f g : Int → α) : Int → α := fun j => if lo ≤ j ∧ j < hi then f j else g j
theorem zfill_in {α : Type} {lo hi j : Int} {f g : Int → α} (h : lo ≤ j) (h2 : j < hi) : zfill lo hi f g j = f j := if_pos ⟨h, h2⟩
theorem zfill_out {α : Type} {lo hi j : Int} {f g : Int → α} (h : j < lo ∨ hi ≤ j) : zfill lo hi f g j = g j := if_neg (by omega)
theorem zfill_0 {α : Type} (lo : Int) (f g : Int → α) : g = zfill lo lo f g := by
  funext j; rw [zfill_out (by omega)]
theorem zfill_up {lo hi : Int} {f g : Int → Int} (h : lo ≤ hi) : zup (zfill lo hi f g) hi (f hi) = zfill lo (hi + 1) f g := by
  funext j
  by_cases e : j = hi
  · rw [e, zup_eq, zfill_in h (by omega)]
  · rw [zup_ne e]
    by_cases q : lo ≤ j ∧ j < hi
    · rw [zfill_in q.1 q.2, zfill_in q.1 (by omega)]
    · rw [zfill_out (by omega), zfill_out (by omega)]
def zupb (rs : Int → Bool) (k : Int) (b : Bool) : Int → Bool := fun j => if j = k then b else rs j
theorem zB_up (rs : Int → Bool) (k : Int) (b : Bool) : zup (zB rs) k (bi b) = zB (zupb rs k b) := by
  funext j
  by_cases e : j = k
  · rw [e, zup_eq]; simp [zB, zupb]
  · rw [zup_ne e]; simp [zB, zupb, e]
theorem zfill_dn {lo hi : Int} {f g : Int → Bool} (h : lo < hi) : zupb (zfill (lo + 1) hi f g) lo (f lo) = zfill lo hi f g := by
  funext j
  unfold zupb
  by_cases e : j = lo
  · rw [if_pos e, e, zfill_in (by omega) h]
  · rw [if_neg e]
    by_cases q : lo ≤ j ∧ j < hi
    · rw [zfill_in (by omega) q.2, zfill_in q.1 q.2]
    · rw [zfill_out (by omega), zfill_out (by omega)]
def zit {σ : Type} (f : Nat → σ → σ) : Nat → σ → σ
  | 0, s => s
  | k + 1, s => f k (zit f k s)
theorem zla_S {lt : Int → Int} (h : zS lt) (len i : Int) : -1000000 ≤ zla len lt i ∧ zla len lt i ≤ 1000000 := by
  unfold zla; split
  · exact h i
  · omega
theorem zat_S {g : Int → Int} (h : zS g) (n : Nat) (i : Int) : -1000000 ≤ zat n g i ∧ zat n g i ≤ 1000000 := by
  unfold zat; split
  · exact h i
  · omega
/-- placeFront, placeBack -/
def pfO (nO nN : Nat) (len : Int) (lt od ns : Int → Int) (x : Int) : Int → Int := zput nO od (zat nN ns (zla len lt x)) x
def pfN (nN : Nat) (len : Int) (lt ns : Int → Int) (x : Int) : Int → Int := zput nN ns (zla len lt x) (zat nN ns (zla len lt x) + 1)
def pbO (nO nN : Nat) (len : Int) (lt od ns : Int → Int) (x : Int) : Int → Int := zput nO od (zat nN ns (zla len lt x) - 1) x
def pbN (nN : Nat) (len : Int) (lt ns : Int → Int) (x : Int) : Int → Int := zput nN ns (zla len lt x) (zat nN ns (zla len lt x) - 1)
/-- startBuckets -/
def sbN (sg : Int) (nf : Nat) (fr : Int → Int) (on : Int) (ns : Int → Int) : Int → Int := zfill 0 sg (fun j => zat nf fr (j + on)) ns
/-- the rising ends, from the letters -/
def zris (len : Int) (lt : Int → Int) (i : Int) : Bool := sx_ris len.toNat (fun j => (lt (j : Int)).toNat) i.toNat
theorem zla_le {len : Int} {lt : Int → Int} (h : ∀ i, 0 ≤ i → i < len → 0 ≤ lt i) {i : Int} (h0 : 0 ≤ i) : zla len lt i = sx_le len.toNat (fun j => (lt (j : Int)).toNat) i.toNat := by
  unfold zla sx_le
  by_cases q : i < len
  · rw [if_pos ⟨h0, q⟩, if_pos (by omega)]
    have := h i h0 q
    show lt i = ((lt (i.toNat : Int)).toNat : Int)
    rw [Int.toNat_of_nonneg h0]; omega
  · rw [if_neg (by omega), if_neg (by omega)]
theorem zris_eq {len : Int} {lt : Int → Int} (h : ∀ i, 0 ≤ i → i < len → 0 ≤ lt i) {i : Int} (h0 : 0 ≤ i) (h1 : i < len) : zris len lt i = if zla len lt i = zla len lt (i + 1) then zris len lt (i + 1) else decide (zla len lt i < zla len lt (i + 1)) := by
  rw [zris, sx_ris_eq (by omega), zla_le h h0, zla_le h (i := i + 1) (by omega), zris, show (i + 1).toNat = i.toNat + 1 by omega]
theorem zris_ge {len : Int} {lt : Int → Int} {i : Int} (h : len ≤ i) : zris len lt i = false := sx_ris_ge (by omega)
/-- a step of markRising -/
theorem mr_same {len : Int} {lt : Int → Int} {rs0 : Int → Bool} (h : ∀ i, 0 ≤ i → i < len → 0 ≤ lt i) {i : Int} (h0 : 0 ≤ i) (h1 : i < len) (e : zla len lt i = zla len lt (i + 1)) : zir len (zfill (i + 1) len (zris len lt) rs0) (i + 1) = zris len lt i := by
  rw [zris_eq h h0 h1, if_pos e]
  by_cases q : i + 1 < len
  · rw [zir_in (by omega) q, zfill_in (by omega) q]
  · rw [zir_out (by omega), zris_ge (by omega)]
theorem mr_lt {len : Int} {lt : Int → Int} (h : ∀ i, 0 ≤ i → i < len → 0 ≤ lt i) {i : Int} (h0 : 0 ≤ i) (h1 : i < len) (e : zla len lt i < zla len lt (i + 1)) : zris len lt i = true := by
  rw [zris_eq h h0 h1, if_neg (by omega)]; exact decide_eq_true e
theorem mr_gt {len : Int} {lt : Int → Int} (h : ∀ i, 0 ≤ i → i < len → 0 ≤ lt i) {i : Int} (h0 : 0 ≤ i) (h1 : i < len) (n : zla len lt i ≠ zla len lt (i + 1)) (e : zla len lt (i + 1) ≤ zla len lt i) : zris len lt i = false := by
  rw [zris_eq h h0 h1, if_neg n]; exact decide_eq_false (by omega)
/-- findValleys -/
def zvl (len : Int) (rs : Int → Bool) (i : Int) : Bool := zir len rs i && zif len rs (i - 1)
def stV (nV : Nat) (len : Int) (rs : Int → Bool) (k : Nat) (q : (Int → Int) × (Int → Int) × Int) : (Int → Int) × (Int → Int) × Int :=
  if zvl len rs k = true then (zup q.1 k q.2.2, zput nV q.2.1 q.2.2 k, q.2.2 + 1) else (zup q.1 k (-1), q.2.1, q.2.2)
/-- findBuckets -/
def stC (nF nR : Nat) (len : Int) (lt : Int → Int) (rs : Int → Bool) (k : Nat) (q : (Int → Int) × (Int → Int)) : (Int → Int) × (Int → Int) :=
  if rs k = true then (q.1, zput nR q.2 (zla len lt k) (zat nR q.2 (zla len lt k) + 1)) else (zput nF q.1 (zla len lt k) (zat nF q.1 (zla len lt k) + 1), q.2)
def stB (k : Nat) (q : Int × (Int → Int) × (Int → Int)) : Int × (Int → Int) × (Int → Int) :=
  (q.1 + q.2.1 k + q.2.2 k, zup q.2.1 k q.1, zup q.2.2 k (q.1 + q.2.1 k))
/-- induceFalling, induceRising, the seeds -/
def stF (nO nN : Nat) (len : Int) (lt : Int → Int) (rs : Int → Bool) (k : Nat) (q : (Int → Int) × (Int → Int)) : (Int → Int) × (Int → Int) :=
  if zif len rs (q.1 k - 1) = true then (pfO nO nN len lt q.1 q.2 (q.1 k - 1), pfN nN len lt q.2 (q.1 k - 1)) else q
def stR (nO nN : Nat) (len : Int) (lt : Int → Int) (rs : Int → Bool) (k : Nat) (q : (Int → Int) × (Int → Int)) : (Int → Int) × (Int → Int) :=
  if zir len rs (q.1 (len - 1 - k) - 1) = true then (pbO nO nN len lt q.1 q.2 (q.1 (len - 1 - k) - 1), pbN nN len lt q.2 (q.1 (len - 1 - k) - 1)) else q
def stS (nO nN nS : Nat) (len : Int) (lt sd : Int → Int) (k : Nat) (q : (Int → Int) × (Int → Int)) : (Int → Int) × (Int → Int) :=
  (pfO nO nN len lt q.1 q.2 (zat nS sd k), pfN nN len lt q.2 (zat nS sd k))
section
variable {σ : Type} {f : Nat → σ → σ} {q s : σ} {i : Int}
theorem zit_n (h0 : 0 ≤ i) : zit f (i + 1).toNat q = f i.toNat (zit f i.toNat q) := by
  rw [show (i + 1).toNat = i.toNat + 1 by omega, zit]
theorem zit_0 : zit f (0 : Int).toNat q = q := rfl
end
theorem stF_t {nO nN : Nat} {len : Int} {lt : Int → Int} {rs : Int → Bool} {q : (Int → Int) × (Int → Int)} {od ns : Int → Int} {i : Int} (h : (od, ns) = zit (stF nO nN len lt rs) i.toNat q) (h0 : 0 ≤ i) (hc : zif len rs (od i - 1) = true) : (pfO nO nN len lt od ns (od i - 1), pfN nN len lt ns (od i - 1)) = zit (stF nO nN len lt rs) (i + 1).toNat q := by
  rw [zit_n h0, ← h, stF, Int.toNat_of_nonneg h0, if_pos hc]
theorem stF_f {nO nN : Nat} {len : Int} {lt : Int → Int} {rs : Int → Bool} {q : (Int → Int) × (Int → Int)} {od ns : Int → Int} {i : Int} (h : (od, ns) = zit (stF nO nN len lt rs) i.toNat q) (h0 : 0 ≤ i) (hc : zif len rs (od i - 1) = false) : (od, ns) = zit (stF nO nN len lt rs) (i + 1).toNat q := by
  rw [zit_n h0, ← h, stF, Int.toNat_of_nonneg h0, if_neg (by rw [hc]; decide)]
theorem stR_t {nO nN : Nat} {len : Int} {lt : Int → Int} {rs : Int → Bool} {q : (Int → Int) × (Int → Int)} {od ns : Int → Int} {i : Int} (h : (od, ns) = zit (stR nO nN len lt rs) (len - 1 - i).toNat q) (h0 : i ≤ len - 1) (hc : zir len rs (od i - 1) = true) : (pbO nO nN len lt od ns (od i - 1), pbN nN len lt ns (od i - 1)) = zit (stR nO nN len lt rs) (len - 1 - (i + (-1))).toNat q := by
  rw [show len - 1 - (i + (-1)) = (len - 1 - i) + 1 by omega, zit_n (by omega), ← h, stR, Int.toNat_of_nonneg (by omega), show len - 1 - (len - 1 - i) = i by omega, if_pos hc]
theorem stR_f {nO nN : Nat} {len : Int} {lt : Int → Int} {rs : Int → Bool} {q : (Int → Int) × (Int → Int)} {od ns : Int → Int} {i : Int} (h : (od, ns) = zit (stR nO nN len lt rs) (len - 1 - i).toNat q) (h0 : i ≤ len - 1) (hc : zir len rs (od i - 1) = false) : (od, ns) = zit (stR nO nN len lt rs) (len - 1 - (i + (-1))).toNat q := by
  rw [show len - 1 - (i + (-1)) = (len - 1 - i) + 1 by omega, zit_n (by omega), ← h, stR, Int.toNat_of_nonneg (by omega), show len - 1 - (len - 1 - i) = i by omega, if_neg (by rw [hc]; decide)]
theorem stS_s {nO nN nS : Nat} {len : Int} {lt sd : Int → Int} {q : (Int → Int) × (Int → Int)} {od ns : Int → Int} {i : Int} (h : (od, ns) = zit (stS nO nN nS len lt sd) i.toNat q) (h0 : 0 ≤ i) : (pfO nO nN len lt od ns (zat nS sd i), pfN nN len lt ns (zat nS sd i)) = zit (stS nO nN nS len lt sd) (i + 1).toNat q := by
  rw [zit_n h0, ← h, stS, Int.toNat_of_nonneg h0]
theorem stV_t {nV : Nat} {len : Int} {rs : Int → Bool} {q : (Int → Int) × (Int → Int) × Int} {vn vl : Int → Int} {vc i : Int} (h : (vn, vl, vc) = zit (stV nV len rs) i.toNat q) (h0 : 0 ≤ i) (hc : zvl len rs i = true) : (zup vn i vc, zput nV vl vc i, vc + 1) = zit (stV nV len rs) (i + 1).toNat q := by
  rw [zit_n h0, ← h, stV, Int.toNat_of_nonneg h0, if_pos hc]
theorem stV_f {nV : Nat} {len : Int} {rs : Int → Bool} {q : (Int → Int) × (Int → Int) × Int} {vn vl : Int → Int} {vc i : Int} (h : (vn, vl, vc) = zit (stV nV len rs) i.toNat q) (h0 : 0 ≤ i) (hc : zvl len rs i = false) : (zup vn i (-1), vl, vc) = zit (stV nV len rs) (i + 1).toNat q := by
  rw [zit_n h0, ← h, stV, Int.toNat_of_nonneg h0, if_neg (by rw [hc]; decide)]
theorem stC_t {nF nR : Nat} {len : Int} {lt : Int → Int} {rs : Int → Bool} {q : (Int → Int) × (Int → Int)} {ff rf : Int → Int} {i : Int} (h : (ff, rf) = zit (stC nF nR len lt rs) i.toNat q) (h0 : 0 ≤ i) (hc : rs i = true) : (ff, zput nR rf (zla len lt i) (zat nR rf (zla len lt i) + 1)) = zit (stC nF nR len lt rs) (i + 1).toNat q := by
  rw [zit_n h0, ← h, stC, Int.toNat_of_nonneg h0, if_pos hc]
theorem stC_f {nF nR : Nat} {len : Int} {lt : Int → Int} {rs : Int → Bool} {q : (Int → Int) × (Int → Int)} {ff rf : Int → Int} {i : Int} (h : (ff, rf) = zit (stC nF nR len lt rs) i.toNat q) (h0 : 0 ≤ i) (hc : rs i = false) : (zput nF ff (zla len lt i) (zat nF ff (zla len lt i) + 1), rf) = zit (stC nF nR len lt rs) (i + 1).toNat q := by
  rw [zit_n h0, ← h, stC, Int.toNat_of_nonneg h0, if_neg (by rw [hc]; decide)]
theorem stB_s {q : Int × (Int → Int) × (Int → Int)} {ff rf : Int → Int} {sl i : Int} (h : (sl, ff, rf) = zit stB i.toNat q) (h0 : 0 ≤ i) : (sl + ff i + rf i, zup ff i sl, zup rf i (sl + ff i)) = zit stB (i + 1).toNat q := by
  rw [zit_n h0, ← h, stB, Int.toNat_of_nonneg h0]
end
section
theorem mr_step {len : Int} {lt : Int → Int} {rs rr : Int → Bool} {i v : Int} (hrr : rr = zfill (i + 1) len (zris len lt) rs) (h1 : i < len) (hv : v = bi (zris len lt i)) : zup (zB rr) i v = zB (zfill i len (zris len lt) rs) := by
  rw [hv, hrr, zB_up]
  exact congrArg zB (zfill_dn h1)
theorem zvl_t {len : Int} {rs : Int → Bool} {i : Int} (ha : bi (zir len rs i) ≠ 0) (hb : bi (zif len rs (i - 1)) ≠ 0) : zvl len rs i = true := by
  rw [zvl, bi_ne ha, bi_ne hb]; rfl
theorem zvl_f1 {len : Int} {rs : Int → Bool} {i : Int} (ha : bi (zir len rs i) = 0) : zvl len rs i = false := by
  rw [zvl, bi_eq ha]; rfl
theorem zvl_f2 {len : Int} {rs : Int → Bool} {i : Int} (ha : bi (zif len rs (i - 1)) = 0) : zvl len rs i = false := by
  rw [zvl, bi_eq ha, Bool.and_false]
def fvq (nV : Nat) (len : Int) (rs : Int → Bool) (vn vl : Int → Int) : (Int → Int) × (Int → Int) × Int := zit (stV nV len rs) len.toNat (vn, vl, 0)
def fbC (nF nR : Nat) (len sg : Int) (lt : Int → Int) (rs : Int → Bool) (ff rf : Int → Int) : (Int → Int) × (Int → Int) := zit (stC nF nR len lt rs) len.toNat (zfill 0 sg (fun _ => 0) ff, zfill 0 sg (fun _ => 0) rf)
def fbB (nF nR : Nat) (len sg : Int) (lt : Int → Int) (rs : Int → Bool) (ff rf : Int → Int) : Int × (Int → Int) × (Int → Int) := zit stB sg.toNat (0, (fbC nF nR len sg lt rs ff rf).1, (fbC nF nR len sg lt rs ff rf).2)
def ifq0 (nO nN nF : Nat) (len sg : Int) (lt ff od ns : Int → Int) : (Int → Int) × (Int → Int) := (pfO nO nN len lt od (sbN sg nF ff 0 ns) (len - 1), pfN nN len lt (sbN sg nF ff 0 ns) (len - 1))
def inS (nO nN nS nR : Nat) (len sg vc : Int) (lt rf od ns sd : Int → Int) : (Int → Int) × (Int → Int) := zit (stS nO nN nS len lt sd) vc.toNat (zfill 0 len (fun _ => -1) od, sbN sg nR rf 0 ns)
def inF (nO nN nS nF nR : Nat) (len sg vc : Int) (lt : Int → Int) (rs : Int → Bool) (ff rf od ns sd : Int → Int) : (Int → Int) × (Int → Int) := zit (stF nO nN len lt rs) len.toNat (ifq0 nO nN nF len sg lt ff (inS nO nN nS nR len sg vc lt rf od ns sd).1 (inS nO nN nS nR len sg vc lt rf od ns sd).2)
def inR (nO nN nS nF nR : Nat) (len sg vc : Int) (lt : Int → Int) (rs : Int → Bool) (ff rf od ns sd : Int → Int) : (Int → Int) × (Int → Int) := zit (stR nO nN len lt rs) len.toNat ((inF nO nN nS nF nR len sg vc lt rs ff rf od ns sd).1, sbN sg nF ff 1 (inF nO nN nS nF nR len sg vc lt rs ff rf od ns sd).2)
theorem sbN_S {sg : Int} {nf : Nat} {fr ns : Int → Int} {on : Int} (hf : zS fr) (hn : zS ns) : zS (sbN sg nf fr on ns) := by
  intro i
  unfold sbN
  by_cases q : 0 ≤ i ∧ i < sg
  · rw [zfill_in q.1 q.2]; exact zat_S hf _ _
  · rw [zfill_out (by omega)]; exact hn i
end
section
/-- gatherValleys -/
def stG (nM nW : Nat) (vn od : Int → Int) (k : Nat) (q : Int × (Int → Int)) : Int × (Int → Int) :=
  if zat nM vn (od k) = -1 then q else (q.1 + 1, zput nW q.2 q.1 (od k))
theorem stG_t {nM nW : Nat} {vn od sv : Int → Int} {g i : Int} {q : Int × (Int → Int)} (h : (g, sv) = zit (stG nM nW vn od) i.toNat q) (h0 : 0 ≤ i) (hc : zat nM vn (od i) ≠ -1) : (g + 1, zput nW sv g (od i)) = zit (stG nM nW vn od) (i + 1).toNat q := by
  rw [zit_n h0, ← h, stG, Int.toNat_of_nonneg h0, if_neg hc]
theorem stG_f {nM nW : Nat} {vn od sv : Int → Int} {g i : Int} {q : Int × (Int → Int)} (h : (g, sv) = zit (stG nM nW vn od) i.toNat q) (h0 : 0 ≤ i) (hc : zat nM vn (od i) = -1) : (g, sv) = zit (stG nM nW vn od) (i + 1).toNat q := by
  rw [zit_n h0, ← h, stG, Int.toNat_of_nonneg h0, if_pos hc]
/-- stepsToNext -/
def zst (nM nV : Nat) (len vc : Int) (vn vl : Int → Int) (v : Int) : Int := (if zat nM vn v + 1 < vc then zat nV vl (zat nM vn v + 1) else len) - v
theorem zst_S {nM nV : Nat} {len vc : Int} {vn vl : Int → Int} {v : Int} (hl : 0 ≤ len ∧ len ≤ 1000000) (hvl : zS vl) (hv : -1000000 ≤ v ∧ v ≤ 1000000) : -2000000 ≤ zst nM nV len vc vn vl v ∧ zst nM nV len vc vn vl v ≤ 2000000 := by
  unfold zst
  have := zat_S hvl nV (zat nM vn v + 1)
  split <;> omega
/-- areAlike -/
noncomputable def zal (nM nV : Nat) (len vc : Int) (lt vn vl : Int → Int) (x y : Int) : Bool := @decide (zst nM nV len vc vn vl x = zst nM nV len vc vn vl y ∧ ∀ i, 0 ≤ i → i ≤ zst nM nV len vc vn vl x → zla len lt (x + i) = zla len lt (y + i)) (Classical.propDecidable _)
theorem zal_iff {nM nV : Nat} {len vc : Int} {lt vn vl : Int → Int} {x y : Int} : zal nM nV len vc lt vn vl x y = true ↔ (zst nM nV len vc vn vl x = zst nM nV len vc vn vl y ∧ ∀ i, 0 ≤ i → i ≤ zst nM nV len vc vn vl x → zla len lt (x + i) = zla len lt (y + i)) := by
  unfold zal; exact @decide_eq_true_iff _ (Classical.propDecidable _)
theorem zal_t {nM nV : Nat} {len vc : Int} {lt vn vl : Int → Int} {x y : Int} (h1 : zst nM nV len vc vn vl x = zst nM nV len vc vn vl y) (h2 : ∀ i, 0 ≤ i → i ≤ zst nM nV len vc vn vl x → zla len lt (x + i) = zla len lt (y + i)) : 1 = bi (zal nM nV len vc lt vn vl x y) := by
  rw [zal_iff.mpr ⟨h1, h2⟩]; rfl
theorem zal_f {nM nV : Nat} {len vc : Int} {lt vn vl : Int → Int} {x y : Int} (h : ¬ (zst nM nV len vc vn vl x = zst nM nV len vc vn vl y ∧ ∀ i, 0 ≤ i → i ≤ zst nM nV len vc vn vl x → zla len lt (x + i) = zla len lt (y + i))) : 0 = bi (zal nM nV len vc lt vn vl x y) := by
  have : zal nM nV len vc lt vn vl x y = false := by
    cases q : zal nM nV len vc lt vn vl x y with
    | true => exact absurd (zal_iff.mp q) h
    | false => rfl
  rw [this]; rfl
/-- nameValleys -/
noncomputable def stN (nM nV nW nP : Nat) (len vc : Int) (lt vn vl sv : Int → Int) (k : Nat) (q : Int × Int × (Int → Int)) : Int × Int × (Int → Int) :=
  if (k : Int) ≠ 0 ∧ zal nM nV len vc lt vn vl q.2.1 (zat nW sv k) = true then (q.1, zat nW sv k, zput nP q.2.2 (zat nM vn (zat nW sv k)) (q.1 - 1)) else (q.1 + 1, zat nW sv k, zput nP q.2.2 (zat nM vn (zat nW sv k)) (q.1 + 1 - 1))
section
variable {nM nV nW nP : Nat} {len vc : Int} {lt vn vl sv nm : Int → Int} {ct fo i : Int} {q : Int × Int × (Int → Int)}
theorem stN_a (h : (ct, fo, nm) = zit (stN nM nV nW nP len vc lt vn vl sv) i.toNat q) (h0 : 0 ≤ i) (hn : i ≠ 0) (hc : zal nM nV len vc lt vn vl fo (zat nW sv i) = true) : (ct, zat nW sv i, zput nP nm (zat nM vn (zat nW sv i)) (ct - 1)) = zit (stN nM nV nW nP len vc lt vn vl sv) (i + 1).toNat q := by
  rw [zit_n h0, ← h, stN, Int.toNat_of_nonneg h0, if_pos ⟨hn, hc⟩]
theorem stN_b (h : (ct, fo, nm) = zit (stN nM nV nW nP len vc lt vn vl sv) i.toNat q) (h0 : 0 ≤ i) (hc : zal nM nV len vc lt vn vl fo (zat nW sv i) = false) : (ct + 1, zat nW sv i, zput nP nm (zat nM vn (zat nW sv i)) (ct + 1 - 1)) = zit (stN nM nV nW nP len vc lt vn vl sv) (i + 1).toNat q := by
  rw [zit_n h0, ← h, stN, Int.toNat_of_nonneg h0, if_neg (fun z => by rw [hc] at z; exact absurd z.2 (by decide))]
theorem stN_c (h : (ct, fo, nm) = zit (stN nM nV nW nP len vc lt vn vl sv) i.toNat q) (h0 : 0 ≤ i) (hn : i = 0) : (ct + 1, zat nW sv i, zput nP nm (zat nM vn (zat nW sv i)) (ct + 1 - 1)) = zit (stN nM nV nW nP len vc lt vn vl sv) (i + 1).toNat q := by
  rw [zit_n h0, ← h, stN, Int.toNat_of_nonneg h0, if_neg (fun z => z.1 hn)]
end
/-- takeOrderFromBelow -/
def stT (nO nV nW : Nat) (od vl : Int → Int) (k : Nat) (sv : Int → Int) : Int → Int := zput nW sv k (zat nV vl (zat nO od k))
theorem stT_s {nO nV nW : Nat} {od vl sv q : Int → Int} {i : Int} (h : sv = zit (stT nO nV nW od vl) i.toNat q) (h0 : 0 ≤ i) : zput nW sv i (zat nV vl (zat nO od i)) = zit (stT nO nV nW od vl) (i + 1).toNat q := by
  rw [zit_n h0, ← h, stT, Int.toNat_of_nonneg h0]
end
section
/-! what the reference's methods compute -/
/-- letters in common of the ends a and b, from k on -/
def zcf (T : Int → Int) (a b : Int) : Nat → Int → Int
  | 0, k => k
  | f + 1, k => if T (a + k) = T (b + k) then zcf T a b f (k + 1) else k
def zcm (len : Int) (T : Int → Int) (a b k : Int) : Int := zcf T a b (len - zmax a b - k).toNat k
section
variable {len : Int} {T : Int → Int} {a b k : Int}
theorem zmax_le {a b c : Int} (h1 : a ≤ c) (h2 : b ≤ c) : zmax a b ≤ c := by unfold zmax; split <;> omega
theorem zmax_ge {a b : Int} : a ≤ zmax a b ∧ b ≤ zmax a b := by unfold zmax; split <;> omega
theorem zmax_or {a b : Int} : zmax a b = a ∨ zmax a b = b := by unfold zmax; split <;> simp
theorem zmin_ge {a b : Int} : zmin a b ≤ a ∧ zmin a b ≤ b := by unfold zmin; split <;> omega
theorem zmin_or {a b : Int} : zmin a b = a ∨ zmin a b = b := by unfold zmin; split <;> simp
theorem zcm_stop (h : len ≤ zmax a b + k) : zcm len T a b k = k := by
  rw [zcm, show (len - zmax a b - k).toNat = 0 by omega, zcf]
theorem zcm_ne (h : T (a + k) ≠ T (b + k)) : zcm len T a b k = k := by
  unfold zcm
  cases (len - zmax a b - k).toNat with
  | zero => rfl
  | succ f => rw [zcf, if_neg h]
theorem zcm_eq (h : zmax a b + k < len) (e : T (a + k) = T (b + k)) : zcm len T a b (k + 1) = zcm len T a b k := by
  rw [zcm, zcm, show (len - zmax a b - k).toNat = (len - zmax a b - (k + 1)).toNat + 1 by omega, zcf, if_pos e]
theorem zcf_le (f : Nat) : ∀ k, k ≤ zcf T a b f k ∧ zcf T a b f k ≤ k + f := by
  induction f with
  | zero => intro k; rw [zcf]; omega
  | succ f ih =>
    intro k
    rw [zcf]
    split
    · have := ih (k + 1); omega
    · omega
theorem zcm_le (h1 : a + k ≤ len) (h2 : b + k ≤ len) : k ≤ zcm len T a b k ∧ a + zcm len T a b k ≤ len ∧ b + zcm len T a b k ≤ len := by
  have := zcf_le (T := T) (a := a) (b := b) (len - zmax a b - k).toNat k
  have h3 := zmax_le (a := a) (b := b) (c := len - k) (by omega) (by omega)
  have h4 := zmax_ge (a := a) (b := b)
  unfold zcm
  omega
end
def zbf (sz : Int) (T : Int → Int) (a b : Int) : Bool := if a + zcm sz T a b 0 = sz then decide (b + zcm sz T a b 0 < sz) else decide (b + zcm sz T a b 0 < sz) && decide (T (a + zcm sz T a b 0) < T (b + zcm sz T a b 0))
def zie (bt sz k : Int) : Bool := decide (bt ≠ 0) && (decide (0 ≤ k) && decide (k < sz))
theorem zie_t {bt sz k : Int} (h : bt ≠ 0) (h0 : 0 ≤ k) (h1 : k < sz) : 1 = bi (zie bt sz k) := by simp [zie, h, h0, h1, bi]
theorem zie_f {bt sz k : Int} (h : bt = 0 ∨ k < 0 ∨ sz ≤ k) : 0 = bi (zie bt sz k) := by
  have : zie bt sz k = false := by
    rcases h with h | h | h
    · simp [zie, h]
    · have : ¬ 0 ≤ k := by omega
      simp [zie, this]
    · have : ¬ k < sz := by omega
      simp [zie, this]
  rw [this]; rfl
theorem zie_iff {bt sz k : Int} : zie bt sz k = true ↔ bt ≠ 0 ∧ 0 ≤ k ∧ k < sz := by simp [zie]
def zsa (bt sz : Int) (od : Int → Int) (i : Int) : Int := if zie bt sz i = true then od i else -1
def zlc (bt sz : Int) (c : Int → Int) (i : Int) : Int := if zie bt sz i = true ∧ 0 < i then c i else -1
def zcc (sz : Int) (T od : Int → Int) (i : Int) : Int := zcm sz T (od (i - 1)) (od i) 0
def zrk (od : Int → Int) (p : Int) : Nat → Int → Int
  | 0, k => k
  | f + 1, k => if od k = p then k else zrk od p f (k + 1)
def zrn (bt sz : Int) (od : Int → Int) (p : Int) : Int := if zie bt sz p = true then zrk od p sz.toNat 0 else -1
theorem zrk_at {od : Int → Int} {p k : Int} {f : Nat} (h : od k = p) : zrk od p f k = k := by
  cases f with
  | zero => rfl
  | succ f => rw [zrk, if_pos h]
theorem zrk_nx {od : Int → Int} {p k : Int} {f : Nat} (h : od k ≠ p) : zrk od p (f + 1) k = zrk od p f (k + 1) := by rw [zrk, if_neg h]
def zcn2 (bt sz : Int) (T : Int → Int) (x y : Int) : Int := if zie bt sz x = true ∧ zie bt sz y = true then zcm sz T x y 0 else -1
/-- whether a letter comes -/
def fok (sg rm sz x : Int) : Bool := decide (0 ≤ x) && (decide (x < sg) && decide (sz < rm))
theorem fok_t {sg rm sz x : Int} (h0 : 0 ≤ x) (h1 : x < sg) (h2 : sz < rm) : fok sg rm sz x = true := by simp [fok, h0, h1, h2]
theorem fok_f {sg rm sz x : Int} (h : x < 0 ∨ sg ≤ x ∨ rm ≤ sz) : fok sg rm sz x = false := by
  rcases h with h | h | h
  · have : ¬ 0 ≤ x := by omega
    simp [fok, this]
  · have : ¬ x < sg := by omega
    simp [fok, this]
  · have : ¬ sz < rm := by omega
    simp [fok, this]
noncomputable def zbg (ps sz : Int) (T pt : Int → Int) (pl : Int) : Bool := @decide (∀ k, 0 ≤ k → k < ps → pl + k < sz ∧ T (pl + k) = pt k) (Classical.propDecidable _)
theorem zbg_iff {ps sz : Int} {T pt : Int → Int} {pl : Int} : zbg ps sz T pt pl = true ↔ ∀ k, 0 ≤ k → k < ps → pl + k < sz ∧ T (pl + k) = pt k := by
  unfold zbg; exact @decide_eq_true_iff _ (Classical.propDecidable _)
theorem zbg_t {ps sz : Int} {T pt : Int → Int} {pl : Int} (h : ∀ k, 0 ≤ k → k < ps → pl + k < sz ∧ T (pl + k) = pt k) : 1 = bi (zbg ps sz T pt pl) := by rw [zbg_iff.mpr h]; rfl
theorem zbg_f {ps sz : Int} {T pt : Int → Int} {pl : Int} (h : ¬ ∀ k, 0 ≤ k → k < ps → pl + k < sz ∧ T (pl + k) = pt k) : 0 = bi (zbg ps sz T pt pl) := by
  have : zbg ps sz T pt pl = false := by
    cases q : zbg ps sz T pt pl with
    | true => exact absurd (zbg_iff.mp q) h
    | false => rfl
  rw [this]; rfl
/-- the search of the reference: first hit, hits, going down -/
noncomputable def stH (ps sz : Int) (T pt od : Int → Int) (k : Nat) (q : Int × Int) : Int × Int := if zbg ps sz T pt (od (sz - 1 - k)) = true then (sz - 1 - k, q.2 + 1) else q
theorem stH_t {ps sz : Int} {T pt od : Int → Int} {fi ht i : Int} {q : Int × Int} (h : (fi, ht) = zit (stH ps sz T pt od) (sz - 1 - i).toNat q) (h0 : i ≤ sz - 1) (hc : zbg ps sz T pt (od i) = true) : (i, ht + 1) = zit (stH ps sz T pt od) (sz - 1 - (i + (-1))).toNat q := by
  rw [show sz - 1 - (i + (-1)) = (sz - 1 - i) + 1 by omega, zit_n (by omega), ← h, stH, Int.toNat_of_nonneg (by omega), show sz - 1 - (sz - 1 - i) = i by omega, if_pos hc]
theorem stH_f {ps sz : Int} {T pt od : Int → Int} {fi ht i : Int} {q : Int × Int} (h : (fi, ht) = zit (stH ps sz T pt od) (sz - 1 - i).toNat q) (h0 : i ≤ sz - 1) (hc : zbg ps sz T pt (od i) = false) : (fi, ht) = zit (stH ps sz T pt od) (sz - 1 - (i + (-1))).toNat q := by
  rw [show sz - 1 - (i + (-1)) = (sz - 1 - i) + 1 by omega, zit_n (by omega), ← h, stH, Int.toNat_of_nonneg (by omega), show sz - 1 - (sz - 1 - i) = i by omega, if_neg (by rw [hc]; decide)]
def zhi (fo ht : Int) (od : Int → Int) (fi k : Int) : Int := if fo ≠ 0 ∧ 0 ≤ k ∧ k < ht then od (fi + k) else -1
/-- the greatest of c 1 .. c (n - 1), and 0 -/
def stM (c : Int → Int) (k : Nat) (m : Int) : Int := if m < c (k + 1) then c (k + 1) else m
def zmx (c : Int → Int) (n : Int) : Int := zit (stM c) (n - 1).toNat 0
theorem stM_s {c : Int → Int} {m i : Int} (h : m = zit (stM c) (i - 1).toNat 0) (h0 : 1 ≤ i) : (if m < c i then c i else m) = zit (stM c) (i + 1 - 1).toNat 0 := by
  rw [show (i + 1 - 1).toNat = (i - 1).toNat + 1 by omega, zit, ← h, stM, Int.toNat_of_nonneg (by omega), show i - 1 + 1 = i by omega]
def zrp (bt sz : Int) (c : Int → Int) : Int := if bt = 0 then -1 else zmx c sz
/-- the sum over the order -/
def stD (f : Int → Int) (k : Nat) (m : Int) : Int := m + f k
theorem stD_s {f : Int → Int} {m i : Int} (h : m = zit (stD f) i.toNat 0) (h0 : 0 ≤ i) {v : Int} (hv : v = f i) : m + v = zit (stD f) (i + 1).toNat 0 := by
  rw [zit_n h0, ← h, stD, Int.toNat_of_nonneg h0, hv]
def zdf (bt sz : Int) (f : Int → Int) : Int := if bt = 0 then -1 else zit (stD f) sz.toNat 0
/-- the first place from k on that has c no less than m -/
def zfk (c : Int → Int) (m : Int) : Nat → Int → Int
  | 0, k => k
  | f + 1, k => if c k < m then zfk c m f (k + 1) else k
/-- the least of od k .. as long as c k = m, and least -/
def zls (c od : Int → Int) (m : Int) : Nat → Int → Int → Int
  | 0, _, x => x
  | f + 1, k, x => if c k = m then zls c od m f (k + 1) (if od k < x then od k else x) else x
def zra (bt sz : Int) (c od : Int → Int) : Int :=
  if zrp bt sz c < 1 then -1 else zls c od (zrp bt sz c) (sz - zfk c (zrp bt sz c) (sz - 1).toNat 1).toNat (zfk c (zrp bt sz c) (sz - 1).toNat 1) (od (zfk c (zrp bt sz c) (sz - 1).toNat 1 - 1))
def zcn (v0 v1 v2 v3 v4 v5 w : Int) : Int := if w = 0 then v0 else if w = 1 then v1 else if w = 2 then v2 else if w = 3 then v3 else if w = 4 then v4 else if w = 5 then v5 else -1
theorem zcn2_t {bt sz : Int} {T : Int → Int} {x y : Int} (h1 : zie bt sz x = true) (h2 : zie bt sz y = true) : zcm sz T x y 0 = zcn2 bt sz T x y := (if_pos ⟨h1, h2⟩).symm
theorem zcn2_a {bt sz : Int} {T : Int → Int} {x y : Int} (h1 : zie bt sz x = false) : -1 = zcn2 bt sz T x y := (if_neg (fun z => by rw [h1] at z; exact absurd z.1 (by decide))).symm
theorem zcn2_b {bt sz : Int} {T : Int → Int} {x y : Int} (h1 : zie bt sz y = false) : -1 = zcn2 bt sz T x y := (if_neg (fun z => by rw [h1] at z; exact absurd z.2 (by decide))).symm
end
section
/-! what the methods of TextEnds compute -/
theorem zcf_S {T : Int → Int} {a b : Int} (f : Nat) (k : Int) : k ≤ zcf T a b f k ∧ zcf T a b f k ≤ k + f := zcf_le f k
theorem zcm_S {len : Int} {T : Int → Int} {a b k : Int} (ha : 0 ≤ a) (hb : 0 ≤ b) (hk : 0 ≤ k) (hl : k ≤ len) : k ≤ zcm len T a b k ∧ zcm len T a b k ≤ len := by
  have h1 := zcf_le (T := T) (a := a) (b := b) (len - zmax a b - k).toNat k
  have h2 := zmax_ge (a := a) (b := b)
  unfold zcm
  omega
def zcw (len : Int) (T pt : Int → Int) (pl : Int) : Nat → Int → Int
  | 0, _ => 0
  | f + 1, i => if len ≤ pl + i then -1 else if T (pl + i) - pt i = 0 then zcw len T pt pl f (i + 1) else T (pl + i) - pt i
theorem zcw_S {len : Int} {T pt : Int → Int} {pl : Int} (hT : zS T) (hp : zS pt) (f : Nat) : ∀ i, -2000000 ≤ zcw len T pt pl f i ∧ zcw len T pt pl f i ≤ 2000000 := by
  induction f with
  | zero => intro i; rw [zcw]; omega
  | succ f ih =>
    intro i
    rw [zcw]
    have := hT (pl + i)
    have := hp i
    split
    · omega
    · split
      · exact ih _
      · omega
def zbs (f : Int → Bool) : Nat → Int → Int → Int
  | 0, lo, _ => lo
  | n + 1, lo, hi => if lo < hi then (if f ((lo + hi) / 2) = true then zbs f n ((lo + hi) / 2 + 1) hi else zbs f n lo ((lo + hi) / 2)) else lo
theorem zbs_t {f : Int → Bool} {n : Nat} {lo hi : Int} (h : lo < hi) (hf : f ((lo + hi) / 2) = true) : zbs f n ((lo + hi) / 2 + 1) hi = zbs f (n + 1) lo hi := by rw [zbs, if_pos h, if_pos hf]
theorem zbs_f {f : Int → Bool} {n : Nat} {lo hi : Int} (h : lo < hi) (hf : f ((lo + hi) / 2) = false) : zbs f n lo ((lo + hi) / 2) = zbs f (n + 1) lo hi := by rw [zbs, if_pos h, if_neg (by rw [hf]; decide)]
theorem zbs_e {f : Int → Bool} {n : Nat} {lo hi : Int} (h : hi ≤ lo) : zbs f n lo hi = lo := by
  cases n with
  | zero => rfl
  | succ n => rw [zbs, if_neg (by omega)]
theorem zbs_m {f : Int → Bool} : ∀ (n m : Nat) (lo hi : Int), (hi - lo).toNat ≤ n → (hi - lo).toNat ≤ m → zbs f n lo hi = zbs f m lo hi := by
  intro n
  induction n with
  | zero => intro m lo hi h1 h2; rw [zbs_e (by omega), zbs_e (by omega)]
  | succ n ih =>
    intro m lo hi h1 h2
    by_cases h : lo < hi
    · cases m with
      | zero => omega
      | succ m =>
        rw [zbs, zbs, if_pos h, if_pos h]
        split
        · exact ih m _ _ (by omega) (by omega)
        · exact ih m _ _ (by omega) (by omega)
    · rw [zbs_e (by omega), zbs_e (by omega)]
def zff (len : Int) (T pt od : Int → Int) (ps : Int) (least : Int) : Int := zbs (fun m => decide (zcw len T pt (od m) ps.toNat 0 < least)) len.toNat 0 len
def zfn (c : Int → Int) (m : Int) : Nat → Int → Int
  | 0, k => k
  | f + 1, k => if c k = m then k else zfn c m f (k + 1)
theorem zfn_at {c : Int → Int} {m k : Int} {f : Nat} (h : c k = m) : zfn c m f k = k := by
  cases f with
  | zero => rfl
  | succ f => rw [zfn, if_pos h]
theorem zfn_nx {c : Int → Int} {m k : Int} {f : Nat} (h : c k ≠ m) : zfn c m (f + 1) k = zfn c m f (k + 1) := by rw [zfn, if_neg h]
theorem zls_nx {c od : Int → Int} {m k x : Int} {f : Nat} (h : c k = m) : zls c od m (f + 1) k x = zls c od m f (k + 1) (zmin x (od k)) := by rw [zls, if_pos h]; rfl
theorem zls_at {c od : Int → Int} {m k x : Int} {f : Nat} (h : c k ≠ m) : zls c od m f k x = x := by
  cases f with
  | zero => rfl
  | succ f => rw [zls, if_neg h]
theorem zls_0 {c od : Int → Int} {m k x len : Int} (h : len ≤ k) : zls c od m (len - k).toNat k x = x := by rw [show (len - k).toNat = 0 by omega]; rfl
theorem zfn_0 {c : Int → Int} {m k len : Int} (h : len ≤ k) : zfn c m (len - k).toNat k = k := by rw [show (len - k).toNat = 0 by omega]; rfl
def zlp (len : Int) (nO : Nat) (c od : Int → Int) (m : Int) : Int := zls c od m (len - zfn c m (len - 1).toNat 1).toNat (zfn c m (len - 1).toNat 1) (zat nO od (zfn c m (len - 1).toNat 1 - 1))
def zra2 (bt len : Int) (nO : Nat) (c od : Int → Int) : Int := if bt = 0 ∨ zmx c len ≤ 0 then -1 else zlp len nO c od (zmx c len)
def zhc (ht : Int) (nO : Nat) (od : Int → Int) (fh k : Int) : Int := if 0 ≤ k ∧ k < ht then zat nO od (fh + k) else -1
def stK (nS : Nat) (od : Int → Int) (k : Nat) (sd : Int → Int) : Int → Int := zput nS sd (od k) k
theorem stK_s {nS : Nat} {od sd q : Int → Int} {i : Int} (h : sd = zit (stK nS od) i.toNat q) (h0 : 0 ≤ i) : zput nS sd (od i) i = zit (stK nS od) (i + 1).toNat q := by
  rw [zit_n h0, ← h, stK, Int.toNat_of_nonneg h0]
def mnk (nO : Nat) (len : Int) (T od sd : Int → Int) (k kn : Int) : Int := if 0 < sd k then zcm len T (zat nO od (sd k - 1)) k kn else 0
def stMN (nO nA : Nat) (len : Int) (T od sd : Int → Int) (k : Nat) (q : Int × (Int → Int)) : Int × (Int → Int) := (zmax 0 (mnk nO len T od sd k q.1 - 1), zput nA q.2 (sd k) (mnk nO len T od sd k q.1))
theorem stMN_s {nO nA : Nat} {len : Int} {T od sd al : Int → Int} {kn i v : Int} {q : Int × (Int → Int)} (h : (kn, al) = zit (stMN nO nA len T od sd) i.toNat q) (h0 : 0 ≤ i) (hv : v = mnk nO len T od sd i kn) : (zmax 0 (v - 1), zput nA al (sd i) v) = zit (stMN nO nA len T od sd) (i + 1).toNat q := by
  rw [zit_n h0, ← h, stMN, Int.toNat_of_nonneg h0, hv]
theorem z_ush1 {a : Int} (h0 : 0 ≤ a) (h1 : a < 2147483648) : ((zI a).toUInt32 >>> ((zI 1).toUInt32 &&& Int32.toUInt32 31)).toInt32 = zI (a / 2) := by
  have e : zI a = nI a.toNat := by rw [show a = (a.toNat : Int) by omega, zI_nat, Int.toNat_natCast]; rfl
  rw [e, pk_ushrN (by omega) (zI 1) 1 (by decide), show a / 2 = ((a.toNat / 2 ^ 1 : Nat) : Int) by omega, zI_nat]; rfl
theorem zlc_t {bt sz : Int} {g : Int → Int} {i : Int} (h1 : zie bt sz i = true) (h2 : 0 < i) : g i = zlc bt sz g i := (if_pos ⟨h1, h2⟩).symm
theorem zlc_a {bt sz : Int} {g : Int → Int} {i : Int} (h1 : i ≤ 0) : -1 = zlc bt sz g i := (if_neg (by omega)).symm
theorem zlc_b {bt sz : Int} {g : Int → Int} {i : Int} (h1 : zie bt sz i = false) : -1 = zlc bt sz g i := (if_neg (fun z => by rw [h1] at z; exact absurd z.1 (by decide))).symm
end
section
set_option maxRecDepth 20000 in
theorem inX0_letterAt_X0 : ∀ w ∈ wsX00, w ∈ wsX0_letterAt := by decide +kernel
set_option maxRecDepth 20000 in
theorem inX0_isRising_X0 : ∀ w ∈ wsX00, w ∈ wsX0_isRising := by decide +kernel
set_option maxRecDepth 20000 in
theorem inX0_isFalling_X0 : ∀ w ∈ wsX00, w ∈ wsX0_isFalling := by decide +kernel
set_option maxHeartbeats 4000000 in
set_option maxRecDepth 100000 in
/-- at(row, i) -/
theorem kX2_at (l : Launch) (D : va_G) (cI cZ cL : ClassId) (h n : Nat) (g : Int → Int) (i : Int) (hn : (n : Int) < 2147483648) (hi : zR i) : Met l yX2_at wsX2_at ({ frames := 0, cells := 0, slots := 0, locals := 0 }) (zPr D cI cZ cL [.ref h, .int (zI i)] [(h, .inl (cI, n, .inl (zA g)))]) (zQi (fun r => r = zat n g i)) 0 0 (fun _ => False) := by
  refine Met.ofW (cc := cX2_at) (maxL := 2) (ret := (some .int)) (by decide) rfl ?_
  intro p e s m args below meth c s₁ B hml hv
  obtain ⟨rfl, hP, hK⟩ := hv
  have hx := B.exec
  have hb := B.bytes
  have hr := B.returns
  have hts := atoms_spec (ws := wsX2_at) B.pre
  have hown : s.vm.findClass RX2 = some m.cls := findClass_of_methodNamed B.named
  have hlocks := B.notSynchronized
  have hP : va_P D vwCl [(h, .inl (cI, n, .inl (zA g)))] s.heap := hP
  have hl := lv_entry ([.ref h, .int (zI i)]) (n := 2) (Nat.le_of_ble_eq_true rfl)
  rw [lg_entry_eq]
  generalize (lg_sl ([.ref h, .int (zI i)]) ++ List.replicate (2 - (lg_sl ([.ref h, .int (zI i)])).length) Slot.unset).toArray = ls at hl ⊢
  have hl : lv_has ls 2 [(0, .ref h), (1, .int (zI i))] := hl
  refine lv_iload_n hx hb dX2_at_0 rfl (lv_at hl 1 rfl) ?_
  refine z_if_lt (tgt := 16) hx hb dX2_at_1 (by decide) (by omega) (fun h_1 => ?_) (fun h_1 => ?_)
  · skip
    refine lv_iconst (v := zI (-1)) hx hb dX2_at_16 (by first | rfl | decide) ?_
    exact W.iret (v := zI (-1)) hx hb hr (fun t ht_ hW_ => ⟨(-1), rfl, by first | (rw [zat_in (by omega) (by omega)]) | (rw [zat_out (by omega)]), ht_⟩) (fun q h => by cases h) dX2_at_17
  · skip
    refine lv_iload_n hx hb dX2_at_4 rfl (lv_at hl 1 rfl) ?_
    refine lv_aload_n hx hb dX2_at_5 rfl (lv_at hl 0 rfl) ?_
    refine z_alen hx hb hK.1 hP 0 0 rfl rfl dX2_at_6 ?_
    refine z_icmp_ge (tgt := 16) hx hb dX2_at_7 (by decide) (by omega) (by omega) (fun h_2 => ?_) (fun h_2 => ?_)
    · skip
      refine lv_iconst (v := zI (-1)) hx hb dX2_at_16 (by first | rfl | decide) ?_
      exact W.iret (v := zI (-1)) hx hb hr (fun t ht_ hW_ => ⟨(-1), rfl, by first | (rw [zat_in (by omega) (by omega)]) | (rw [zat_out (by omega)]), ht_⟩) (fun q h => by cases h) dX2_at_17
    · skip
      refine lv_aload_n hx hb dX2_at_10 rfl (lv_at hl 0 rfl) ?_
      refine lv_iload_n hx hb dX2_at_11 rfl (lv_at hl 1 rfl) ?_
      refine z_iald hx hb hK.1 hP 0 0 rfl rfl dX2_at_12 (by omega) (by omega) (by omega) ?_
      refine lv_goto (tgt := 17) hx hb dX2_at_13 (by decide) ?_
      exact W.iret (v := zI (g i)) hx hb hr (fun t ht_ hW_ => ⟨g i, rfl, by first | (rw [zat_in (by omega) (by omega)]) | (rw [zat_out (by omega)]), ht_⟩) (fun q h => by cases h) dX2_at_17
set_option maxHeartbeats 4000000 in
set_option maxRecDepth 100000 in
/-- put(row, i, x) -/
theorem kX2_put (l : Launch) (D : va_G) (cI cZ cL : ClassId) (h n : Nat) (g : Int → Int) (i x : Int) (szz : Nat) (hn : (n : Int) < 2147483648) (hi : zR i) : Met l yX2_put wsX2_put ({ frames := 0, cells := 0, slots := 0, locals := 0 }) (zPw D cI cZ cL szz [.ref h, .int (zI i), .int (zI x)] [(h, .inl (cI, n, .inl (zA g)))]) (zQw D (va_A [(h, .inl (cI, n, .inl (zA g)))] szz) (fun _ : Unit => True) (fun _ : Unit => [(h, .inl (cI, n, .inl (zA (zput n g i x))))])) 0 0 (va_A [(h, .inl (cI, n, .inl (zA g)))] szz) := by
  refine Met.ofW (cc := cX2_put) (maxL := 3) (ret := none) (by decide) rfl ?_
  intro p e s m args below meth c s₁ B hml hv
  obtain ⟨rfl, hsz, hP, hK, hD0⟩ := hv
  have hx := B.exec
  have hb := B.bytes
  have hr := B.returns
  have hts := atoms_spec (ws := wsX2_put) B.pre
  have hown : s.vm.findClass RX2 = some m.cls := findClass_of_methodNamed B.named
  have hlocks := B.notSynchronized
  subst hsz
  have hD := hD0.self (sz := s.heap.size)
  generalize hAe : va_A [(h, .inl (cI, n, .inl (zA g)))] s.heap.size = A at hD ⊢
  have hA : ∀ q : Nat, s.heap.size ≤ q → A q := fun q h => by rw [← hAe]; exact Or.inr h
  have hS : va_S A s.heap s.heap [] := va_S.rf
  clear hD0
  have hP : va_P D vwCl [(h, .inl (cI, n, .inl (zA g)))] s.heap := hP
  have hl := lv_entry ([.ref h, .int (zI i), .int (zI x)]) (n := 3) (Nat.le_of_ble_eq_true rfl)
  rw [lg_entry_eq]
  generalize (lg_sl ([.ref h, .int (zI i), .int (zI x)]) ++ List.replicate (3 - (lg_sl ([.ref h, .int (zI i), .int (zI x)])).length) Slot.unset).toArray = ls at hl ⊢
  have hl : lv_has ls 3 [(0, .ref h), (1, .int (zI i)), (2, .int (zI x))] := hl
  refine lv_iload_n hx hb dX2_put_0 rfl (lv_at hl 1 rfl) ?_
  refine z_if_lt (tgt := 14) hx hb dX2_put_1 (by decide) (by omega) (fun h_1 => ?_) (fun h_1 => ?_)
  · skip
    have hwe : g = (zput n g i x) := by first | (rw [zput_in (by omega) (by omega)]) | (rw [zput_out (by omega)])
    rw [hwe] at hP hD
    clear hwe
    exact W.vret hx hb hr (fun t ht_ hW_ => ⟨⟨(), rfl, trivial, by rw [ht_]; exact hP, hD⟩, hS.F ht_⟩) hS.2.2 dX2_put_14
  · skip
    refine lv_iload_n hx hb dX2_put_4 rfl (lv_at hl 1 rfl) ?_
    refine lv_aload_n hx hb dX2_put_5 rfl (lv_at hl 0 rfl) ?_
    refine z_alen hx hb hK.1 hP 0 0 rfl rfl dX2_put_6 ?_
    refine z_icmp_ge (tgt := 14) hx hb dX2_put_7 (by decide) (by omega) (by omega) (fun h_2 => ?_) (fun h_2 => ?_)
    · skip
      have hwe : g = (zput n g i x) := by first | (rw [zput_in (by omega) (by omega)]) | (rw [zput_out (by omega)])
      rw [hwe] at hP hD
      clear hwe
      exact W.vret hx hb hr (fun t ht_ hW_ => ⟨⟨(), rfl, trivial, by rw [ht_]; exact hP, hD⟩, hS.F ht_⟩) hS.2.2 dX2_put_14
    · skip
      refine lv_aload_n hx hb dX2_put_10 rfl (lv_at hl 0 rfl) ?_
      refine lv_iload_n hx hb dX2_put_11 rfl (lv_at hl 1 rfl) ?_
      refine lv_iload_n hx hb dX2_put_12 rfl (lv_at hl 2 rfl) ?_
      refine z_iast hx hb hK.1 hP hD hS 0 0 rfl rfl dX2_put_13 (by omega) (by omega) (by omega) (fun H locs hP hD hS => ?_)
      have hP : va_P D vwCl [(h, .inl (cI, n, .inl (zA (zup g i x))))] H := hP
      have hD : va_D A [(h, .inl (cI, n, .inl (zA (zup g i x))))] := hD
      have hwe : (zup g i x) = (zput n g i x) := by first | (rw [zput_in (by omega) (by omega)]) | (rw [zput_out (by omega)])
      rw [hwe] at hP hD
      clear hwe
      exact W.vret hx hb hr (fun t ht_ hW_ => ⟨⟨(), rfl, trivial, by rw [ht_]; exact hP, hD⟩, hS.F ht_⟩) hS.2.2 dX2_put_14
set_option maxHeartbeats 4000000 in
set_option maxRecDepth 100000 in
/-- letterAt(place) -/
theorem kX0_letterAt (l : Launch) (D : va_G) (cI cZ cL : ClassId) (a : Nat → Nat) (ts : Int) (lp : Nat) (len sg vc : Int) (nl : Nat) (lt : Int → Int) (i : Int) (hlen : 0 ≤ len) (hnl : len ≤ (nl : Int)) (hnb : (nl : Int) < 1073741824) (hi : zR i) : Met l yX0_letterAt wsX0_letterAt ({ frames := 0, cells := 0, slots := 0, locals := 0 }) (zPr D cI cZ cL [.ref (a 0), .int (zI i)] [(a 0, .inr (0, so a ts lp len sg vc)), (lp, .inl (cI, nl, .inl (zA lt)))]) (zQi (fun r => r = zla len lt i)) 0 0 (fun _ => False) := by
  refine Met.ofW (cc := cX0_letterAt) (maxL := 2) (ret := (some .int)) (by decide) rfl ?_
  intro p e s m args below meth c s₁ B hml hv
  obtain ⟨rfl, hP, hK⟩ := hv
  have hx := B.exec
  have hb := B.bytes
  have hr := B.returns
  have hts := atoms_spec (ws := wsX0_letterAt) B.pre
  have hown : s.vm.findClass RX0 = some m.cls := findClass_of_methodNamed B.named
  have hlocks := B.notSynchronized
  have hP : va_P D vwCl [(a 0, .inr (0, so a ts lp len sg vc)), (lp, .inl (cI, nl, .inl (zA lt)))] s.heap := hP
  have hl := lv_entry ([.ref (a 0), .int (zI i)]) (n := 2) (Nat.le_of_ble_eq_true rfl)
  rw [lg_entry_eq]
  generalize (lg_sl ([.ref (a 0), .int (zI i)]) ++ List.replicate (2 - (lg_sl ([.ref (a 0), .int (zI i)])).length) Slot.unset).toArray = ls at hl ⊢
  have hl : lv_has ls 2 [(0, .ref (a 0)), (1, .int (zI i))] := hl
  refine lv_iload_n hx hb dX0_letterAt_0 rfl (lv_at hl 1 rfl) ?_
  refine z_if_lt (tgt := 21) hx hb dX0_letterAt_1 (by decide) (by omega) (fun h_1 => ?_) (fun h_1 => ?_)
  · skip
    refine lv_iconst (v := zI (-1)) hx hb dX0_letterAt_21 (by first | rfl | decide) ?_
    exact W.iret (v := zI (-1)) hx hb hr (fun t ht_ hW_ => ⟨(-1), rfl, by first | (rw [zla_in (by omega) (by omega)]) | (rw [zla_out (by omega)]), ht_⟩) (fun q h => by cases h) dX0_letterAt_22
  · skip
    refine lv_iload_n hx hb dX0_letterAt_4 rfl (lv_at hl 1 rfl) ?_
    refine lv_aload_n hx hb dX0_letterAt_5 rfl (lv_at hl 0 rfl) ?_
    refine va_get (D := D) (ci := 0) (v := .int (zI len)) (C := RX0) (T := TX0) (N := 15) hx hb hts inX0_letterAt_X0 hown hK.1 hP 0 rfl rfl 12 (by decide) (hts (.fieldLink RX0 103 "TextEnds$EndSorter" "length" "I") (List.mem_of_getElem? (i := 1) rfl)) (fun _ h9 => h9) rfl dX0_letterAt_6 ?_
    refine z_icmp_ge (tgt := 21) hx hb dX0_letterAt_9 (by decide) (by omega) (by omega) (fun h_2 => ?_) (fun h_2 => ?_)
    · skip
      refine lv_iconst (v := zI (-1)) hx hb dX0_letterAt_21 (by first | rfl | decide) ?_
      exact W.iret (v := zI (-1)) hx hb hr (fun t ht_ hW_ => ⟨(-1), rfl, by first | (rw [zla_in (by omega) (by omega)]) | (rw [zla_out (by omega)]), ht_⟩) (fun q h => by cases h) dX0_letterAt_22
    · skip
      refine lv_aload_n hx hb dX0_letterAt_12 rfl (lv_at hl 0 rfl) ?_
      refine va_get (D := D) (ci := 0) (v := .ref lp) (C := RX0) (T := TX0) (N := 15) hx hb hts inX0_letterAt_X0 hown hK.1 hP 0 rfl rfl 11 (by decide) (hts (.fieldLink RX0 41 "TextEnds$EndSorter" "letters" "[I") (List.mem_of_getElem? (i := 2) rfl)) (fun _ h9 => h9) rfl dX0_letterAt_13 ?_
      refine lv_iload_n hx hb dX0_letterAt_16 rfl (lv_at hl 1 rfl) ?_
      refine z_iald hx hb hK.1 hP 1 0 rfl rfl dX0_letterAt_17 (by omega) (by omega) (by omega) ?_
      refine lv_goto (tgt := 22) hx hb dX0_letterAt_18 (by decide) ?_
      exact W.iret (v := zI (lt i)) hx hb hr (fun t ht_ hW_ => ⟨lt i, rfl, by first | (rw [zla_in (by omega) (by omega)]) | (rw [zla_out (by omega)]), ht_⟩) (fun q h => by cases h) dX0_letterAt_22
set_option maxHeartbeats 4000000 in
set_option maxRecDepth 100000 in
/-- isRising(place) -/
theorem kX0_isRising (l : Launch) (D : va_G) (cI cZ cL : ClassId) (a : Nat → Nat) (ts : Int) (lp : Nat) (len sg vc : Int) (nr : Nat) (rs : Int → Bool) (i : Int) (hlen : 0 ≤ len) (hnl : len ≤ (nr : Int)) (hnb : (nr : Int) < 1073741824) (hi : zR i) : Met l yX0_isRising wsX0_isRising ({ frames := 0, cells := 0, slots := 0, locals := 0 }) (zPr D cI cZ cL [.ref (a 0), .int (zI i)] [(a 0, .inr (0, so a ts lp len sg vc)), (a 4, .inl (cZ, nr, .inl (zA (zB rs))))]) (zQi (fun r => r = bi (zir len rs i))) 0 0 (fun _ => False) := by
  refine Met.ofW (cc := cX0_isRising) (maxL := 2) (ret := (some .boolean)) (by decide) rfl ?_
  intro p e s m args below meth c s₁ B hml hv
  obtain ⟨rfl, hP, hK⟩ := hv
  have hx := B.exec
  have hb := B.bytes
  have hr := B.returns
  have hts := atoms_spec (ws := wsX0_isRising) B.pre
  have hown : s.vm.findClass RX0 = some m.cls := findClass_of_methodNamed B.named
  have hlocks := B.notSynchronized
  have hP : va_P D vwCl [(a 0, .inr (0, so a ts lp len sg vc)), (a 4, .inl (cZ, nr, .inl (zA (zB rs))))] s.heap := hP
  have hl := lv_entry ([.ref (a 0), .int (zI i)]) (n := 2) (Nat.le_of_ble_eq_true rfl)
  rw [lg_entry_eq]
  generalize (lg_sl ([.ref (a 0), .int (zI i)]) ++ List.replicate (2 - (lg_sl ([.ref (a 0), .int (zI i)])).length) Slot.unset).toArray = ls at hl ⊢
  have hl : lv_has ls 2 [(0, .ref (a 0)), (1, .int (zI i))] := hl
  refine lv_iload_n hx hb dX0_isRising_0 rfl (lv_at hl 1 rfl) ?_
  refine z_if_lt (tgt := 25) hx hb dX0_isRising_1 (by decide) (by omega) (fun h_1 => ?_) (fun h_1 => ?_)
  · skip
    refine lv_iconst (v := zI 0) hx hb dX0_isRising_25 (by first | rfl | decide) ?_
    exact W.zret (ty := .boolean) (v := zI 0) hx hb hr (znar_b2 (by first | exact Or.inl rfl | exact Or.inr rfl | exact bi_01 _ | with_reducible assumption | omega)) (fun t ht_ hW_ => ⟨0, rfl, by first | exact zir_t (by omega) (by omega) (by with_reducible assumption) | exact zir_f (by omega) (by omega) (by with_reducible assumption) | exact zir_o (by omega), ht_⟩) (fun q h => by cases h) dX0_isRising_26
  · skip
    refine lv_iload_n hx hb dX0_isRising_4 rfl (lv_at hl 1 rfl) ?_
    refine lv_aload_n hx hb dX0_isRising_5 rfl (lv_at hl 0 rfl) ?_
    refine va_get (D := D) (ci := 0) (v := .int (zI len)) (C := RX0) (T := TX0) (N := 15) hx hb hts inX0_isRising_X0 hown hK.1 hP 0 rfl rfl 12 (by decide) (hts (.fieldLink RX0 103 "TextEnds$EndSorter" "length" "I") (List.mem_of_getElem? (i := 1) rfl)) (fun _ h9 => h9) rfl dX0_isRising_6 ?_
    refine z_icmp_ge (tgt := 25) hx hb dX0_isRising_9 (by decide) (by omega) (by omega) (fun h_2 => ?_) (fun h_2 => ?_)
    · skip
      refine lv_iconst (v := zI 0) hx hb dX0_isRising_25 (by first | rfl | decide) ?_
      exact W.zret (ty := .boolean) (v := zI 0) hx hb hr (znar_b2 (by first | exact Or.inl rfl | exact Or.inr rfl | exact bi_01 _ | with_reducible assumption | omega)) (fun t ht_ hW_ => ⟨0, rfl, by first | exact zir_t (by omega) (by omega) (by with_reducible assumption) | exact zir_f (by omega) (by omega) (by with_reducible assumption) | exact zir_o (by omega), ht_⟩) (fun q h => by cases h) dX0_isRising_26
    · skip
      refine lv_aload_n hx hb dX0_isRising_12 rfl (lv_at hl 0 rfl) ?_
      refine va_get (D := D) (ci := 0) (v := .ref (a 4)) (C := RX0) (T := TX0) (N := 15) hx hb hts inX0_isRising_X0 hown hK.1 hP 0 rfl rfl 3 (by decide) (hts (.fieldLink RX0 45 "TextEnds$EndSorter" "rising" "[Z") (List.mem_of_getElem? (i := 2) rfl)) (fun _ h9 => h9) rfl dX0_isRising_13 ?_
      refine lv_iload_n hx hb dX0_isRising_16 rfl (lv_at hl 1 rfl) ?_
      refine z_zald hx hb hK.1 hP 1 1 rfl rfl dX0_isRising_17 (by omega) (by omega) (by omega) ?_
      refine z_if_eq (tgt := 25) hx hb dX0_isRising_18 (by decide) (zB_R _ _) (fun h_3 => ?_) (fun h_3 => ?_)
      · skip
        refine lv_iconst (v := zI 0) hx hb dX0_isRising_25 (by first | rfl | decide) ?_
        exact W.zret (ty := .boolean) (v := zI 0) hx hb hr (znar_b2 (by first | exact Or.inl rfl | exact Or.inr rfl | exact bi_01 _ | with_reducible assumption | omega)) (fun t ht_ hW_ => ⟨0, rfl, by first | exact zir_t (by omega) (by omega) (by with_reducible assumption) | exact zir_f (by omega) (by omega) (by with_reducible assumption) | exact zir_o (by omega), ht_⟩) (fun q h => by cases h) dX0_isRising_26
      · skip
        refine lv_iconst (v := zI 1) hx hb dX0_isRising_21 (by first | rfl | decide) ?_
        refine lv_goto (tgt := 26) hx hb dX0_isRising_22 (by decide) ?_
        exact W.zret (ty := .boolean) (v := zI 1) hx hb hr (znar_b2 (by first | exact Or.inl rfl | exact Or.inr rfl | exact bi_01 _ | with_reducible assumption | omega)) (fun t ht_ hW_ => ⟨1, rfl, by first | exact zir_t (by omega) (by omega) (by with_reducible assumption) | exact zir_f (by omega) (by omega) (by with_reducible assumption) | exact zir_o (by omega), ht_⟩) (fun q h => by cases h) dX0_isRising_26
set_option maxHeartbeats 4000000 in
set_option maxRecDepth 100000 in
/-- isFalling(place) -/
theorem kX0_isFalling (l : Launch) (D : va_G) (cI cZ cL : ClassId) (a : Nat → Nat) (ts : Int) (lp : Nat) (len sg vc : Int) (nr : Nat) (rs : Int → Bool) (i : Int) (hlen : 0 ≤ len) (hnl : len ≤ (nr : Int)) (hnb : (nr : Int) < 1073741824) (hi : zR i) : Met l yX0_isFalling wsX0_isFalling ({ frames := 0, cells := 0, slots := 0, locals := 0 }) (zPr D cI cZ cL [.ref (a 0), .int (zI i)] [(a 0, .inr (0, so a ts lp len sg vc)), (a 4, .inl (cZ, nr, .inl (zA (zB rs))))]) (zQi (fun r => r = bi (zif len rs i))) 0 0 (fun _ => False) := by
  refine Met.ofW (cc := cX0_isFalling) (maxL := 2) (ret := (some .boolean)) (by decide) rfl ?_
  intro p e s m args below meth c s₁ B hml hv
  obtain ⟨rfl, hP, hK⟩ := hv
  have hx := B.exec
  have hb := B.bytes
  have hr := B.returns
  have hts := atoms_spec (ws := wsX0_isFalling) B.pre
  have hown : s.vm.findClass RX0 = some m.cls := findClass_of_methodNamed B.named
  have hlocks := B.notSynchronized
  have hP : va_P D vwCl [(a 0, .inr (0, so a ts lp len sg vc)), (a 4, .inl (cZ, nr, .inl (zA (zB rs))))] s.heap := hP
  have hl := lv_entry ([.ref (a 0), .int (zI i)]) (n := 2) (Nat.le_of_ble_eq_true rfl)
  rw [lg_entry_eq]
  generalize (lg_sl ([.ref (a 0), .int (zI i)]) ++ List.replicate (2 - (lg_sl ([.ref (a 0), .int (zI i)])).length) Slot.unset).toArray = ls at hl ⊢
  have hl : lv_has ls 2 [(0, .ref (a 0)), (1, .int (zI i))] := hl
  refine lv_iload_n hx hb dX0_isFalling_0 rfl (lv_at hl 1 rfl) ?_
  refine z_if_lt (tgt := 25) hx hb dX0_isFalling_1 (by decide) (by omega) (fun h_1 => ?_) (fun h_1 => ?_)
  · skip
    refine lv_iconst (v := zI 0) hx hb dX0_isFalling_25 (by first | rfl | decide) ?_
    exact W.zret (ty := .boolean) (v := zI 0) hx hb hr (znar_b2 (by first | exact Or.inl rfl | exact Or.inr rfl | exact bi_01 _ | with_reducible assumption | omega)) (fun t ht_ hW_ => ⟨0, rfl, by first | exact zif_t (by omega) (by omega) (by with_reducible assumption) | exact zif_f (by omega) (by omega) (by with_reducible assumption) | exact zif_o (by omega), ht_⟩) (fun q h => by cases h) dX0_isFalling_26
  · skip
    refine lv_iload_n hx hb dX0_isFalling_4 rfl (lv_at hl 1 rfl) ?_
    refine lv_aload_n hx hb dX0_isFalling_5 rfl (lv_at hl 0 rfl) ?_
    refine va_get (D := D) (ci := 0) (v := .int (zI len)) (C := RX0) (T := TX0) (N := 15) hx hb hts inX0_isFalling_X0 hown hK.1 hP 0 rfl rfl 12 (by decide) (hts (.fieldLink RX0 103 "TextEnds$EndSorter" "length" "I") (List.mem_of_getElem? (i := 1) rfl)) (fun _ h9 => h9) rfl dX0_isFalling_6 ?_
    refine z_icmp_ge (tgt := 25) hx hb dX0_isFalling_9 (by decide) (by omega) (by omega) (fun h_2 => ?_) (fun h_2 => ?_)
    · skip
      refine lv_iconst (v := zI 0) hx hb dX0_isFalling_25 (by first | rfl | decide) ?_
      exact W.zret (ty := .boolean) (v := zI 0) hx hb hr (znar_b2 (by first | exact Or.inl rfl | exact Or.inr rfl | exact bi_01 _ | with_reducible assumption | omega)) (fun t ht_ hW_ => ⟨0, rfl, by first | exact zif_t (by omega) (by omega) (by with_reducible assumption) | exact zif_f (by omega) (by omega) (by with_reducible assumption) | exact zif_o (by omega), ht_⟩) (fun q h => by cases h) dX0_isFalling_26
    · skip
      refine lv_aload_n hx hb dX0_isFalling_12 rfl (lv_at hl 0 rfl) ?_
      refine va_get (D := D) (ci := 0) (v := .ref (a 4)) (C := RX0) (T := TX0) (N := 15) hx hb hts inX0_isFalling_X0 hown hK.1 hP 0 rfl rfl 3 (by decide) (hts (.fieldLink RX0 45 "TextEnds$EndSorter" "rising" "[Z") (List.mem_of_getElem? (i := 2) rfl)) (fun _ h9 => h9) rfl dX0_isFalling_13 ?_
      refine lv_iload_n hx hb dX0_isFalling_16 rfl (lv_at hl 1 rfl) ?_
      refine z_zald hx hb hK.1 hP 1 1 rfl rfl dX0_isFalling_17 (by omega) (by omega) (by omega) ?_
      refine z_if_ne (tgt := 25) hx hb dX0_isFalling_18 (by decide) (zB_R _ _) (fun h_3 => ?_) (fun h_3 => ?_)
      · skip
        refine lv_iconst (v := zI 0) hx hb dX0_isFalling_25 (by first | rfl | decide) ?_
        exact W.zret (ty := .boolean) (v := zI 0) hx hb hr (znar_b2 (by first | exact Or.inl rfl | exact Or.inr rfl | exact bi_01 _ | with_reducible assumption | omega)) (fun t ht_ hW_ => ⟨0, rfl, by first | exact zif_t (by omega) (by omega) (by with_reducible assumption) | exact zif_f (by omega) (by omega) (by with_reducible assumption) | exact zif_o (by omega), ht_⟩) (fun q h => by cases h) dX0_isFalling_26
      · skip
        refine lv_iconst (v := zI 1) hx hb dX0_isFalling_21 (by first | rfl | decide) ?_
        refine lv_goto (tgt := 26) hx hb dX0_isFalling_22 (by decide) ?_
        exact W.zret (ty := .boolean) (v := zI 1) hx hb hr (znar_b2 (by first | exact Or.inl rfl | exact Or.inr rfl | exact bi_01 _ | with_reducible assumption | omega)) (fun t ht_ hW_ => ⟨1, rfl, by first | exact zif_t (by omega) (by omega) (by with_reducible assumption) | exact zif_f (by omega) (by omega) (by with_reducible assumption) | exact zif_o (by omega), ht_⟩) (fun q h => by cases h) dX0_isFalling_26
end
section
set_option maxRecDepth 20000 in
theorem inX0_startBuckets_X0 : ∀ w ∈ wsX00, w ∈ wsX0_startBuckets := by decide +kernel
set_option maxRecDepth 20000 in
theorem inX0_placeFront_X0 : ∀ w ∈ wsX00, w ∈ wsX0_placeFront := by decide +kernel
set_option maxRecDepth 20000 in
theorem inX0_placeBack_X0 : ∀ w ∈ wsX00, w ∈ wsX0_placeBack := by decide +kernel
set_option maxHeartbeats 4000000 in
set_option maxRecDepth 100000 in
/-- startBuckets(from, lettersOn) -/
theorem kX0_startBuckets (l : Launch) (D : va_G) (cI cZ cL : ClassId) (a : Nat → Nat) (ts : Int) (lp : Nat) (len sg vc : Int) (fp nf nN : Nat) (fr ns : Int → Int) (on : Int) (szz : Nat) (hsg : 0 ≤ sg) (hsn : sg ≤ (nN : Int)) (bnf : (nf : Int) < 1073741824) (bnN : (nN : Int) < 1073741824) (hon : 0 ≤ on ∧ on ≤ 1) : Met l yX0_startBuckets wsX0_startBuckets ({ frames := 1, cells := 0, slots := 0, locals := 21 }) (zPw D cI cZ cL szz [.ref (a 0), .ref fp, .int (zI on)] [(a 0, .inr (0, so a ts lp len sg vc)), (a 10, .inl (cI, nN, .inl (zA ns))), (fp, .inl (cI, nf, .inl (zA fr)))]) (zQw D (va_A [(a 0, .inr (0, so a ts lp len sg vc)), (a 10, .inl (cI, nN, .inl (zA ns))), (fp, .inl (cI, nf, .inl (zA fr)))] szz) (fun _ : Unit => True) (fun _ : Unit => [(a 0, .inr (0, so a ts lp len sg vc)), (a 10, .inl (cI, nN, .inl (zA (sbN sg nf fr on ns)))), (fp, .inl (cI, nf, .inl (zA fr)))])) 0 0 (va_A [(a 0, .inr (0, so a ts lp len sg vc)), (a 10, .inl (cI, nN, .inl (zA ns))), (fp, .inl (cI, nf, .inl (zA fr)))] szz) := by
  refine Met.ofW (cc := cX0_startBuckets) (maxL := 4) (ret := none) (by decide) rfl ?_
  intro p e s m args below meth c s₁ B hml hv
  obtain ⟨rfl, hsz, hP, hK, hD0⟩ := hv
  have hx := B.exec
  have hb := B.bytes
  have hr := B.returns
  have hts := atoms_spec (ws := wsX0_startBuckets) B.pre
  have hown : s.vm.findClass RX0 = some m.cls := findClass_of_methodNamed B.named
  have hlocks := B.notSynchronized
  subst hsz
  have hD := hD0.self (sz := s.heap.size)
  generalize hAe : va_A [(a 0, .inr (0, so a ts lp len sg vc)), (a 10, .inl (cI, nN, .inl (zA ns))), (fp, .inl (cI, nf, .inl (zA fr)))] s.heap.size = A at hD ⊢
  have hA : ∀ q : Nat, s.heap.size ≤ q → A q := fun q h => by rw [← hAe]; exact Or.inr h
  have hS : va_S A s.heap s.heap [] := va_S.rf
  clear hD0
  have hP : va_P D vwCl [(a 0, .inr (0, so a ts lp len sg vc)), (a 10, .inl (cI, nN, .inl (zA ns))), (fp, .inl (cI, nf, .inl (zA fr)))] s.heap := hP
  have hl := lv_entry ([.ref (a 0), .ref fp, .int (zI on)]) (n := 4) (Nat.le_of_ble_eq_true rfl)
  rw [lg_entry_eq]
  generalize (lg_sl ([.ref (a 0), .ref fp, .int (zI on)]) ++ List.replicate (4 - (lg_sl ([.ref (a 0), .ref fp, .int (zI on)])).length) Slot.unset).toArray = ls at hl ⊢
  have hl : lv_has ls 4 [(0, .ref (a 0)), (1, .ref fp), (2, .int (zI on))] := hl
  refine lv_iconst (v := zI 0) hx hb dX0_startBuckets_0 (by first | rfl | decide) ?_
  refine lv_istore_n (lv' := [(3, .int (zI 0)), (0, .ref (a 0)), (1, .ref fp), (2, .int (zI on))]) hx hb dX0_startBuckets_1 rfl hl (by decide) rfl (fun ls hl => ?_)
  have loop2 : ∀ (nn : Nat) (k : Int) (nx : Int → Int) (H : Heap) (locs : List Loc) (ls : Array Slot), (0 ≤ k) → (k ≤ sg) → (nx = zfill 0 k (fun j => zat nf fr (j + on)) ns) → ((sg - k).toNat) < nn → va_P D vwCl [(a 0, .inr (0, so a ts lp len sg vc)), (a 10, .inl (cI, nN, .inl (zA nx))), (fp, .inl (cI, nf, .inl (zA fr)))] H → va_D A [(a 0, .inr (0, so a ts lp len sg vc)), (a 10, .inl (cI, nN, .inl (zA nx))), (fp, .inl (cI, nf, .inl (zA fr)))] → va_S A s.heap H locs → lv_has ls 4 [(0, .ref (a 0)), (1, .ref fp), (2, .int (zI on)), (3, .int (zI k))] → W p l e (headSpec wsX0_startBuckets ({ frames := 1, cells := 0, slots := 0, locals := 21 })).room s m ([.ref (a 0), .ref fp, .int (zI on)] : List Value).toArray below meth c H locs 0 0 (MQ below (zQw D A (fun _ : Unit => True) (fun _ : Unit => [(a 0, .inr (0, so a ts lp len sg vc)), (a 10, .inl (cI, nN, .inl (zA (sbN sg nf fr on ns)))), (fp, .inl (cI, nf, .inl (zA fr)))])) ([.ref (a 0), .ref fp, .int (zI on)] : List Value).toArray s 0 0 A) (F0 m 2 ls []) := by
    intro nn
    induction nn with
    | zero =>
      intros
      exact absurd (by assumption : _ < 0) (Nat.not_lt_zero _)
    | succ nn ih2 =>
      intro k nx H locs ls h0 h1 hnx hmu hP hD hS hl
      refine lv_iload_n hx hb dX0_startBuckets_2 rfl (lv_at hl 3 rfl) ?_
      refine lv_aload_n hx hb dX0_startBuckets_3 rfl (lv_at hl 0 rfl) ?_
      refine va_get (D := D) (ci := 0) (v := .int (zI sg)) (C := RX0) (T := TX0) (N := 15) hx hb hts inX0_startBuckets_X0 hown hK.1 hP 0 rfl rfl 13 (by decide) (hts (.fieldLink RX0 107 "TextEnds$EndSorter" "sigma" "I") (List.mem_of_getElem? (i := 1) rfl)) (fun _ h9 => h9) rfl dX0_startBuckets_4 ?_
      refine z_icmp_ge (tgt := 29) hx hb dX0_startBuckets_7 (by decide) (by omega) (by omega) (fun h_1 => ?_) (fun h_1 => ?_)
      · skip
        have hwe : nx = (sbN sg nf fr on ns) := by rw [hnx, show k = sg by omega]; rfl
        rw [hwe] at hP hD
        clear hwe
        exact W.vret hx hb hr (fun t ht_ hW_ => ⟨⟨(), rfl, trivial, by rw [ht_]; exact hP, hD⟩, hS.F ht_⟩) hS.2.2 dX0_startBuckets_29
      · skip
        refine lv_aload_n hx hb dX0_startBuckets_10 rfl (lv_at hl 0 rfl) ?_
        refine va_get (D := D) (ci := 0) (v := .ref (a 10)) (C := RX0) (T := TX0) (N := 15) hx hb hts inX0_startBuckets_X0 hown hK.1 hP 0 rfl rfl 9 (by decide) (hts (.fieldLink RX0 64 "TextEnds$EndSorter" "nextSlot" "[I") (List.mem_of_getElem? (i := 2) rfl)) (fun _ h9 => h9) rfl dX0_startBuckets_11 ?_
        refine lv_iload_n hx hb dX0_startBuckets_14 rfl (lv_at hl 3 rfl) ?_
        refine lv_aload_n hx hb dX0_startBuckets_15 rfl (lv_at hl 1 rfl) ?_
        refine lv_iload_n hx hb dX0_startBuckets_16 rfl (lv_at hl 3 rfl) ?_
        refine lv_iload_n hx hb dX0_startBuckets_17 rfl (lv_at hl 2 rfl) ?_
        refine z_iadd hx hb dX0_startBuckets_18 ?_
        refine z_cr (va_runSN (As := [.ref fp, .int (zI (k + on))]) (rest := [.int (zI k), .ref (a 10)]) ⟨hx, hb, hml, hown, hts⟩ (kX2_at l D cI cZ cL fp nf fr (k + on) (by omega) (by omega)) ⟨va_cnB 2 hts gX0_startBuckets_X2_at_n131 rfl rfl rfl hK.2.2 (hts (.initialized RX2) (List.mem_of_getElem? (i := 4) rfl)) (by decide +kernel) ⟨Nat.le_of_ble_eq_true rfl, Nat.le_of_ble_eq_true rfl⟩, hts (.static yX2_at) (List.mem_of_getElem? (i := 3) rfl), trivial⟩ (zPr_pre hK (hP.sub (ws' := [(fp, .inl (cI, nf, .inl (zA fr)))]) [2] rfl)) rfl rfl hl.1 rfl (lv_room (Nat.le_of_ble_eq_true rfl)) dX0_startBuckets_19 ⟨Nat.zero_le _, Nat.zero_le _⟩) (fun r hr_ => ?_)
        subst hr_
        refine z_iast hx hb hK.1 hP hD hS 1 0 rfl rfl dX0_startBuckets_22 (by omega) (by omega) (by omega) (fun H locs hP hD hS => ?_)
        have hP : va_P D vwCl [(a 0, .inr (0, so a ts lp len sg vc)), (a 10, .inl (cI, nN, .inl (zA (zup nx k (zat nf fr (k + on)))))), (fp, .inl (cI, nf, .inl (zA fr)))] H := hP
        have hD : va_D A [(a 0, .inr (0, so a ts lp len sg vc)), (a 10, .inl (cI, nN, .inl (zA (zup nx k (zat nf fr (k + on)))))), (fp, .inl (cI, nf, .inl (zA fr)))] := hD
        refine lv_iinc (v := zI (k + 1)) (lv' := [(3, .int (zI (k + 1))), (0, .ref (a 0)), (1, .ref fp), (2, .int (zI on))]) hx hb dX0_startBuckets_23 hl (k := 3) rfl (zI_add _ _) (by decide) rfl (fun ls hl => ?_)
        refine lv_goto (tgt := 2) hx hb dX0_startBuckets_26 (by decide) ?_
        exact ih2 (k + 1) (zup nx k (zat nf fr (k + on))) _ _ ls (by omega) (by omega) (by rw [hnx]; exact zfill_up h0) (by omega) (hP) (hD) hS (lv_sub hl [1, 2, 3, 0] rfl)
  exact loop2 _ 0 ns _ _ ls (by omega) (by omega) (zfill_0 _ _ _) (Nat.lt_succ_self _) hP hD hS (lv_sub hl [1, 2, 3, 0] rfl)
set_option maxHeartbeats 4000000 in
set_option maxRecDepth 100000 in
/-- placeFront(place) -/
theorem kX0_placeFront (l : Launch) (D : va_G) (cI cZ cL : ClassId) (a : Nat → Nat) (ts : Int) (lp : Nat) (len sg vc : Int) (nl nO nN : Nat) (lt od ns : Int → Int) (pl : Int) (szz : Nat) (hlen : 0 ≤ len) (hnl : len ≤ (nl : Int)) (bnl : (nl : Int) < 1073741824) (hlt : zS lt) (hns : zS ns) (bnO : (nO : Int) < 1073741824) (bnN : (nN : Int) < 1073741824) (hpl : zR pl) : Met l yX0_placeFront wsX0_placeFront ({ frames := 1, cells := 0, slots := 0, locals := 22 }) (zPw D cI cZ cL szz [.ref (a 0), .int (zI pl)] [(a 0, .inr (0, so a ts lp len sg vc)), (lp, .inl (cI, nl, .inl (zA lt))), (a 2, .inl (cI, nO, .inl (zA od))), (a 10, .inl (cI, nN, .inl (zA ns)))]) (zQw D (va_A [(a 0, .inr (0, so a ts lp len sg vc)), (lp, .inl (cI, nl, .inl (zA lt))), (a 2, .inl (cI, nO, .inl (zA od))), (a 10, .inl (cI, nN, .inl (zA ns)))] szz) (fun _ : Unit => True) (fun _ : Unit => [(a 0, .inr (0, so a ts lp len sg vc)), (lp, .inl (cI, nl, .inl (zA lt))), (a 2, .inl (cI, nO, .inl (zA (pfO nO nN len lt od ns pl)))), (a 10, .inl (cI, nN, .inl (zA (pfN nN len lt ns pl))))])) 0 0 (va_A [(a 0, .inr (0, so a ts lp len sg vc)), (lp, .inl (cI, nl, .inl (zA lt))), (a 2, .inl (cI, nO, .inl (zA od))), (a 10, .inl (cI, nN, .inl (zA ns)))] szz) := by
  refine Met.ofW (cc := cX0_placeFront) (maxL := 4) (ret := none) (by decide) rfl ?_
  intro p e s m args below meth c s₁ B hml hv
  obtain ⟨rfl, hsz, hP, hK, hD0⟩ := hv
  have hx := B.exec
  have hb := B.bytes
  have hr := B.returns
  have hts := atoms_spec (ws := wsX0_placeFront) B.pre
  have hown : s.vm.findClass RX0 = some m.cls := findClass_of_methodNamed B.named
  have hlocks := B.notSynchronized
  subst hsz
  have hD := hD0.self (sz := s.heap.size)
  generalize hAe : va_A [(a 0, .inr (0, so a ts lp len sg vc)), (lp, .inl (cI, nl, .inl (zA lt))), (a 2, .inl (cI, nO, .inl (zA od))), (a 10, .inl (cI, nN, .inl (zA ns)))] s.heap.size = A at hD ⊢
  have hA : ∀ q : Nat, s.heap.size ≤ q → A q := fun q h => by rw [← hAe]; exact Or.inr h
  have hS : va_S A s.heap s.heap [] := va_S.rf
  clear hD0
  have hP : va_P D vwCl [(a 0, .inr (0, so a ts lp len sg vc)), (lp, .inl (cI, nl, .inl (zA lt))), (a 2, .inl (cI, nO, .inl (zA od))), (a 10, .inl (cI, nN, .inl (zA ns)))] s.heap := hP
  have hl := lv_entry ([.ref (a 0), .int (zI pl)]) (n := 4) (Nat.le_of_ble_eq_true rfl)
  rw [lg_entry_eq]
  generalize (lg_sl ([.ref (a 0), .int (zI pl)]) ++ List.replicate (4 - (lg_sl ([.ref (a 0), .int (zI pl)])).length) Slot.unset).toArray = ls at hl ⊢
  have hl : lv_has ls 4 [(0, .ref (a 0)), (1, .int (zI pl))] := hl
  have hq1 := zla_S hlt len pl
  have hq2 := zat_S hns nN (zla len lt pl)
  refine lv_aload_n hx hb dX0_placeFront_0 rfl (lv_at hl 0 rfl) ?_
  refine lv_iload_n hx hb dX0_placeFront_1 rfl (lv_at hl 1 rfl) ?_
  refine z_cr (va_runV (As := [.int (zI pl)]) (rest := []) ⟨hx, hb, hml, hown, hts⟩ (kX0_letterAt l D cI cZ cL a ts lp len sg vc nl lt pl (by omega) (by omega) (by omega) (by omega)) (cwV 1 hts gX0_placeFront_X0_letterAt rfl rfl rfl (by decide +kernel) ⟨Nat.le_of_ble_eq_true rfl, Nat.le_of_ble_eq_true rfl⟩) (zPr_preV (ci := 0) (q0 := 0) hK (hP.sub (ws' := [(a 0, .inr (0, so a ts lp len sg vc)), (lp, .inl (cI, nl, .inl (zA lt)))]) [0, 1] rfl) rfl rfl) rfl rfl hl.1 rfl (lv_room (Nat.le_of_ble_eq_true rfl)) dX0_placeFront_2 ⟨Nat.zero_le _, Nat.zero_le _⟩) (fun r hr_ => ?_)
  subst hr_
  refine lv_istore_n (lv' := [(2, .int (zI (zla len lt pl))), (0, .ref (a 0)), (1, .int (zI pl))]) hx hb dX0_placeFront_5 rfl hl (by decide) rfl (fun ls hl => ?_)
  refine lv_aload_n hx hb dX0_placeFront_6 rfl (lv_at hl 1 rfl) ?_
  refine va_get (D := D) (ci := 0) (v := .ref (a 10)) (C := RX0) (T := TX0) (N := 15) hx hb hts inX0_placeFront_X0 hown hK.1 hP 0 rfl rfl 9 (by decide) (hts (.fieldLink RX0 64 "TextEnds$EndSorter" "nextSlot" "[I") (List.mem_of_getElem? (i := 1) rfl)) (fun _ h9 => h9) rfl dX0_placeFront_7 ?_
  refine lv_iload_n hx hb dX0_placeFront_10 rfl (lv_at hl 0 rfl) ?_
  refine z_cr (va_runSN (As := [.ref (a 10), .int (zI (zla len lt pl))]) (rest := []) ⟨hx, hb, hml, hown, hts⟩ (kX2_at l D cI cZ cL (a 10) nN ns (zla len lt pl) (by omega) (by omega)) ⟨va_cnB 2 hts gX0_placeFront_X2_at_n131 rfl rfl rfl hK.2.2 (hts (.initialized RX2) (List.mem_of_getElem? (i := 11) rfl)) (by decide +kernel) ⟨Nat.le_of_ble_eq_true rfl, Nat.le_of_ble_eq_true rfl⟩, hts (.static yX2_at) (List.mem_of_getElem? (i := 10) rfl), trivial⟩ (zPr_pre hK (hP.sub (ws' := [(a 10, .inl (cI, nN, .inl (zA ns)))]) [3] rfl)) rfl rfl hl.1 rfl (lv_room (Nat.le_of_ble_eq_true rfl)) dX0_placeFront_11 ⟨Nat.zero_le _, Nat.zero_le _⟩) (fun r hr_ => ?_)
  subst hr_
  refine lv_istore_n (lv' := [(3, .int (zI (zat nN ns (zla len lt pl)))), (2, .int (zI (zla len lt pl))), (0, .ref (a 0)), (1, .int (zI pl))]) hx hb dX0_placeFront_14 rfl hl (by decide) rfl (fun ls hl => ?_)
  refine lv_aload_n hx hb dX0_placeFront_15 rfl (lv_at hl 2 rfl) ?_
  refine va_get (D := D) (ci := 0) (v := .ref (a 2)) (C := RX0) (T := TX0) (N := 15) hx hb hts inX0_placeFront_X0 hown hK.1 hP 0 rfl rfl 1 (by decide) (hts (.fieldLink RX0 42 "TextEnds$EndSorter" "order" "[I") (List.mem_of_getElem? (i := 2) rfl)) (fun _ h9 => h9) rfl dX0_placeFront_16 ?_
  refine lv_iload_n hx hb dX0_placeFront_19 rfl (lv_at hl 0 rfl) ?_
  refine lv_iload_n hx hb dX0_placeFront_20 rfl (lv_at hl 3 rfl) ?_
  refine z_cw (wc := [(a 2, .inl (cI, nO, .inl (zA od)))]) (wr := [(a 0, .inr (0, so a ts lp len sg vc)), (lp, .inl (cI, nl, .inl (zA lt))), (a 10, .inl (cI, nN, .inl (zA ns)))]) (Wt := (fun _ : Unit => [(a 0, .inr (0, so a ts lp len sg vc)), (lp, .inl (cI, nl, .inl (zA lt))), (a 2, .inl (cI, nO, .inl (zA (zput nO od (zat nN ns (zla len lt pl)) pl)))), (a 10, .inl (cI, nN, .inl (zA ns)))])) [2] [0, 1, 3] [0, 1, 3, 2] hP hD hS hA rfl rfl (by decide) (by decide) (by decide) (by decide) (fun _ => rfl) (fun _ => rfl) (fun hPc hDc => va_runSN (As := [.ref (a 2), .int (zI (zat nN ns (zla len lt pl))), .int (zI pl)]) (rest := []) ⟨hx, hb, hml, hown, hts⟩ (kX2_put l D cI cZ cL (a 2) nO od (zat nN ns (zla len lt pl)) pl _ (by omega) (by omega)) ⟨va_cnB 3 hts gX0_placeFront_X2_put_n127 rfl rfl rfl hK.2.1 (hts (.initialized RX2) (List.mem_of_getElem? (i := 11) rfl)) (by decide +kernel) ⟨Nat.le_of_ble_eq_true rfl, Nat.le_of_ble_eq_true rfl⟩, hts (.static yX2_put) (List.mem_of_getElem? (i := 13) rfl), trivial⟩ (zPw_pre hK hPc hDc) rfl rfl hl.1 rfl (lv_room (Nat.le_of_ble_eq_true rfl)) dX0_placeFront_21 ⟨Nat.zero_le _, Nat.zero_le _⟩) rfl (fun u H locs hp_ hP hD hS => ?_)
  have hP : va_P D vwCl [(a 0, .inr (0, so a ts lp len sg vc)), (lp, .inl (cI, nl, .inl (zA lt))), (a 2, .inl (cI, nO, .inl (zA (zput nO od (zat nN ns (zla len lt pl)) pl)))), (a 10, .inl (cI, nN, .inl (zA ns)))] H := hP
  have hD : va_D A [(a 0, .inr (0, so a ts lp len sg vc)), (lp, .inl (cI, nl, .inl (zA lt))), (a 2, .inl (cI, nO, .inl (zA (zput nO od (zat nN ns (zla len lt pl)) pl)))), (a 10, .inl (cI, nN, .inl (zA ns)))] := hD
  refine lv_aload_n hx hb dX0_placeFront_24 rfl (lv_at hl 2 rfl) ?_
  refine va_get (D := D) (ci := 0) (v := .ref (a 10)) (C := RX0) (T := TX0) (N := 15) hx hb hts inX0_placeFront_X0 hown hK.1 hP 0 rfl rfl 9 (by decide) (hts (.fieldLink RX0 64 "TextEnds$EndSorter" "nextSlot" "[I") (List.mem_of_getElem? (i := 1) rfl)) (fun _ h9 => h9) rfl dX0_placeFront_25 ?_
  refine lv_iload_n hx hb dX0_placeFront_28 rfl (lv_at hl 1 rfl) ?_
  refine lv_iload_n hx hb dX0_placeFront_29 rfl (lv_at hl 0 rfl) ?_
  refine lv_iconst (v := zI 1) hx hb dX0_placeFront_30 (by first | rfl | decide) ?_
  refine z_iadd hx hb dX0_placeFront_31 ?_
  refine z_cw (wc := [(a 10, .inl (cI, nN, .inl (zA ns)))]) (wr := [(a 0, .inr (0, so a ts lp len sg vc)), (lp, .inl (cI, nl, .inl (zA lt))), (a 2, .inl (cI, nO, .inl (zA (zput nO od (zat nN ns (zla len lt pl)) pl))))]) (Wt := (fun _ : Unit => [(a 0, .inr (0, so a ts lp len sg vc)), (lp, .inl (cI, nl, .inl (zA lt))), (a 2, .inl (cI, nO, .inl (zA (zput nO od (zat nN ns (zla len lt pl)) pl)))), (a 10, .inl (cI, nN, .inl (zA (zput nN ns (zla len lt pl) ((zat nN ns (zla len lt pl)) + 1)))))])) [3] [0, 1, 2] [0, 1, 2, 3] hP hD hS hA rfl rfl (by decide) (by decide) (by decide) (by decide) (fun _ => rfl) (fun _ => rfl) (fun hPc hDc => va_runSN (As := [.ref (a 10), .int (zI (zla len lt pl)), .int (zI ((zat nN ns (zla len lt pl)) + 1))]) (rest := []) ⟨hx, hb, hml, hown, hts⟩ (kX2_put l D cI cZ cL (a 10) nN ns (zla len lt pl) ((zat nN ns (zla len lt pl)) + 1) _ (by omega) (by omega)) ⟨va_cnB 3 hts gX0_placeFront_X2_put_n127 rfl rfl rfl hK.2.1 (hts (.initialized RX2) (List.mem_of_getElem? (i := 11) rfl)) (by decide +kernel) ⟨Nat.le_of_ble_eq_true rfl, Nat.le_of_ble_eq_true rfl⟩, hts (.static yX2_put) (List.mem_of_getElem? (i := 13) rfl), trivial⟩ (zPw_pre hK hPc hDc) rfl rfl hl.1 rfl (lv_room (Nat.le_of_ble_eq_true rfl)) dX0_placeFront_32 ⟨Nat.zero_le _, Nat.zero_le _⟩) rfl (fun u H locs hp_ hP hD hS => ?_)
  have hP : va_P D vwCl [(a 0, .inr (0, so a ts lp len sg vc)), (lp, .inl (cI, nl, .inl (zA lt))), (a 2, .inl (cI, nO, .inl (zA (zput nO od (zat nN ns (zla len lt pl)) pl)))), (a 10, .inl (cI, nN, .inl (zA (zput nN ns (zla len lt pl) ((zat nN ns (zla len lt pl)) + 1)))))] H := hP
  have hD : va_D A [(a 0, .inr (0, so a ts lp len sg vc)), (lp, .inl (cI, nl, .inl (zA lt))), (a 2, .inl (cI, nO, .inl (zA (zput nO od (zat nN ns (zla len lt pl)) pl)))), (a 10, .inl (cI, nN, .inl (zA (zput nN ns (zla len lt pl) ((zat nN ns (zla len lt pl)) + 1)))))] := hD
  exact W.vret hx hb hr (fun t ht_ hW_ => ⟨⟨(), rfl, trivial, by rw [ht_]; exact hP, hD⟩, hS.F ht_⟩) hS.2.2 dX0_placeFront_35
set_option maxHeartbeats 4000000 in
set_option maxRecDepth 100000 in
/-- placeBack(place) -/
theorem kX0_placeBack (l : Launch) (D : va_G) (cI cZ cL : ClassId) (a : Nat → Nat) (ts : Int) (lp : Nat) (len sg vc : Int) (nl nO nN : Nat) (lt od ns : Int → Int) (pl : Int) (szz : Nat) (hlen : 0 ≤ len) (hnl : len ≤ (nl : Int)) (bnl : (nl : Int) < 1073741824) (hlt : zS lt) (hns : zS ns) (bnO : (nO : Int) < 1073741824) (bnN : (nN : Int) < 1073741824) (hpl : zR pl) : Met l yX0_placeBack wsX0_placeBack ({ frames := 1, cells := 0, slots := 0, locals := 22 }) (zPw D cI cZ cL szz [.ref (a 0), .int (zI pl)] [(a 0, .inr (0, so a ts lp len sg vc)), (lp, .inl (cI, nl, .inl (zA lt))), (a 2, .inl (cI, nO, .inl (zA od))), (a 10, .inl (cI, nN, .inl (zA ns)))]) (zQw D (va_A [(a 0, .inr (0, so a ts lp len sg vc)), (lp, .inl (cI, nl, .inl (zA lt))), (a 2, .inl (cI, nO, .inl (zA od))), (a 10, .inl (cI, nN, .inl (zA ns)))] szz) (fun _ : Unit => True) (fun _ : Unit => [(a 0, .inr (0, so a ts lp len sg vc)), (lp, .inl (cI, nl, .inl (zA lt))), (a 2, .inl (cI, nO, .inl (zA (pbO nO nN len lt od ns pl)))), (a 10, .inl (cI, nN, .inl (zA (pbN nN len lt ns pl))))])) 0 0 (va_A [(a 0, .inr (0, so a ts lp len sg vc)), (lp, .inl (cI, nl, .inl (zA lt))), (a 2, .inl (cI, nO, .inl (zA od))), (a 10, .inl (cI, nN, .inl (zA ns)))] szz) := by
  refine Met.ofW (cc := cX0_placeBack) (maxL := 4) (ret := none) (by decide) rfl ?_
  intro p e s m args below meth c s₁ B hml hv
  obtain ⟨rfl, hsz, hP, hK, hD0⟩ := hv
  have hx := B.exec
  have hb := B.bytes
  have hr := B.returns
  have hts := atoms_spec (ws := wsX0_placeBack) B.pre
  have hown : s.vm.findClass RX0 = some m.cls := findClass_of_methodNamed B.named
  have hlocks := B.notSynchronized
  subst hsz
  have hD := hD0.self (sz := s.heap.size)
  generalize hAe : va_A [(a 0, .inr (0, so a ts lp len sg vc)), (lp, .inl (cI, nl, .inl (zA lt))), (a 2, .inl (cI, nO, .inl (zA od))), (a 10, .inl (cI, nN, .inl (zA ns)))] s.heap.size = A at hD ⊢
  have hA : ∀ q : Nat, s.heap.size ≤ q → A q := fun q h => by rw [← hAe]; exact Or.inr h
  have hS : va_S A s.heap s.heap [] := va_S.rf
  clear hD0
  have hP : va_P D vwCl [(a 0, .inr (0, so a ts lp len sg vc)), (lp, .inl (cI, nl, .inl (zA lt))), (a 2, .inl (cI, nO, .inl (zA od))), (a 10, .inl (cI, nN, .inl (zA ns)))] s.heap := hP
  have hl := lv_entry ([.ref (a 0), .int (zI pl)]) (n := 4) (Nat.le_of_ble_eq_true rfl)
  rw [lg_entry_eq]
  generalize (lg_sl ([.ref (a 0), .int (zI pl)]) ++ List.replicate (4 - (lg_sl ([.ref (a 0), .int (zI pl)])).length) Slot.unset).toArray = ls at hl ⊢
  have hl : lv_has ls 4 [(0, .ref (a 0)), (1, .int (zI pl))] := hl
  have hq1 := zla_S hlt len pl
  have hq2 := zat_S hns nN (zla len lt pl)
  refine lv_aload_n hx hb dX0_placeBack_0 rfl (lv_at hl 0 rfl) ?_
  refine lv_iload_n hx hb dX0_placeBack_1 rfl (lv_at hl 1 rfl) ?_
  refine z_cr (va_runV (As := [.int (zI pl)]) (rest := []) ⟨hx, hb, hml, hown, hts⟩ (kX0_letterAt l D cI cZ cL a ts lp len sg vc nl lt pl (by omega) (by omega) (by omega) (by omega)) (cwV 1 hts gX0_placeBack_X0_letterAt rfl rfl rfl (by decide +kernel) ⟨Nat.le_of_ble_eq_true rfl, Nat.le_of_ble_eq_true rfl⟩) (zPr_preV (ci := 0) (q0 := 0) hK (hP.sub (ws' := [(a 0, .inr (0, so a ts lp len sg vc)), (lp, .inl (cI, nl, .inl (zA lt)))]) [0, 1] rfl) rfl rfl) rfl rfl hl.1 rfl (lv_room (Nat.le_of_ble_eq_true rfl)) dX0_placeBack_2 ⟨Nat.zero_le _, Nat.zero_le _⟩) (fun r hr_ => ?_)
  subst hr_
  refine lv_istore_n (lv' := [(2, .int (zI (zla len lt pl))), (0, .ref (a 0)), (1, .int (zI pl))]) hx hb dX0_placeBack_5 rfl hl (by decide) rfl (fun ls hl => ?_)
  refine lv_aload_n hx hb dX0_placeBack_6 rfl (lv_at hl 1 rfl) ?_
  refine va_get (D := D) (ci := 0) (v := .ref (a 10)) (C := RX0) (T := TX0) (N := 15) hx hb hts inX0_placeBack_X0 hown hK.1 hP 0 rfl rfl 9 (by decide) (hts (.fieldLink RX0 64 "TextEnds$EndSorter" "nextSlot" "[I") (List.mem_of_getElem? (i := 1) rfl)) (fun _ h9 => h9) rfl dX0_placeBack_7 ?_
  refine lv_iload_n hx hb dX0_placeBack_10 rfl (lv_at hl 0 rfl) ?_
  refine z_cr (va_runSN (As := [.ref (a 10), .int (zI (zla len lt pl))]) (rest := []) ⟨hx, hb, hml, hown, hts⟩ (kX2_at l D cI cZ cL (a 10) nN ns (zla len lt pl) (by omega) (by omega)) ⟨va_cnB 2 hts gX0_placeBack_X2_at_n131 rfl rfl rfl hK.2.2 (hts (.initialized RX2) (List.mem_of_getElem? (i := 11) rfl)) (by decide +kernel) ⟨Nat.le_of_ble_eq_true rfl, Nat.le_of_ble_eq_true rfl⟩, hts (.static yX2_at) (List.mem_of_getElem? (i := 10) rfl), trivial⟩ (zPr_pre hK (hP.sub (ws' := [(a 10, .inl (cI, nN, .inl (zA ns)))]) [3] rfl)) rfl rfl hl.1 rfl (lv_room (Nat.le_of_ble_eq_true rfl)) dX0_placeBack_11 ⟨Nat.zero_le _, Nat.zero_le _⟩) (fun r hr_ => ?_)
  subst hr_
  refine lv_iconst (v := zI 1) hx hb dX0_placeBack_14 (by first | rfl | decide) ?_
  refine z_isub hx hb dX0_placeBack_15 ?_
  refine lv_istore_n (lv' := [(3, .int (zI ((zat nN ns (zla len lt pl)) - 1))), (2, .int (zI (zla len lt pl))), (0, .ref (a 0)), (1, .int (zI pl))]) hx hb dX0_placeBack_16 rfl hl (by decide) rfl (fun ls hl => ?_)
  refine lv_aload_n hx hb dX0_placeBack_17 rfl (lv_at hl 2 rfl) ?_
  refine va_get (D := D) (ci := 0) (v := .ref (a 2)) (C := RX0) (T := TX0) (N := 15) hx hb hts inX0_placeBack_X0 hown hK.1 hP 0 rfl rfl 1 (by decide) (hts (.fieldLink RX0 42 "TextEnds$EndSorter" "order" "[I") (List.mem_of_getElem? (i := 2) rfl)) (fun _ h9 => h9) rfl dX0_placeBack_18 ?_
  refine lv_iload_n hx hb dX0_placeBack_21 rfl (lv_at hl 0 rfl) ?_
  refine lv_iload_n hx hb dX0_placeBack_22 rfl (lv_at hl 3 rfl) ?_
  refine z_cw (wc := [(a 2, .inl (cI, nO, .inl (zA od)))]) (wr := [(a 0, .inr (0, so a ts lp len sg vc)), (lp, .inl (cI, nl, .inl (zA lt))), (a 10, .inl (cI, nN, .inl (zA ns)))]) (Wt := (fun _ : Unit => [(a 0, .inr (0, so a ts lp len sg vc)), (lp, .inl (cI, nl, .inl (zA lt))), (a 2, .inl (cI, nO, .inl (zA (zput nO od ((zat nN ns (zla len lt pl)) - 1) pl)))), (a 10, .inl (cI, nN, .inl (zA ns)))])) [2] [0, 1, 3] [0, 1, 3, 2] hP hD hS hA rfl rfl (by decide) (by decide) (by decide) (by decide) (fun _ => rfl) (fun _ => rfl) (fun hPc hDc => va_runSN (As := [.ref (a 2), .int (zI ((zat nN ns (zla len lt pl)) - 1)), .int (zI pl)]) (rest := []) ⟨hx, hb, hml, hown, hts⟩ (kX2_put l D cI cZ cL (a 2) nO od ((zat nN ns (zla len lt pl)) - 1) pl _ (by omega) (by omega)) ⟨va_cnB 3 hts gX0_placeBack_X2_put_n127 rfl rfl rfl hK.2.1 (hts (.initialized RX2) (List.mem_of_getElem? (i := 11) rfl)) (by decide +kernel) ⟨Nat.le_of_ble_eq_true rfl, Nat.le_of_ble_eq_true rfl⟩, hts (.static yX2_put) (List.mem_of_getElem? (i := 13) rfl), trivial⟩ (zPw_pre hK hPc hDc) rfl rfl hl.1 rfl (lv_room (Nat.le_of_ble_eq_true rfl)) dX0_placeBack_23 ⟨Nat.zero_le _, Nat.zero_le _⟩) rfl (fun u H locs hp_ hP hD hS => ?_)
  have hP : va_P D vwCl [(a 0, .inr (0, so a ts lp len sg vc)), (lp, .inl (cI, nl, .inl (zA lt))), (a 2, .inl (cI, nO, .inl (zA (zput nO od ((zat nN ns (zla len lt pl)) - 1) pl)))), (a 10, .inl (cI, nN, .inl (zA ns)))] H := hP
  have hD : va_D A [(a 0, .inr (0, so a ts lp len sg vc)), (lp, .inl (cI, nl, .inl (zA lt))), (a 2, .inl (cI, nO, .inl (zA (zput nO od ((zat nN ns (zla len lt pl)) - 1) pl)))), (a 10, .inl (cI, nN, .inl (zA ns)))] := hD
  refine lv_aload_n hx hb dX0_placeBack_26 rfl (lv_at hl 2 rfl) ?_
  refine va_get (D := D) (ci := 0) (v := .ref (a 10)) (C := RX0) (T := TX0) (N := 15) hx hb hts inX0_placeBack_X0 hown hK.1 hP 0 rfl rfl 9 (by decide) (hts (.fieldLink RX0 64 "TextEnds$EndSorter" "nextSlot" "[I") (List.mem_of_getElem? (i := 1) rfl)) (fun _ h9 => h9) rfl dX0_placeBack_27 ?_
  refine lv_iload_n hx hb dX0_placeBack_30 rfl (lv_at hl 1 rfl) ?_
  refine lv_iload_n hx hb dX0_placeBack_31 rfl (lv_at hl 0 rfl) ?_
  refine z_cw (wc := [(a 10, .inl (cI, nN, .inl (zA ns)))]) (wr := [(a 0, .inr (0, so a ts lp len sg vc)), (lp, .inl (cI, nl, .inl (zA lt))), (a 2, .inl (cI, nO, .inl (zA (zput nO od ((zat nN ns (zla len lt pl)) - 1) pl))))]) (Wt := (fun _ : Unit => [(a 0, .inr (0, so a ts lp len sg vc)), (lp, .inl (cI, nl, .inl (zA lt))), (a 2, .inl (cI, nO, .inl (zA (zput nO od ((zat nN ns (zla len lt pl)) - 1) pl)))), (a 10, .inl (cI, nN, .inl (zA (zput nN ns (zla len lt pl) ((zat nN ns (zla len lt pl)) - 1)))))])) [3] [0, 1, 2] [0, 1, 2, 3] hP hD hS hA rfl rfl (by decide) (by decide) (by decide) (by decide) (fun _ => rfl) (fun _ => rfl) (fun hPc hDc => va_runSN (As := [.ref (a 10), .int (zI (zla len lt pl)), .int (zI ((zat nN ns (zla len lt pl)) - 1))]) (rest := []) ⟨hx, hb, hml, hown, hts⟩ (kX2_put l D cI cZ cL (a 10) nN ns (zla len lt pl) ((zat nN ns (zla len lt pl)) - 1) _ (by omega) (by omega)) ⟨va_cnB 3 hts gX0_placeBack_X2_put_n127 rfl rfl rfl hK.2.1 (hts (.initialized RX2) (List.mem_of_getElem? (i := 11) rfl)) (by decide +kernel) ⟨Nat.le_of_ble_eq_true rfl, Nat.le_of_ble_eq_true rfl⟩, hts (.static yX2_put) (List.mem_of_getElem? (i := 13) rfl), trivial⟩ (zPw_pre hK hPc hDc) rfl rfl hl.1 rfl (lv_room (Nat.le_of_ble_eq_true rfl)) dX0_placeBack_32 ⟨Nat.zero_le _, Nat.zero_le _⟩) rfl (fun u H locs hp_ hP hD hS => ?_)
  have hP : va_P D vwCl [(a 0, .inr (0, so a ts lp len sg vc)), (lp, .inl (cI, nl, .inl (zA lt))), (a 2, .inl (cI, nO, .inl (zA (zput nO od ((zat nN ns (zla len lt pl)) - 1) pl)))), (a 10, .inl (cI, nN, .inl (zA (zput nN ns (zla len lt pl) ((zat nN ns (zla len lt pl)) - 1)))))] H := hP
  have hD : va_D A [(a 0, .inr (0, so a ts lp len sg vc)), (lp, .inl (cI, nl, .inl (zA lt))), (a 2, .inl (cI, nO, .inl (zA (zput nO od ((zat nN ns (zla len lt pl)) - 1) pl)))), (a 10, .inl (cI, nN, .inl (zA (zput nN ns (zla len lt pl) ((zat nN ns (zla len lt pl)) - 1)))))] := hD
  exact W.vret hx hb hr (fun t ht_ hW_ => ⟨⟨(), rfl, trivial, by rw [ht_]; exact hP, hD⟩, hS.F ht_⟩) hS.2.2 dX0_placeBack_35
end
section
set_option maxRecDepth 20000 in
theorem inX0_markRising_X0 : ∀ w ∈ wsX00, w ∈ wsX0_markRising := by decide +kernel
set_option maxRecDepth 20000 in
theorem inX0_findValleys_X0 : ∀ w ∈ wsX00, w ∈ wsX0_findValleys := by decide +kernel
set_option maxRecDepth 20000 in
theorem inX0_findBuckets_X0 : ∀ w ∈ wsX00, w ∈ wsX0_findBuckets := by decide +kernel
set_option maxHeartbeats 4000000 in
set_option maxRecDepth 100000 in
/-- markRising() -/
theorem kX0_markRising (l : Launch) (D : va_G) (cI cZ cL : ClassId) (a : Nat → Nat) (ts : Int) (lp : Nat) (len sg vc : Int) (nl nr : Nat) (lt : Int → Int) (rs : Int → Bool) (szz : Nat) (hlen : 0 ≤ len) (hnl : len ≤ (nl : Int)) (bnl : (nl : Int) < 1073741824) (hlr : len ≤ (nr : Int)) (bnr : (nr : Int) < 1073741824) (hlt : zS lt) (hlp : ∀ i, 0 ≤ i → i < len → 0 ≤ lt i) : Met l yX0_markRising wsX0_markRising ({ frames := 1, cells := 0, slots := 0, locals := 21 }) (zPw D cI cZ cL szz [.ref (a 0)] [(a 0, .inr (0, so a ts lp len sg vc)), (lp, .inl (cI, nl, .inl (zA lt))), (a 4, .inl (cZ, nr, .inl (zA (zB rs))))]) (zQw D (va_A [(a 0, .inr (0, so a ts lp len sg vc)), (lp, .inl (cI, nl, .inl (zA lt))), (a 4, .inl (cZ, nr, .inl (zA (zB rs))))] szz) (fun _ : Unit => True) (fun _ : Unit => [(a 0, .inr (0, so a ts lp len sg vc)), (lp, .inl (cI, nl, .inl (zA lt))), (a 4, .inl (cZ, nr, .inl (zA (zB (zfill 0 len (zris len lt) rs)))))])) 0 0 (va_A [(a 0, .inr (0, so a ts lp len sg vc)), (lp, .inl (cI, nl, .inl (zA lt))), (a 4, .inl (cZ, nr, .inl (zA (zB rs))))] szz) := by
  refine Met.ofW (cc := cX0_markRising) (maxL := 4) (ret := none) (by decide) rfl ?_
  intro p e s m args below meth c s₁ B hml hv
  obtain ⟨rfl, hsz, hP, hK, hD0⟩ := hv
  have hx := B.exec
  have hb := B.bytes
  have hr := B.returns
  have hts := atoms_spec (ws := wsX0_markRising) B.pre
  have hown : s.vm.findClass RX0 = some m.cls := findClass_of_methodNamed B.named
  have hlocks := B.notSynchronized
  subst hsz
  have hD := hD0.self (sz := s.heap.size)
  generalize hAe : va_A [(a 0, .inr (0, so a ts lp len sg vc)), (lp, .inl (cI, nl, .inl (zA lt))), (a 4, .inl (cZ, nr, .inl (zA (zB rs))))] s.heap.size = A at hD ⊢
  have hA : ∀ q : Nat, s.heap.size ≤ q → A q := fun q h => by rw [← hAe]; exact Or.inr h
  have hS : va_S A s.heap s.heap [] := va_S.rf
  clear hD0
  have hP : va_P D vwCl [(a 0, .inr (0, so a ts lp len sg vc)), (lp, .inl (cI, nl, .inl (zA lt))), (a 4, .inl (cZ, nr, .inl (zA (zB rs))))] s.heap := hP
  have hl := lv_entry ([.ref (a 0)]) (n := 4) (Nat.le_of_ble_eq_true rfl)
  rw [lg_entry_eq]
  generalize (lg_sl ([.ref (a 0)]) ++ List.replicate (4 - (lg_sl ([.ref (a 0)])).length) Slot.unset).toArray = ls at hl ⊢
  have hl : lv_has ls 4 [(0, .ref (a 0))] := hl
  refine lv_aload_n hx hb dX0_markRising_0 rfl (lv_at hl 0 rfl) ?_
  refine va_get (D := D) (ci := 0) (v := .int (zI len)) (C := RX0) (T := TX0) (N := 15) hx hb hts inX0_markRising_X0 hown hK.1 hP 0 rfl rfl 12 (by decide) (hts (.fieldLink RX0 103 "TextEnds$EndSorter" "length" "I") (List.mem_of_getElem? (i := 1) rfl)) (fun _ h9 => h9) rfl dX0_markRising_1 ?_
  refine lv_iconst (v := zI 1) hx hb dX0_markRising_4 (by first | rfl | decide) ?_
  refine z_isub hx hb dX0_markRising_5 ?_
  refine lv_istore_n (lv' := [(1, .int (zI (len - 1))), (0, .ref (a 0))]) hx hb dX0_markRising_6 rfl hl (by decide) rfl (fun ls hl => ?_)
  have loop7 : ∀ (nn : Nat) (i : Int) (rr : Int → Bool) (H : Heap) (locs : List Loc) (ls : Array Slot), (-1 ≤ i) → (i < len) → (rr = zfill (i + 1) len (zris len lt) rs) → ((i + 1).toNat) < nn → va_P D vwCl [(a 0, .inr (0, so a ts lp len sg vc)), (lp, .inl (cI, nl, .inl (zA lt))), (a 4, .inl (cZ, nr, .inl (zA (zB rr))))] H → va_D A [(a 0, .inr (0, so a ts lp len sg vc)), (lp, .inl (cI, nl, .inl (zA lt))), (a 4, .inl (cZ, nr, .inl (zA (zB rr))))] → va_S A s.heap H locs → lv_has ls 4 [(0, .ref (a 0)), (1, .int (zI i))] → W p l e (headSpec wsX0_markRising ({ frames := 1, cells := 0, slots := 0, locals := 21 })).room s m ([.ref (a 0)] : List Value).toArray below meth c H locs 0 0 (MQ below (zQw D A (fun _ : Unit => True) (fun _ : Unit => [(a 0, .inr (0, so a ts lp len sg vc)), (lp, .inl (cI, nl, .inl (zA lt))), (a 4, .inl (cZ, nr, .inl (zA (zB (zfill 0 len (zris len lt) rs)))))])) ([.ref (a 0)] : List Value).toArray s 0 0 A) (F0 m 7 ls []) := by
    intro nn
    induction nn with
    | zero =>
      intros
      exact absurd (by assumption : _ < 0) (Nat.not_lt_zero _)
    | succ nn ih7 =>
      intro i rr H locs ls h0 h1 hrr hmu hP hD hS hl
      refine lv_iload_n hx hb dX0_markRising_7 rfl (lv_at hl 1 rfl) ?_
      refine z_if_lt (tgt := 62) hx hb dX0_markRising_8 (by decide) (by omega) (fun h_1 => ?_) (fun h_1 => ?_)
      · skip
        have hwe : (zB rr) = (zB (zfill 0 len (zris len lt) rs)) := by rw [hrr, show i + 1 = 0 by omega]
        rw [hwe] at hP hD
        clear hwe
        exact W.vret hx hb hr (fun t ht_ hW_ => ⟨⟨(), rfl, trivial, by rw [ht_]; exact hP, hD⟩, hS.F ht_⟩) hS.2.2 dX0_markRising_62
      · skip
        have hq1 := zla_S hlt len i
        have hq2 := zla_S hlt len (i + 1)
        refine lv_aload_n hx hb dX0_markRising_11 rfl (lv_at hl 0 rfl) ?_
        refine lv_iload_n hx hb dX0_markRising_12 rfl (lv_at hl 1 rfl) ?_
        refine z_cr (va_runV (As := [.int (zI i)]) (rest := []) ⟨hx, hb, hml, hown, hts⟩ (kX0_letterAt l D cI cZ cL a ts lp len sg vc nl lt i (by omega) (by omega) (by omega) (by omega)) (cwV 1 hts gX0_markRising_X0_letterAt rfl rfl rfl (by decide +kernel) ⟨Nat.le_of_ble_eq_true rfl, Nat.le_of_ble_eq_true rfl⟩) (zPr_preV (ci := 0) (q0 := 0) hK (hP.sub (ws' := [(a 0, .inr (0, so a ts lp len sg vc)), (lp, .inl (cI, nl, .inl (zA lt)))]) [0, 1] rfl) rfl rfl) rfl rfl hl.1 rfl (lv_room (Nat.le_of_ble_eq_true rfl)) dX0_markRising_13 ⟨Nat.zero_le _, Nat.zero_le _⟩) (fun r hr_ => ?_)
        subst hr_
        refine lv_istore_n (lv' := [(2, .int (zI (zla len lt i))), (0, .ref (a 0)), (1, .int (zI i))]) hx hb dX0_markRising_16 rfl hl (by decide) rfl (fun ls hl => ?_)
        refine lv_aload_n hx hb dX0_markRising_17 rfl (lv_at hl 1 rfl) ?_
        refine lv_iload_n hx hb dX0_markRising_18 rfl (lv_at hl 2 rfl) ?_
        refine lv_iconst (v := zI 1) hx hb dX0_markRising_19 (by first | rfl | decide) ?_
        refine z_iadd hx hb dX0_markRising_20 ?_
        refine z_cr (va_runV (As := [.int (zI (i + 1))]) (rest := []) ⟨hx, hb, hml, hown, hts⟩ (kX0_letterAt l D cI cZ cL a ts lp len sg vc nl lt (i + 1) (by omega) (by omega) (by omega) (by omega)) (cwV 1 hts gX0_markRising_X0_letterAt rfl rfl rfl (by decide +kernel) ⟨Nat.le_of_ble_eq_true rfl, Nat.le_of_ble_eq_true rfl⟩) (zPr_preV (ci := 0) (q0 := 0) hK (hP.sub (ws' := [(a 0, .inr (0, so a ts lp len sg vc)), (lp, .inl (cI, nl, .inl (zA lt)))]) [0, 1] rfl) rfl rfl) rfl rfl hl.1 rfl (lv_room (Nat.le_of_ble_eq_true rfl)) dX0_markRising_21 ⟨Nat.zero_le _, Nat.zero_le _⟩) (fun r hr_ => ?_)
        subst hr_
        refine lv_istore_n (lv' := [(3, .int (zI (zla len lt (i + 1)))), (2, .int (zI (zla len lt i))), (0, .ref (a 0)), (1, .int (zI i))]) hx hb dX0_markRising_24 rfl hl (by decide) rfl (fun ls hl => ?_)
        refine lv_aload_n hx hb dX0_markRising_25 rfl (lv_at hl 2 rfl) ?_
        refine va_get (D := D) (ci := 0) (v := .ref (a 4)) (C := RX0) (T := TX0) (N := 15) hx hb hts inX0_markRising_X0 hown hK.1 hP 0 rfl rfl 3 (by decide) (hts (.fieldLink RX0 45 "TextEnds$EndSorter" "rising" "[Z") (List.mem_of_getElem? (i := 2) rfl)) (fun _ h9 => h9) rfl dX0_markRising_26 ?_
        refine lv_iload_n hx hb dX0_markRising_29 rfl (lv_at hl 3 rfl) ?_
        refine lv_iload_n hx hb dX0_markRising_30 rfl (lv_at hl 1 rfl) ?_
        refine lv_iload_n hx hb dX0_markRising_31 rfl (lv_at hl 0 rfl) ?_
        refine z_icmp_ne (tgt := 45) hx hb dX0_markRising_32 (by decide) (by omega) (by omega) (fun h_2 => ?_) (fun h_2 => ?_)
        · skip
          refine lv_iload_n hx hb dX0_markRising_45 rfl (lv_at hl 1 rfl) ?_
          refine lv_iload_n hx hb dX0_markRising_46 rfl (lv_at hl 0 rfl) ?_
          refine z_icmp_ge (tgt := 54) hx hb dX0_markRising_47 (by decide) (by omega) (by omega) (fun h_3 => ?_) (fun h_3 => ?_)
          · skip
            refine lv_iconst (v := zI 0) hx hb dX0_markRising_54 (by first | rfl | decide) ?_
            refine z_zast hx hb hK.1 hP hD hS 2 1 rfl rfl dX0_markRising_55 (by omega) (by omega) (by omega) (by first | exact Or.inl rfl | exact Or.inr rfl | exact bi_01 _) (fun H locs hP hD hS => ?_)
            have hP : va_P D vwCl [(a 0, .inr (0, so a ts lp len sg vc)), (lp, .inl (cI, nl, .inl (zA lt))), (a 4, .inl (cZ, nr, .inl (zA (zup (zB rr) i 0))))] H := hP
            have hD : va_D A [(a 0, .inr (0, so a ts lp len sg vc)), (lp, .inl (cI, nl, .inl (zA lt))), (a 4, .inl (cZ, nr, .inl (zA (zup (zB rr) i 0))))] := hD
            have hwe : (zup (zB rr) i 0) = (zB (zfill i len (zris len lt) rs)) := mr_step hrr (by omega) (by first | (rw [mr_lt hlp (by omega) (by omega) (by with_reducible assumption)]; rfl) | (rw [mr_gt hlp (by omega) (by omega) (by with_reducible assumption) (by with_reducible assumption)]; rfl) | exact congrArg bi (by rw [hrr]; exact mr_same hlp (by omega) (by omega) (by with_reducible assumption)))
            rw [hwe] at hP hD
            clear hwe
            refine lv_iinc (v := zI (i + (-1))) (lv' := [(1, .int (zI (i + (-1)))), (3, .int (zI (zla len lt (i + 1)))), (2, .int (zI (zla len lt i))), (0, .ref (a 0))]) hx hb dX0_markRising_56 hl (k := 3) rfl (zI_add _ _) (by decide) rfl (fun ls hl => ?_)
            refine lv_goto (tgt := 7) hx hb dX0_markRising_59 (by decide) ?_
            exact ih7 (i + (-1)) (zfill i len (zris len lt) rs) _ _ ls (by omega) (by omega) (by rw [show i + (-1) + 1 = i by omega]) (by omega) (hP) (hD) hS (lv_sub hl [3, 0] rfl)
          · skip
            refine lv_iconst (v := zI 1) hx hb dX0_markRising_50 (by first | rfl | decide) ?_
            refine lv_goto (tgt := 55) hx hb dX0_markRising_51 (by decide) ?_
            refine z_zast hx hb hK.1 hP hD hS 2 1 rfl rfl dX0_markRising_55 (by omega) (by omega) (by omega) (by first | exact Or.inl rfl | exact Or.inr rfl | exact bi_01 _) (fun H locs hP hD hS => ?_)
            have hP : va_P D vwCl [(a 0, .inr (0, so a ts lp len sg vc)), (lp, .inl (cI, nl, .inl (zA lt))), (a 4, .inl (cZ, nr, .inl (zA (zup (zB rr) i 1))))] H := hP
            have hD : va_D A [(a 0, .inr (0, so a ts lp len sg vc)), (lp, .inl (cI, nl, .inl (zA lt))), (a 4, .inl (cZ, nr, .inl (zA (zup (zB rr) i 1))))] := hD
            have hwe : (zup (zB rr) i 1) = (zB (zfill i len (zris len lt) rs)) := mr_step hrr (by omega) (by first | (rw [mr_lt hlp (by omega) (by omega) (by with_reducible assumption)]; rfl) | (rw [mr_gt hlp (by omega) (by omega) (by with_reducible assumption) (by with_reducible assumption)]; rfl) | exact congrArg bi (by rw [hrr]; exact mr_same hlp (by omega) (by omega) (by with_reducible assumption)))
            rw [hwe] at hP hD
            clear hwe
            refine lv_iinc (v := zI (i + (-1))) (lv' := [(1, .int (zI (i + (-1)))), (3, .int (zI (zla len lt (i + 1)))), (2, .int (zI (zla len lt i))), (0, .ref (a 0))]) hx hb dX0_markRising_56 hl (k := 3) rfl (zI_add _ _) (by decide) rfl (fun ls hl => ?_)
            refine lv_goto (tgt := 7) hx hb dX0_markRising_59 (by decide) ?_
            exact ih7 (i + (-1)) (zfill i len (zris len lt) rs) _ _ ls (by omega) (by omega) (by rw [show i + (-1) + 1 = i by omega]) (by omega) (hP) (hD) hS (lv_sub hl [3, 0] rfl)
        · skip
          refine lv_aload_n hx hb dX0_markRising_35 rfl (lv_at hl 2 rfl) ?_
          refine lv_iload_n hx hb dX0_markRising_36 rfl (lv_at hl 3 rfl) ?_
          refine lv_iconst (v := zI 1) hx hb dX0_markRising_37 (by first | rfl | decide) ?_
          refine z_iadd hx hb dX0_markRising_38 ?_
          refine z_cr (va_runV (As := [.int (zI (i + 1))]) (rest := [.int (zI i), .ref (a 4)]) ⟨hx, hb, hml, hown, hts⟩ (kX0_isRising l D cI cZ cL a ts lp len sg vc nr rr (i + 1) (by omega) (by omega) (by omega) (by omega)) (cwV 1 hts gX0_markRising_X0_isRising rfl rfl rfl (by decide +kernel) ⟨Nat.le_of_ble_eq_true rfl, Nat.le_of_ble_eq_true rfl⟩) (zPr_preV (ci := 0) (q0 := 0) hK (hP.sub (ws' := [(a 0, .inr (0, so a ts lp len sg vc)), (a 4, .inl (cZ, nr, .inl (zA (zB rr))))]) [0, 2] rfl) rfl rfl) rfl rfl hl.1 rfl (lv_room (Nat.le_of_ble_eq_true rfl)) dX0_markRising_39 ⟨Nat.zero_le _, Nat.zero_le _⟩) (fun r hr_ => ?_)
          subst hr_
          refine lv_goto (tgt := 55) hx hb dX0_markRising_42 (by decide) ?_
          refine z_zast hx hb hK.1 hP hD hS 2 1 rfl rfl dX0_markRising_55 (by omega) (by omega) (by omega) (by first | exact Or.inl rfl | exact Or.inr rfl | exact bi_01 _) (fun H locs hP hD hS => ?_)
          have hP : va_P D vwCl [(a 0, .inr (0, so a ts lp len sg vc)), (lp, .inl (cI, nl, .inl (zA lt))), (a 4, .inl (cZ, nr, .inl (zA (zup (zB rr) i (bi (zir len rr (i + 1)))))))] H := hP
          have hD : va_D A [(a 0, .inr (0, so a ts lp len sg vc)), (lp, .inl (cI, nl, .inl (zA lt))), (a 4, .inl (cZ, nr, .inl (zA (zup (zB rr) i (bi (zir len rr (i + 1)))))))] := hD
          have hwe : (zup (zB rr) i (bi (zir len rr (i + 1)))) = (zB (zfill i len (zris len lt) rs)) := mr_step hrr (by omega) (by first | (rw [mr_lt hlp (by omega) (by omega) (by with_reducible assumption)]; rfl) | (rw [mr_gt hlp (by omega) (by omega) (by with_reducible assumption) (by with_reducible assumption)]; rfl) | exact congrArg bi (by rw [hrr]; exact mr_same hlp (by omega) (by omega) (by with_reducible assumption)))
          rw [hwe] at hP hD
          clear hwe
          refine lv_iinc (v := zI (i + (-1))) (lv' := [(1, .int (zI (i + (-1)))), (3, .int (zI (zla len lt (i + 1)))), (2, .int (zI (zla len lt i))), (0, .ref (a 0))]) hx hb dX0_markRising_56 hl (k := 3) rfl (zI_add _ _) (by decide) rfl (fun ls hl => ?_)
          refine lv_goto (tgt := 7) hx hb dX0_markRising_59 (by decide) ?_
          exact ih7 (i + (-1)) (zfill i len (zris len lt) rs) _ _ ls (by omega) (by omega) (by rw [show i + (-1) + 1 = i by omega]) (by omega) (hP) (hD) hS (lv_sub hl [3, 0] rfl)
  exact loop7 _ (len - 1) rs _ _ ls (by omega) (by omega) (by rw [show len - 1 + 1 = len by omega]; exact zfill_0 _ _ _) (Nat.lt_succ_self _) hP hD hS (lv_sub hl [1, 0] rfl)
set_option maxHeartbeats 4000000 in
set_option maxRecDepth 100000 in
/-- findValleys() -/
theorem kX0_findValleys (l : Launch) (D : va_G) (cI cZ cL : ClassId) (a : Nat → Nat) (ts : Int) (lp : Nat) (len sg vc : Int) (nr nV nM : Nat) (rs : Int → Bool) (vl vn : Int → Int) (szz : Nat) (hlen : 0 ≤ len) (hlr : len ≤ (nr : Int)) (hlm : len ≤ (nM : Int)) (bnr : (nr : Int) < 1073741824) (bnV : (nV : Int) < 1073741824) (bnM : (nM : Int) < 1073741824) : Met l yX0_findValleys wsX0_findValleys ({ frames := 1, cells := 0, slots := 0, locals := 22 }) (zPw D cI cZ cL szz [.ref (a 0)] [(a 0, .inr (0, so a ts lp len sg vc)), (a 4, .inl (cZ, nr, .inl (zA (zB rs)))), (a 5, .inl (cI, nV, .inl (zA vl))), (a 6, .inl (cI, nM, .inl (zA vn)))]) (zQw D (va_A [(a 0, .inr (0, so a ts lp len sg vc)), (a 4, .inl (cZ, nr, .inl (zA (zB rs)))), (a 5, .inl (cI, nV, .inl (zA vl))), (a 6, .inl (cI, nM, .inl (zA vn)))] szz) (fun _ : Unit => True) (fun _ : Unit => [(a 0, .inr (0, so a ts lp len sg ((fvq nV len rs vn vl).2.2))), (a 4, .inl (cZ, nr, .inl (zA (zB rs)))), (a 5, .inl (cI, nV, .inl (zA ((fvq nV len rs vn vl).2.1)))), (a 6, .inl (cI, nM, .inl (zA ((fvq nV len rs vn vl).1))))])) 0 0 (va_A [(a 0, .inr (0, so a ts lp len sg vc)), (a 4, .inl (cZ, nr, .inl (zA (zB rs)))), (a 5, .inl (cI, nV, .inl (zA vl))), (a 6, .inl (cI, nM, .inl (zA vn)))] szz) := by
  refine Met.ofW (cc := cX0_findValleys) (maxL := 3) (ret := none) (by decide) rfl ?_
  intro p e s m args below meth c s₁ B hml hv
  obtain ⟨rfl, hsz, hP, hK, hD0⟩ := hv
  have hx := B.exec
  have hb := B.bytes
  have hr := B.returns
  have hts := atoms_spec (ws := wsX0_findValleys) B.pre
  have hown : s.vm.findClass RX0 = some m.cls := findClass_of_methodNamed B.named
  have hlocks := B.notSynchronized
  subst hsz
  have hD := hD0.self (sz := s.heap.size)
  generalize hAe : va_A [(a 0, .inr (0, so a ts lp len sg vc)), (a 4, .inl (cZ, nr, .inl (zA (zB rs)))), (a 5, .inl (cI, nV, .inl (zA vl))), (a 6, .inl (cI, nM, .inl (zA vn)))] s.heap.size = A at hD ⊢
  have hA : ∀ q : Nat, s.heap.size ≤ q → A q := fun q h => by rw [← hAe]; exact Or.inr h
  have hS : va_S A s.heap s.heap [] := va_S.rf
  clear hD0
  have hP : va_P D vwCl [(a 0, .inr (0, so a ts lp len sg vc)), (a 4, .inl (cZ, nr, .inl (zA (zB rs)))), (a 5, .inl (cI, nV, .inl (zA vl))), (a 6, .inl (cI, nM, .inl (zA vn)))] s.heap := hP
  have hl := lv_entry ([.ref (a 0)]) (n := 3) (Nat.le_of_ble_eq_true rfl)
  rw [lg_entry_eq]
  generalize (lg_sl ([.ref (a 0)]) ++ List.replicate (3 - (lg_sl ([.ref (a 0)])).length) Slot.unset).toArray = ls at hl ⊢
  have hl : lv_has ls 3 [(0, .ref (a 0))] := hl
  refine lv_aload_n hx hb dX0_findValleys_0 rfl (lv_at hl 0 rfl) ?_
  refine lv_iconst (v := zI 0) hx hb dX0_findValleys_1 (by first | rfl | decide) ?_
  refine va_put (D := D) (ci := 0) (v := .int (zI 0)) (ty := .int) (C := RX0) (T := TX0) (N := 15) hx hb hts inX0_findValleys_X0 tyX0 tyX0_ok nmX0 hown hK.1 hP hD hS 0 rfl rfl 14 (by decide) (hts (.fieldLink RX0 97 "TextEnds$EndSorter" "valleyCount" "I") (List.mem_of_getElem? (i := 1) rfl)) (fun _ h9 => h9) rfl (by decide +kernel) rfl rfl (Nat.le_of_ble_eq_true rfl) dX0_findValleys_2 (fun H locs hP hD hS => ?_)
  have hP : va_P D vwCl [(a 0, .inr (0, so a ts lp len sg 0)), (a 4, .inl (cZ, nr, .inl (zA (zB rs)))), (a 5, .inl (cI, nV, .inl (zA vl))), (a 6, .inl (cI, nM, .inl (zA vn)))] H := hP
  have hD : va_D A [(a 0, .inr (0, so a ts lp len sg 0)), (a 4, .inl (cZ, nr, .inl (zA (zB rs)))), (a 5, .inl (cI, nV, .inl (zA vl))), (a 6, .inl (cI, nM, .inl (zA vn)))] := hD
  refine lv_iconst (v := zI 0) hx hb dX0_findValleys_5 (by first | rfl | decide) ?_
  refine lv_istore_n (lv' := [(1, .int (zI 0)), (0, .ref (a 0))]) hx hb dX0_findValleys_6 rfl hl (by decide) rfl (fun ls hl => ?_)
  have loop7 : ∀ (nn : Nat) (i : Int) (vlq : Int → Int) (vnq : Int → Int) (vcq : Int) (H : Heap) (locs : List Loc) (ls : Array Slot), (0 ≤ i) → (i ≤ len) → (0 ≤ vcq ∧ vcq ≤ i) → ((vnq, vlq, vcq) = zit (stV nV len rs) i.toNat (vn, vl, 0)) → ((len - i).toNat) < nn → va_P D vwCl [(a 0, .inr (0, so a ts lp len sg vcq)), (a 4, .inl (cZ, nr, .inl (zA (zB rs)))), (a 5, .inl (cI, nV, .inl (zA vlq))), (a 6, .inl (cI, nM, .inl (zA vnq)))] H → va_D A [(a 0, .inr (0, so a ts lp len sg vcq)), (a 4, .inl (cZ, nr, .inl (zA (zB rs)))), (a 5, .inl (cI, nV, .inl (zA vlq))), (a 6, .inl (cI, nM, .inl (zA vnq)))] → va_S A s.heap H locs → lv_has ls 3 [(0, .ref (a 0)), (1, .int (zI i))] → W p l e (headSpec wsX0_findValleys ({ frames := 1, cells := 0, slots := 0, locals := 22 })).room s m ([.ref (a 0)] : List Value).toArray below meth c H locs 0 0 (MQ below (zQw D A (fun _ : Unit => True) (fun _ : Unit => [(a 0, .inr (0, so a ts lp len sg ((fvq nV len rs vn vl).2.2))), (a 4, .inl (cZ, nr, .inl (zA (zB rs)))), (a 5, .inl (cI, nV, .inl (zA ((fvq nV len rs vn vl).2.1)))), (a 6, .inl (cI, nM, .inl (zA ((fvq nV len rs vn vl).1))))])) ([.ref (a 0)] : List Value).toArray s 0 0 A) (F0 m 7 ls []) := by
    intro nn
    induction nn with
    | zero =>
      intros
      exact absurd (by assumption : _ < 0) (Nat.not_lt_zero _)
    | succ nn ih7 =>
      intro i vlq vnq vcq H locs ls h0 h1 hv hq hmu hP hD hS hl
      refine lv_iload_n hx hb dX0_findValleys_7 rfl (lv_at hl 1 rfl) ?_
      refine lv_aload_n hx hb dX0_findValleys_8 rfl (lv_at hl 0 rfl) ?_
      refine va_get (D := D) (ci := 0) (v := .int (zI len)) (C := RX0) (T := TX0) (N := 15) hx hb hts inX0_findValleys_X0 hown hK.1 hP 0 rfl rfl 12 (by decide) (hts (.fieldLink RX0 103 "TextEnds$EndSorter" "length" "I") (List.mem_of_getElem? (i := 2) rfl)) (fun _ h9 => h9) rfl dX0_findValleys_9 ?_
      refine z_icmp_ge (tgt := 89) hx hb dX0_findValleys_12 (by decide) (by omega) (by omega) (fun h_1 => ?_) (fun h_1 => ?_)
      · skip
        rw [show i = len by omega] at hq
        have hwe : vlq = ((fvq nV len rs vn vl).2.1) := congrArg (fun z => z.2.1) hq
        rw [hwe] at hP hD
        clear hwe
        have hwe : vnq = ((fvq nV len rs vn vl).1) := congrArg (fun z => z.1) hq
        rw [hwe] at hP hD
        clear hwe
        have hwe : vcq = ((fvq nV len rs vn vl).2.2) := congrArg (fun z => z.2.2) hq
        rw [hwe] at hP hD
        clear hwe
        exact W.vret hx hb hr (fun t ht_ hW_ => ⟨⟨(), rfl, trivial, by rw [ht_]; exact hP, hD⟩, hS.F ht_⟩) hS.2.2 dX0_findValleys_89
      · skip
        refine lv_aload_n hx hb dX0_findValleys_15 rfl (lv_at hl 0 rfl) ?_
        refine lv_iload_n hx hb dX0_findValleys_16 rfl (lv_at hl 1 rfl) ?_
        refine z_cr (va_runV (As := [.int (zI i)]) (rest := []) ⟨hx, hb, hml, hown, hts⟩ (kX0_isRising l D cI cZ cL a ts lp len sg vcq nr rs i (by omega) (by omega) (by omega) (by omega)) (cwV 1 hts gX0_findValleys_X0_isRising rfl rfl rfl (by decide +kernel) ⟨Nat.le_of_ble_eq_true rfl, Nat.le_of_ble_eq_true rfl⟩) (zPr_preV (ci := 0) (q0 := 0) hK (hP.sub (ws' := [(a 0, .inr (0, so a ts lp len sg vcq)), (a 4, .inl (cZ, nr, .inl (zA (zB rs))))]) [0, 1] rfl) rfl rfl) rfl rfl hl.1 rfl (lv_room (Nat.le_of_ble_eq_true rfl)) dX0_findValleys_17 ⟨Nat.zero_le _, Nat.zero_le _⟩) (fun r hr_ => ?_)
        subst hr_
        refine z_if_eq (tgt := 37) hx hb dX0_findValleys_20 (by decide) (bi_R _) (fun h_2 => ?_) (fun h_2 => ?_)
        · skip
          refine lv_iconst (v := zI 0) hx hb dX0_findValleys_37 (by first | rfl | decide) ?_
          refine lv_istore_n (lv' := [(2, .int (zI 0)), (0, .ref (a 0)), (1, .int (zI i))]) hx hb dX0_findValleys_38 rfl hl (by decide) rfl (fun ls hl => ?_)
          refine lv_aload_n hx hb dX0_findValleys_39 rfl (lv_at hl 1 rfl) ?_
          refine va_get (D := D) (ci := 0) (v := .ref (a 6)) (C := RX0) (T := TX0) (N := 15) hx hb hts inX0_findValleys_X0 hown hK.1 hP 0 rfl rfl 5 (by decide) (hts (.fieldLink RX0 49 "TextEnds$EndSorter" "valleyNumber" "[I") (List.mem_of_getElem? (i := 3) rfl)) (fun _ h9 => h9) rfl dX0_findValleys_40 ?_
          refine lv_iload_n hx hb dX0_findValleys_43 rfl (lv_at hl 2 rfl) ?_
          refine lv_iload_n hx hb dX0_findValleys_44 rfl (lv_at hl 0 rfl) ?_
          refine z_if_eq (tgt := 55) hx hb dX0_findValleys_45 (by decide) (by omega) (fun h_3 => ?_) (fun h_3 => ?_)
          · skip
            refine lv_iconst (v := zI (-1)) hx hb dX0_findValleys_55 (by first | rfl | decide) ?_
            refine z_iast hx hb hK.1 hP hD hS 3 0 rfl rfl dX0_findValleys_56 (by omega) (by omega) (by omega) (fun H locs hP hD hS => ?_)
            have hP : va_P D vwCl [(a 0, .inr (0, so a ts lp len sg vcq)), (a 4, .inl (cZ, nr, .inl (zA (zB rs)))), (a 5, .inl (cI, nV, .inl (zA vlq))), (a 6, .inl (cI, nM, .inl (zA (zup vnq i (-1)))))] H := hP
            have hD : va_D A [(a 0, .inr (0, so a ts lp len sg vcq)), (a 4, .inl (cZ, nr, .inl (zA (zB rs)))), (a 5, .inl (cI, nV, .inl (zA vlq))), (a 6, .inl (cI, nM, .inl (zA (zup vnq i (-1)))))] := hD
            refine lv_iload_n hx hb dX0_findValleys_57 rfl (lv_at hl 0 rfl) ?_
            refine z_if_eq (tgt := 83) hx hb dX0_findValleys_58 (by decide) (by omega) (fun h_4 => ?_) (fun h_4 => ?_)
            · skip
              refine lv_iinc (v := zI (i + 1)) (lv' := [(1, .int (zI (i + 1))), (2, .int (zI 0)), (0, .ref (a 0))]) hx hb dX0_findValleys_83 hl (k := 2) rfl (zI_add _ _) (by decide) rfl (fun ls hl => ?_)
              refine lv_goto (tgt := 7) hx hb dX0_findValleys_86 (by decide) ?_
              exact ih7 (i + 1) vlq (zup vnq i (-1)) vcq _ _ ls (by omega) (by omega) (by omega) (by first | exact stV_t hq h0 (zvl_t (by with_reducible assumption) (by with_reducible assumption)) | exact stV_f hq h0 (zvl_f1 (by with_reducible assumption)) | exact stV_f hq h0 (zvl_f2 (by with_reducible assumption))) (by omega) (hP) (hD) hS (lv_sub hl [2, 0] rfl)
            · skip
              exact absurd h_4 (by decide)
          · skip
            exact absurd h_3 (by decide)
        · skip
          refine lv_aload_n hx hb dX0_findValleys_23 rfl (lv_at hl 0 rfl) ?_
          refine lv_iload_n hx hb dX0_findValleys_24 rfl (lv_at hl 1 rfl) ?_
          refine lv_iconst (v := zI 1) hx hb dX0_findValleys_25 (by first | rfl | decide) ?_
          refine z_isub hx hb dX0_findValleys_26 ?_
          refine z_cr (va_runV (As := [.int (zI (i - 1))]) (rest := []) ⟨hx, hb, hml, hown, hts⟩ (kX0_isFalling l D cI cZ cL a ts lp len sg vcq nr rs (i - 1) (by omega) (by omega) (by omega) (by omega)) (cwV 1 hts gX0_findValleys_X0_isFalling rfl rfl rfl (by decide +kernel) ⟨Nat.le_of_ble_eq_true rfl, Nat.le_of_ble_eq_true rfl⟩) (zPr_preV (ci := 0) (q0 := 0) hK (hP.sub (ws' := [(a 0, .inr (0, so a ts lp len sg vcq)), (a 4, .inl (cZ, nr, .inl (zA (zB rs))))]) [0, 1] rfl) rfl rfl) rfl rfl hl.1 rfl (lv_room (Nat.le_of_ble_eq_true rfl)) dX0_findValleys_27 ⟨Nat.zero_le _, Nat.zero_le _⟩) (fun r hr_ => ?_)
          subst hr_
          refine z_if_eq (tgt := 37) hx hb dX0_findValleys_30 (by decide) (bi_R _) (fun h_5 => ?_) (fun h_5 => ?_)
          · skip
            refine lv_iconst (v := zI 0) hx hb dX0_findValleys_37 (by first | rfl | decide) ?_
            refine lv_istore_n (lv' := [(2, .int (zI 0)), (0, .ref (a 0)), (1, .int (zI i))]) hx hb dX0_findValleys_38 rfl hl (by decide) rfl (fun ls hl => ?_)
            refine lv_aload_n hx hb dX0_findValleys_39 rfl (lv_at hl 1 rfl) ?_
            refine va_get (D := D) (ci := 0) (v := .ref (a 6)) (C := RX0) (T := TX0) (N := 15) hx hb hts inX0_findValleys_X0 hown hK.1 hP 0 rfl rfl 5 (by decide) (hts (.fieldLink RX0 49 "TextEnds$EndSorter" "valleyNumber" "[I") (List.mem_of_getElem? (i := 3) rfl)) (fun _ h9 => h9) rfl dX0_findValleys_40 ?_
            refine lv_iload_n hx hb dX0_findValleys_43 rfl (lv_at hl 2 rfl) ?_
            refine lv_iload_n hx hb dX0_findValleys_44 rfl (lv_at hl 0 rfl) ?_
            refine z_if_eq (tgt := 55) hx hb dX0_findValleys_45 (by decide) (by omega) (fun h_6 => ?_) (fun h_6 => ?_)
            · skip
              refine lv_iconst (v := zI (-1)) hx hb dX0_findValleys_55 (by first | rfl | decide) ?_
              refine z_iast hx hb hK.1 hP hD hS 3 0 rfl rfl dX0_findValleys_56 (by omega) (by omega) (by omega) (fun H locs hP hD hS => ?_)
              have hP : va_P D vwCl [(a 0, .inr (0, so a ts lp len sg vcq)), (a 4, .inl (cZ, nr, .inl (zA (zB rs)))), (a 5, .inl (cI, nV, .inl (zA vlq))), (a 6, .inl (cI, nM, .inl (zA (zup vnq i (-1)))))] H := hP
              have hD : va_D A [(a 0, .inr (0, so a ts lp len sg vcq)), (a 4, .inl (cZ, nr, .inl (zA (zB rs)))), (a 5, .inl (cI, nV, .inl (zA vlq))), (a 6, .inl (cI, nM, .inl (zA (zup vnq i (-1)))))] := hD
              refine lv_iload_n hx hb dX0_findValleys_57 rfl (lv_at hl 0 rfl) ?_
              refine z_if_eq (tgt := 83) hx hb dX0_findValleys_58 (by decide) (by omega) (fun h_7 => ?_) (fun h_7 => ?_)
              · skip
                refine lv_iinc (v := zI (i + 1)) (lv' := [(1, .int (zI (i + 1))), (2, .int (zI 0)), (0, .ref (a 0))]) hx hb dX0_findValleys_83 hl (k := 2) rfl (zI_add _ _) (by decide) rfl (fun ls hl => ?_)
                refine lv_goto (tgt := 7) hx hb dX0_findValleys_86 (by decide) ?_
                exact ih7 (i + 1) vlq (zup vnq i (-1)) vcq _ _ ls (by omega) (by omega) (by omega) (by first | exact stV_t hq h0 (zvl_t (by with_reducible assumption) (by with_reducible assumption)) | exact stV_f hq h0 (zvl_f1 (by with_reducible assumption)) | exact stV_f hq h0 (zvl_f2 (by with_reducible assumption))) (by omega) (hP) (hD) hS (lv_sub hl [2, 0] rfl)
              · skip
                exact absurd h_7 (by decide)
            · skip
              exact absurd h_6 (by decide)
          · skip
            refine lv_iconst (v := zI 1) hx hb dX0_findValleys_33 (by first | rfl | decide) ?_
            refine lv_goto (tgt := 38) hx hb dX0_findValleys_34 (by decide) ?_
            refine lv_istore_n (lv' := [(2, .int (zI 1)), (0, .ref (a 0)), (1, .int (zI i))]) hx hb dX0_findValleys_38 rfl hl (by decide) rfl (fun ls hl => ?_)
            refine lv_aload_n hx hb dX0_findValleys_39 rfl (lv_at hl 1 rfl) ?_
            refine va_get (D := D) (ci := 0) (v := .ref (a 6)) (C := RX0) (T := TX0) (N := 15) hx hb hts inX0_findValleys_X0 hown hK.1 hP 0 rfl rfl 5 (by decide) (hts (.fieldLink RX0 49 "TextEnds$EndSorter" "valleyNumber" "[I") (List.mem_of_getElem? (i := 3) rfl)) (fun _ h9 => h9) rfl dX0_findValleys_40 ?_
            refine lv_iload_n hx hb dX0_findValleys_43 rfl (lv_at hl 2 rfl) ?_
            refine lv_iload_n hx hb dX0_findValleys_44 rfl (lv_at hl 0 rfl) ?_
            refine z_if_eq (tgt := 55) hx hb dX0_findValleys_45 (by decide) (by omega) (fun h_8 => ?_) (fun h_8 => ?_)
            · skip
              exact absurd h_8 (by decide)
            · skip
              refine lv_aload_n hx hb dX0_findValleys_48 rfl (lv_at hl 1 rfl) ?_
              refine va_get (D := D) (ci := 0) (v := .int (zI vcq)) (C := RX0) (T := TX0) (N := 15) hx hb hts inX0_findValleys_X0 hown hK.1 hP 0 rfl rfl 14 (by decide) (hts (.fieldLink RX0 97 "TextEnds$EndSorter" "valleyCount" "I") (List.mem_of_getElem? (i := 1) rfl)) (fun _ h9 => h9) rfl dX0_findValleys_49 ?_
              refine lv_goto (tgt := 56) hx hb dX0_findValleys_52 (by decide) ?_
              refine z_iast hx hb hK.1 hP hD hS 3 0 rfl rfl dX0_findValleys_56 (by omega) (by omega) (by omega) (fun H locs hP hD hS => ?_)
              have hP : va_P D vwCl [(a 0, .inr (0, so a ts lp len sg vcq)), (a 4, .inl (cZ, nr, .inl (zA (zB rs)))), (a 5, .inl (cI, nV, .inl (zA vlq))), (a 6, .inl (cI, nM, .inl (zA (zup vnq i vcq))))] H := hP
              have hD : va_D A [(a 0, .inr (0, so a ts lp len sg vcq)), (a 4, .inl (cZ, nr, .inl (zA (zB rs)))), (a 5, .inl (cI, nV, .inl (zA vlq))), (a 6, .inl (cI, nM, .inl (zA (zup vnq i vcq))))] := hD
              refine lv_iload_n hx hb dX0_findValleys_57 rfl (lv_at hl 0 rfl) ?_
              refine z_if_eq (tgt := 83) hx hb dX0_findValleys_58 (by decide) (by omega) (fun h_9 => ?_) (fun h_9 => ?_)
              · skip
                exact absurd h_9 (by decide)
              · skip
                refine lv_aload_n hx hb dX0_findValleys_61 rfl (lv_at hl 1 rfl) ?_
                refine va_get (D := D) (ci := 0) (v := .ref (a 5)) (C := RX0) (T := TX0) (N := 15) hx hb hts inX0_findValleys_X0 hown hK.1 hP 0 rfl rfl 4 (by decide) (hts (.fieldLink RX0 52 "TextEnds$EndSorter" "valleys" "[I") (List.mem_of_getElem? (i := 4) rfl)) (fun _ h9 => h9) rfl dX0_findValleys_62 ?_
                refine lv_aload_n hx hb dX0_findValleys_65 rfl (lv_at hl 1 rfl) ?_
                refine va_get (D := D) (ci := 0) (v := .int (zI vcq)) (C := RX0) (T := TX0) (N := 15) hx hb hts inX0_findValleys_X0 hown hK.1 hP 0 rfl rfl 14 (by decide) (hts (.fieldLink RX0 97 "TextEnds$EndSorter" "valleyCount" "I") (List.mem_of_getElem? (i := 1) rfl)) (fun _ h9 => h9) rfl dX0_findValleys_66 ?_
                refine lv_iload_n hx hb dX0_findValleys_69 rfl (lv_at hl 2 rfl) ?_
                refine z_cw (wc := [(a 5, .inl (cI, nV, .inl (zA vlq)))]) (wr := [(a 0, .inr (0, so a ts lp len sg vcq)), (a 4, .inl (cZ, nr, .inl (zA (zB rs)))), (a 6, .inl (cI, nM, .inl (zA (zup vnq i vcq))))]) (Wt := (fun _ : Unit => [(a 0, .inr (0, so a ts lp len sg vcq)), (a 4, .inl (cZ, nr, .inl (zA (zB rs)))), (a 5, .inl (cI, nV, .inl (zA (zput nV vlq vcq i)))), (a 6, .inl (cI, nM, .inl (zA (zup vnq i vcq))))])) [2] [0, 1, 3] [0, 1, 3, 2] hP hD hS hA rfl rfl (by decide) (by decide) (by decide) (by decide) (fun _ => rfl) (fun _ => rfl) (fun hPc hDc => va_runSN (As := [.ref (a 5), .int (zI vcq), .int (zI i)]) (rest := []) ⟨hx, hb, hml, hown, hts⟩ (kX2_put l D cI cZ cL (a 5) nV vlq vcq i _ (by omega) (by omega)) ⟨va_cnB 3 hts gX0_findValleys_X2_put_n127 rfl rfl rfl hK.2.1 (hts (.initialized RX2) (List.mem_of_getElem? (i := 16) rfl)) (by decide +kernel) ⟨Nat.le_of_ble_eq_true rfl, Nat.le_of_ble_eq_true rfl⟩, hts (.static yX2_put) (List.mem_of_getElem? (i := 15) rfl), trivial⟩ (zPw_pre hK hPc hDc) rfl rfl hl.1 rfl (lv_room (Nat.le_of_ble_eq_true rfl)) dX0_findValleys_70 ⟨Nat.zero_le _, Nat.zero_le _⟩) rfl (fun u H locs hp_ hP hD hS => ?_)
                have hP : va_P D vwCl [(a 0, .inr (0, so a ts lp len sg vcq)), (a 4, .inl (cZ, nr, .inl (zA (zB rs)))), (a 5, .inl (cI, nV, .inl (zA (zput nV vlq vcq i)))), (a 6, .inl (cI, nM, .inl (zA (zup vnq i vcq))))] H := hP
                have hD : va_D A [(a 0, .inr (0, so a ts lp len sg vcq)), (a 4, .inl (cZ, nr, .inl (zA (zB rs)))), (a 5, .inl (cI, nV, .inl (zA (zput nV vlq vcq i)))), (a 6, .inl (cI, nM, .inl (zA (zup vnq i vcq))))] := hD
                refine lv_aload_n hx hb dX0_findValleys_73 rfl (lv_at hl 1 rfl) ?_
                refine lv_dup hx hb dX0_findValleys_74 rfl ?_
                refine va_get (D := D) (ci := 0) (v := .int (zI vcq)) (C := RX0) (T := TX0) (N := 15) hx hb hts inX0_findValleys_X0 hown hK.1 hP 0 rfl rfl 14 (by decide) (hts (.fieldLink RX0 97 "TextEnds$EndSorter" "valleyCount" "I") (List.mem_of_getElem? (i := 1) rfl)) (fun _ h9 => h9) rfl dX0_findValleys_75 ?_
                refine lv_iconst (v := zI 1) hx hb dX0_findValleys_78 (by first | rfl | decide) ?_
                refine z_iadd hx hb dX0_findValleys_79 ?_
                refine va_put (D := D) (ci := 0) (v := .int (zI (vcq + 1))) (ty := .int) (C := RX0) (T := TX0) (N := 15) hx hb hts inX0_findValleys_X0 tyX0 tyX0_ok nmX0 hown hK.1 hP hD hS 0 rfl rfl 14 (by decide) (hts (.fieldLink RX0 97 "TextEnds$EndSorter" "valleyCount" "I") (List.mem_of_getElem? (i := 1) rfl)) (fun _ h9 => h9) rfl (by decide +kernel) rfl rfl (Nat.le_of_ble_eq_true rfl) dX0_findValleys_80 (fun H locs hP hD hS => ?_)
                have hP : va_P D vwCl [(a 0, .inr (0, so a ts lp len sg (vcq + 1))), (a 4, .inl (cZ, nr, .inl (zA (zB rs)))), (a 5, .inl (cI, nV, .inl (zA (zput nV vlq vcq i)))), (a 6, .inl (cI, nM, .inl (zA (zup vnq i vcq))))] H := hP
                have hD : va_D A [(a 0, .inr (0, so a ts lp len sg (vcq + 1))), (a 4, .inl (cZ, nr, .inl (zA (zB rs)))), (a 5, .inl (cI, nV, .inl (zA (zput nV vlq vcq i)))), (a 6, .inl (cI, nM, .inl (zA (zup vnq i vcq))))] := hD
                refine lv_iinc (v := zI (i + 1)) (lv' := [(1, .int (zI (i + 1))), (2, .int (zI 1)), (0, .ref (a 0))]) hx hb dX0_findValleys_83 hl (k := 2) rfl (zI_add _ _) (by decide) rfl (fun ls hl => ?_)
                refine lv_goto (tgt := 7) hx hb dX0_findValleys_86 (by decide) ?_
                exact ih7 (i + 1) (zput nV vlq vcq i) (zup vnq i vcq) (vcq + 1) _ _ ls (by omega) (by omega) (by omega) (by first | exact stV_t hq h0 (zvl_t (by with_reducible assumption) (by with_reducible assumption)) | exact stV_f hq h0 (zvl_f1 (by with_reducible assumption)) | exact stV_f hq h0 (zvl_f2 (by with_reducible assumption))) (by omega) (hP) (hD) hS (lv_sub hl [2, 0] rfl)
  exact loop7 _ 0 vl vn 0 _ _ ls (by omega) (by omega) (by omega) (rfl) (Nat.lt_succ_self _) hP hD hS (lv_sub hl [1, 0] rfl)
set_option maxHeartbeats 4000000 in
set_option maxRecDepth 100000 in
/-- findBuckets() -/
theorem kX0_findBuckets (l : Launch) (D : va_G) (cI cZ cL : ClassId) (a : Nat → Nat) (ts : Int) (lp : Nat) (len sg vc : Int) (nl nr nF nR : Nat) (lt : Int → Int) (rs : Int → Bool) (ff rf : Int → Int) (szz : Nat) (hlen : 0 ≤ len) (hnl : len ≤ (nl : Int)) (bnl : (nl : Int) < 1073741824) (hlr : len ≤ (nr : Int)) (hsg : 0 ≤ sg) (hsF : sg + 1 ≤ (nF : Int)) (hsR : sg ≤ (nR : Int)) (bnr : (nr : Int) < 1073741824) (bnF : (nF : Int) < 1073741824) (bnR : (nR : Int) < 1073741824) (hlt : zS lt) : Met l yX0_findBuckets wsX0_findBuckets ({ frames := 1, cells := 0, slots := 0, locals := 22 }) (zPw D cI cZ cL szz [.ref (a 0)] [(a 0, .inr (0, so a ts lp len sg vc)), (lp, .inl (cI, nl, .inl (zA lt))), (a 4, .inl (cZ, nr, .inl (zA (zB rs)))), (a 8, .inl (cI, nF, .inl (zA ff))), (a 9, .inl (cI, nR, .inl (zA rf)))]) (zQw D (va_A [(a 0, .inr (0, so a ts lp len sg vc)), (lp, .inl (cI, nl, .inl (zA lt))), (a 4, .inl (cZ, nr, .inl (zA (zB rs)))), (a 8, .inl (cI, nF, .inl (zA ff))), (a 9, .inl (cI, nR, .inl (zA rf)))] szz) (fun _ : Unit => True) (fun _ : Unit => [(a 0, .inr (0, so a ts lp len sg vc)), (lp, .inl (cI, nl, .inl (zA lt))), (a 4, .inl (cZ, nr, .inl (zA (zB rs)))), (a 8, .inl (cI, nF, .inl (zA (zup (fbB nF nR len sg lt rs ff rf).2.1 sg (fbB nF nR len sg lt rs ff rf).1)))), (a 9, .inl (cI, nR, .inl (zA ((fbB nF nR len sg lt rs ff rf).2.2))))])) 0 0 (va_A [(a 0, .inr (0, so a ts lp len sg vc)), (lp, .inl (cI, nl, .inl (zA lt))), (a 4, .inl (cZ, nr, .inl (zA (zB rs)))), (a 8, .inl (cI, nF, .inl (zA ff))), (a 9, .inl (cI, nR, .inl (zA rf)))] szz) := by
  refine Met.ofW (cc := cX0_findBuckets) (maxL := 5) (ret := none) (by decide) rfl ?_
  intro p e s m args below meth c s₁ B hml hv
  obtain ⟨rfl, hsz, hP, hK, hD0⟩ := hv
  have hx := B.exec
  have hb := B.bytes
  have hr := B.returns
  have hts := atoms_spec (ws := wsX0_findBuckets) B.pre
  have hown : s.vm.findClass RX0 = some m.cls := findClass_of_methodNamed B.named
  have hlocks := B.notSynchronized
  subst hsz
  have hD := hD0.self (sz := s.heap.size)
  generalize hAe : va_A [(a 0, .inr (0, so a ts lp len sg vc)), (lp, .inl (cI, nl, .inl (zA lt))), (a 4, .inl (cZ, nr, .inl (zA (zB rs)))), (a 8, .inl (cI, nF, .inl (zA ff))), (a 9, .inl (cI, nR, .inl (zA rf)))] s.heap.size = A at hD ⊢
  have hA : ∀ q : Nat, s.heap.size ≤ q → A q := fun q h => by rw [← hAe]; exact Or.inr h
  have hS : va_S A s.heap s.heap [] := va_S.rf
  clear hD0
  have hP : va_P D vwCl [(a 0, .inr (0, so a ts lp len sg vc)), (lp, .inl (cI, nl, .inl (zA lt))), (a 4, .inl (cZ, nr, .inl (zA (zB rs)))), (a 8, .inl (cI, nF, .inl (zA ff))), (a 9, .inl (cI, nR, .inl (zA rf)))] s.heap := hP
  have hl := lv_entry ([.ref (a 0)]) (n := 5) (Nat.le_of_ble_eq_true rfl)
  rw [lg_entry_eq]
  generalize (lg_sl ([.ref (a 0)]) ++ List.replicate (5 - (lg_sl ([.ref (a 0)])).length) Slot.unset).toArray = ls at hl ⊢
  have hl : lv_has ls 5 [(0, .ref (a 0))] := hl
  refine lv_iconst (v := zI 0) hx hb dX0_findBuckets_0 (by first | rfl | decide) ?_
  refine lv_istore_n (lv' := [(1, .int (zI 0)), (0, .ref (a 0))]) hx hb dX0_findBuckets_1 rfl hl (by decide) rfl (fun ls hl => ?_)
  have loop2 : ∀ (nn : Nat) (k : Int) (fA : Int → Int) (rA : Int → Int) (H : Heap) (locs : List Loc) (ls : Array Slot), (0 ≤ k) → (k ≤ sg) → (fA = zfill 0 k (fun _ => 0) ff) → (rA = zfill 0 k (fun _ => 0) rf) → ((sg - k).toNat) < nn → va_P D vwCl [(a 0, .inr (0, so a ts lp len sg vc)), (lp, .inl (cI, nl, .inl (zA lt))), (a 4, .inl (cZ, nr, .inl (zA (zB rs)))), (a 8, .inl (cI, nF, .inl (zA fA))), (a 9, .inl (cI, nR, .inl (zA rA)))] H → va_D A [(a 0, .inr (0, so a ts lp len sg vc)), (lp, .inl (cI, nl, .inl (zA lt))), (a 4, .inl (cZ, nr, .inl (zA (zB rs)))), (a 8, .inl (cI, nF, .inl (zA fA))), (a 9, .inl (cI, nR, .inl (zA rA)))] → va_S A s.heap H locs → lv_has ls 5 [(0, .ref (a 0)), (1, .int (zI k))] → W p l e (headSpec wsX0_findBuckets ({ frames := 1, cells := 0, slots := 0, locals := 22 })).room s m ([.ref (a 0)] : List Value).toArray below meth c H locs 0 0 (MQ below (zQw D A (fun _ : Unit => True) (fun _ : Unit => [(a 0, .inr (0, so a ts lp len sg vc)), (lp, .inl (cI, nl, .inl (zA lt))), (a 4, .inl (cZ, nr, .inl (zA (zB rs)))), (a 8, .inl (cI, nF, .inl (zA (zup (fbB nF nR len sg lt rs ff rf).2.1 sg (fbB nF nR len sg lt rs ff rf).1)))), (a 9, .inl (cI, nR, .inl (zA ((fbB nF nR len sg lt rs ff rf).2.2))))])) ([.ref (a 0)] : List Value).toArray s 0 0 A) (F0 m 2 ls []) := by
    intro nn
    induction nn with
    | zero =>
      intros
      exact absurd (by assumption : _ < 0) (Nat.not_lt_zero _)
    | succ nn ih2 =>
      intro k fA rA H locs ls h0 h1 hfA hrA hmu hP hD hS hl
      refine lv_iload_n hx hb dX0_findBuckets_2 rfl (lv_at hl 1 rfl) ?_
      refine lv_aload_n hx hb dX0_findBuckets_3 rfl (lv_at hl 0 rfl) ?_
      refine va_get (D := D) (ci := 0) (v := .int (zI sg)) (C := RX0) (T := TX0) (N := 15) hx hb hts inX0_findBuckets_X0 hown hK.1 hP 0 rfl rfl 13 (by decide) (hts (.fieldLink RX0 107 "TextEnds$EndSorter" "sigma" "I") (List.mem_of_getElem? (i := 1) rfl)) (fun _ h9 => h9) rfl dX0_findBuckets_4 ?_
      refine z_icmp_ge (tgt := 30) hx hb dX0_findBuckets_7 (by decide) (by omega) (by omega) (fun h_1 => ?_) (fun h_1 => ?_)
      · skip
        refine lv_iconst (v := zI 0) hx hb dX0_findBuckets_30 (by first | rfl | decide) ?_
        refine lv_istore_n (lv' := [(1, .int (zI 0)), (0, .ref (a 0))]) hx hb dX0_findBuckets_31 rfl hl (by decide) rfl (fun ls hl => ?_)
        have loop32 : ∀ (nn : Nat) (i : Int) (fC : Int → Int) (rC : Int → Int) (H : Heap) (locs : List Loc) (ls : Array Slot), (0 ≤ i) → (i ≤ len) → ((fC, rC) = zit (stC nF nR len lt rs) i.toNat (zfill 0 sg (fun _ => 0) ff, zfill 0 sg (fun _ => 0) rf)) → ((len - i).toNat) < nn → va_P D vwCl [(a 0, .inr (0, so a ts lp len sg vc)), (lp, .inl (cI, nl, .inl (zA lt))), (a 4, .inl (cZ, nr, .inl (zA (zB rs)))), (a 8, .inl (cI, nF, .inl (zA fC))), (a 9, .inl (cI, nR, .inl (zA rC)))] H → va_D A [(a 0, .inr (0, so a ts lp len sg vc)), (lp, .inl (cI, nl, .inl (zA lt))), (a 4, .inl (cZ, nr, .inl (zA (zB rs)))), (a 8, .inl (cI, nF, .inl (zA fC))), (a 9, .inl (cI, nR, .inl (zA rC)))] → va_S A s.heap H locs → lv_has ls 5 [(0, .ref (a 0)), (1, .int (zI i))] → W p l e (headSpec wsX0_findBuckets ({ frames := 1, cells := 0, slots := 0, locals := 22 })).room s m ([.ref (a 0)] : List Value).toArray below meth c H locs 0 0 (MQ below (zQw D A (fun _ : Unit => True) (fun _ : Unit => [(a 0, .inr (0, so a ts lp len sg vc)), (lp, .inl (cI, nl, .inl (zA lt))), (a 4, .inl (cZ, nr, .inl (zA (zB rs)))), (a 8, .inl (cI, nF, .inl (zA (zup (fbB nF nR len sg lt rs ff rf).2.1 sg (fbB nF nR len sg lt rs ff rf).1)))), (a 9, .inl (cI, nR, .inl (zA ((fbB nF nR len sg lt rs ff rf).2.2))))])) ([.ref (a 0)] : List Value).toArray s 0 0 A) (F0 m 32 ls []) := by
          intro nn
          induction nn with
          | zero =>
            intros
            exact absurd (by assumption : _ < 0) (Nat.not_lt_zero _)
          | succ nn ih32 =>
            intro i fC rC H locs ls g0 g1 hqC hmu hP hD hS hl
            refine lv_iload_n hx hb dX0_findBuckets_32 rfl (lv_at hl 1 rfl) ?_
            refine lv_aload_n hx hb dX0_findBuckets_33 rfl (lv_at hl 0 rfl) ?_
            refine va_get (D := D) (ci := 0) (v := .int (zI len)) (C := RX0) (T := TX0) (N := 15) hx hb hts inX0_findBuckets_X0 hown hK.1 hP 0 rfl rfl 12 (by decide) (hts (.fieldLink RX0 103 "TextEnds$EndSorter" "length" "I") (List.mem_of_getElem? (i := 4) rfl)) (fun _ h9 => h9) rfl dX0_findBuckets_34 ?_
            refine z_icmp_ge (tgt := 85) hx hb dX0_findBuckets_37 (by decide) (by omega) (by omega) (fun h_2 => ?_) (fun h_2 => ?_)
            · skip
              refine lv_iconst (v := zI 0) hx hb dX0_findBuckets_85 (by first | rfl | decide) ?_
              refine lv_istore_n (lv' := [(1, .int (zI 0)), (0, .ref (a 0))]) hx hb dX0_findBuckets_86 rfl hl (by decide) rfl (fun ls hl => ?_)
              refine lv_iconst (v := zI 0) hx hb dX0_findBuckets_87 (by first | rfl | decide) ?_
              refine lv_istore_n (lv' := [(2, .int (zI 0)), (1, .int (zI 0)), (0, .ref (a 0))]) hx hb dX0_findBuckets_88 rfl hl (by decide) rfl (fun ls hl => ?_)
              have loop89 : ∀ (nn : Nat) (sl : Int) (j : Int) (fB : Int → Int) (rB : Int → Int) (H : Heap) (locs : List Loc) (ls : Array Slot), (0 ≤ j) → (j ≤ sg) → ((sl, fB, rB) = zit stB j.toNat (0, (fbC nF nR len sg lt rs ff rf).1, (fbC nF nR len sg lt rs ff rf).2)) → ((sg - j).toNat) < nn → va_P D vwCl [(a 0, .inr (0, so a ts lp len sg vc)), (lp, .inl (cI, nl, .inl (zA lt))), (a 4, .inl (cZ, nr, .inl (zA (zB rs)))), (a 8, .inl (cI, nF, .inl (zA fB))), (a 9, .inl (cI, nR, .inl (zA rB)))] H → va_D A [(a 0, .inr (0, so a ts lp len sg vc)), (lp, .inl (cI, nl, .inl (zA lt))), (a 4, .inl (cZ, nr, .inl (zA (zB rs)))), (a 8, .inl (cI, nF, .inl (zA fB))), (a 9, .inl (cI, nR, .inl (zA rB)))] → va_S A s.heap H locs → lv_has ls 5 [(0, .ref (a 0)), (1, .int (zI sl)), (2, .int (zI j))] → W p l e (headSpec wsX0_findBuckets ({ frames := 1, cells := 0, slots := 0, locals := 22 })).room s m ([.ref (a 0)] : List Value).toArray below meth c H locs 0 0 (MQ below (zQw D A (fun _ : Unit => True) (fun _ : Unit => [(a 0, .inr (0, so a ts lp len sg vc)), (lp, .inl (cI, nl, .inl (zA lt))), (a 4, .inl (cZ, nr, .inl (zA (zB rs)))), (a 8, .inl (cI, nF, .inl (zA (zup (fbB nF nR len sg lt rs ff rf).2.1 sg (fbB nF nR len sg lt rs ff rf).1)))), (a 9, .inl (cI, nR, .inl (zA ((fbB nF nR len sg lt rs ff rf).2.2))))])) ([.ref (a 0)] : List Value).toArray s 0 0 A) (F0 m 89 ls []) := by
                intro nn
                induction nn with
                | zero =>
                  intros
                  exact absurd (by assumption : _ < 0) (Nat.not_lt_zero _)
                | succ nn ih89 =>
                  intro sl j fB rB H locs ls f0 f1 hqB hmu hP hD hS hl
                  refine lv_iload_n hx hb dX0_findBuckets_89 rfl (lv_at hl 2 rfl) ?_
                  refine lv_aload_n hx hb dX0_findBuckets_90 rfl (lv_at hl 0 rfl) ?_
                  refine va_get (D := D) (ci := 0) (v := .int (zI sg)) (C := RX0) (T := TX0) (N := 15) hx hb hts inX0_findBuckets_X0 hown hK.1 hP 0 rfl rfl 13 (by decide) (hts (.fieldLink RX0 107 "TextEnds$EndSorter" "sigma" "I") (List.mem_of_getElem? (i := 1) rfl)) (fun _ h9 => h9) rfl dX0_findBuckets_91 ?_
                  refine z_icmp_ge (tgt := 139) hx hb dX0_findBuckets_94 (by decide) (by omega) (by omega) (fun h_3 => ?_) (fun h_3 => ?_)
                  · skip
                    refine lv_aload_n hx hb dX0_findBuckets_139 rfl (lv_at hl 0 rfl) ?_
                    refine va_get (D := D) (ci := 0) (v := .ref (a 8)) (C := RX0) (T := TX0) (N := 15) hx hb hts inX0_findBuckets_X0 hown hK.1 hP 0 rfl rfl 7 (by decide) (hts (.fieldLink RX0 58 "TextEnds$EndSorter" "fallingFrom" "[I") (List.mem_of_getElem? (i := 2) rfl)) (fun _ h9 => h9) rfl dX0_findBuckets_140 ?_
                    refine lv_aload_n hx hb dX0_findBuckets_143 rfl (lv_at hl 0 rfl) ?_
                    refine va_get (D := D) (ci := 0) (v := .int (zI sg)) (C := RX0) (T := TX0) (N := 15) hx hb hts inX0_findBuckets_X0 hown hK.1 hP 0 rfl rfl 13 (by decide) (hts (.fieldLink RX0 107 "TextEnds$EndSorter" "sigma" "I") (List.mem_of_getElem? (i := 1) rfl)) (fun _ h9 => h9) rfl dX0_findBuckets_144 ?_
                    refine lv_iload_n hx hb dX0_findBuckets_147 rfl (lv_at hl 1 rfl) ?_
                    refine z_iast hx hb hK.1 hP hD hS 3 0 rfl rfl dX0_findBuckets_148 (by omega) (by omega) (by omega) (fun H locs hP hD hS => ?_)
                    have hP : va_P D vwCl [(a 0, .inr (0, so a ts lp len sg vc)), (lp, .inl (cI, nl, .inl (zA lt))), (a 4, .inl (cZ, nr, .inl (zA (zB rs)))), (a 8, .inl (cI, nF, .inl (zA (zup fB sg sl)))), (a 9, .inl (cI, nR, .inl (zA rB)))] H := hP
                    have hD : va_D A [(a 0, .inr (0, so a ts lp len sg vc)), (lp, .inl (cI, nl, .inl (zA lt))), (a 4, .inl (cZ, nr, .inl (zA (zB rs)))), (a 8, .inl (cI, nF, .inl (zA (zup fB sg sl)))), (a 9, .inl (cI, nR, .inl (zA rB)))] := hD
                    rw [show j = sg by omega] at hqB
                    have hwe : (zup fB sg sl) = (zup (fbB nF nR len sg lt rs ff rf).2.1 sg (fbB nF nR len sg lt rs ff rf).1) := by rw [fbB, ← hqB]
                    rw [hwe] at hP hD
                    clear hwe
                    have hwe : rB = ((fbB nF nR len sg lt rs ff rf).2.2) := by rw [fbB, ← hqB]
                    rw [hwe] at hP hD
                    clear hwe
                    exact W.vret hx hb hr (fun t ht_ hW_ => ⟨⟨(), rfl, trivial, by rw [ht_]; exact hP, hD⟩, hS.F ht_⟩) hS.2.2 dX0_findBuckets_149
                  · skip
                    refine lv_iload_n hx hb dX0_findBuckets_97 rfl (lv_at hl 1 rfl) ?_
                    refine lv_aload_n hx hb dX0_findBuckets_98 rfl (lv_at hl 0 rfl) ?_
                    refine va_get (D := D) (ci := 0) (v := .ref (a 8)) (C := RX0) (T := TX0) (N := 15) hx hb hts inX0_findBuckets_X0 hown hK.1 hP 0 rfl rfl 7 (by decide) (hts (.fieldLink RX0 58 "TextEnds$EndSorter" "fallingFrom" "[I") (List.mem_of_getElem? (i := 2) rfl)) (fun _ h9 => h9) rfl dX0_findBuckets_99 ?_
                    refine lv_iload_n hx hb dX0_findBuckets_102 rfl (lv_at hl 2 rfl) ?_
                    refine z_iald hx hb hK.1 hP 3 0 rfl rfl dX0_findBuckets_103 (by omega) (by omega) (by omega) ?_
                    refine z_iadd hx hb dX0_findBuckets_104 ?_
                    refine lv_istore_n (lv' := [(3, .int (zI (sl + (fB j)))), (0, .ref (a 0)), (1, .int (zI sl)), (2, .int (zI j))]) hx hb dX0_findBuckets_105 rfl hl (by decide) rfl (fun ls hl => ?_)
                    refine lv_iload_n hx hb dX0_findBuckets_106 rfl (lv_at hl 0 rfl) ?_
                    refine lv_aload_n hx hb dX0_findBuckets_107 rfl (lv_at hl 1 rfl) ?_
                    refine va_get (D := D) (ci := 0) (v := .ref (a 9)) (C := RX0) (T := TX0) (N := 15) hx hb hts inX0_findBuckets_X0 hown hK.1 hP 0 rfl rfl 8 (by decide) (hts (.fieldLink RX0 61 "TextEnds$EndSorter" "risingFrom" "[I") (List.mem_of_getElem? (i := 3) rfl)) (fun _ h9 => h9) rfl dX0_findBuckets_108 ?_
                    refine lv_iload_n hx hb dX0_findBuckets_111 rfl (lv_at hl 3 rfl) ?_
                    refine z_iald hx hb hK.1 hP 4 0 rfl rfl dX0_findBuckets_112 (by omega) (by omega) (by omega) ?_
                    refine z_iadd hx hb dX0_findBuckets_113 ?_
                    refine lv_istore (lv' := [(4, .int (zI ((sl + (fB j)) + (rB j)))), (3, .int (zI (sl + (fB j)))), (0, .ref (a 0)), (1, .int (zI sl)), (2, .int (zI j))]) hx hb dX0_findBuckets_114 hl (by decide) rfl (fun ls hl => ?_)
                    refine lv_aload_n hx hb dX0_findBuckets_116 rfl (lv_at hl 2 rfl) ?_
                    refine va_get (D := D) (ci := 0) (v := .ref (a 8)) (C := RX0) (T := TX0) (N := 15) hx hb hts inX0_findBuckets_X0 hown hK.1 hP 0 rfl rfl 7 (by decide) (hts (.fieldLink RX0 58 "TextEnds$EndSorter" "fallingFrom" "[I") (List.mem_of_getElem? (i := 2) rfl)) (fun _ h9 => h9) rfl dX0_findBuckets_117 ?_
                    refine lv_iload_n hx hb dX0_findBuckets_120 rfl (lv_at hl 4 rfl) ?_
                    refine lv_iload_n hx hb dX0_findBuckets_121 rfl (lv_at hl 3 rfl) ?_
                    refine z_iast hx hb hK.1 hP hD hS 3 0 rfl rfl dX0_findBuckets_122 (by omega) (by omega) (by omega) (fun H locs hP hD hS => ?_)
                    have hP : va_P D vwCl [(a 0, .inr (0, so a ts lp len sg vc)), (lp, .inl (cI, nl, .inl (zA lt))), (a 4, .inl (cZ, nr, .inl (zA (zB rs)))), (a 8, .inl (cI, nF, .inl (zA (zup fB j sl)))), (a 9, .inl (cI, nR, .inl (zA rB)))] H := hP
                    have hD : va_D A [(a 0, .inr (0, so a ts lp len sg vc)), (lp, .inl (cI, nl, .inl (zA lt))), (a 4, .inl (cZ, nr, .inl (zA (zB rs)))), (a 8, .inl (cI, nF, .inl (zA (zup fB j sl)))), (a 9, .inl (cI, nR, .inl (zA rB)))] := hD
                    refine lv_aload_n hx hb dX0_findBuckets_123 rfl (lv_at hl 2 rfl) ?_
                    refine va_get (D := D) (ci := 0) (v := .ref (a 9)) (C := RX0) (T := TX0) (N := 15) hx hb hts inX0_findBuckets_X0 hown hK.1 hP 0 rfl rfl 8 (by decide) (hts (.fieldLink RX0 61 "TextEnds$EndSorter" "risingFrom" "[I") (List.mem_of_getElem? (i := 3) rfl)) (fun _ h9 => h9) rfl dX0_findBuckets_124 ?_
                    refine lv_iload_n hx hb dX0_findBuckets_127 rfl (lv_at hl 4 rfl) ?_
                    refine lv_iload_n hx hb dX0_findBuckets_128 rfl (lv_at hl 1 rfl) ?_
                    refine z_iast hx hb hK.1 hP hD hS 4 0 rfl rfl dX0_findBuckets_129 (by omega) (by omega) (by omega) (fun H locs hP hD hS => ?_)
                    have hP : va_P D vwCl [(a 0, .inr (0, so a ts lp len sg vc)), (lp, .inl (cI, nl, .inl (zA lt))), (a 4, .inl (cZ, nr, .inl (zA (zB rs)))), (a 8, .inl (cI, nF, .inl (zA (zup fB j sl)))), (a 9, .inl (cI, nR, .inl (zA (zup rB j (sl + (fB j))))))] H := hP
                    have hD : va_D A [(a 0, .inr (0, so a ts lp len sg vc)), (lp, .inl (cI, nl, .inl (zA lt))), (a 4, .inl (cZ, nr, .inl (zA (zB rs)))), (a 8, .inl (cI, nF, .inl (zA (zup fB j sl)))), (a 9, .inl (cI, nR, .inl (zA (zup rB j (sl + (fB j))))))] := hD
                    refine lv_iload hx hb dX0_findBuckets_130 (lv_at hl 0 rfl) ?_
                    refine lv_istore_n (lv' := [(1, .int (zI ((sl + (fB j)) + (rB j)))), (4, .int (zI ((sl + (fB j)) + (rB j)))), (3, .int (zI (sl + (fB j)))), (0, .ref (a 0)), (2, .int (zI j))]) hx hb dX0_findBuckets_132 rfl hl (by decide) rfl (fun ls hl => ?_)
                    refine lv_iinc (v := zI (j + 1)) (lv' := [(2, .int (zI (j + 1))), (1, .int (zI ((sl + (fB j)) + (rB j)))), (4, .int (zI ((sl + (fB j)) + (rB j)))), (3, .int (zI (sl + (fB j)))), (0, .ref (a 0))]) hx hb dX0_findBuckets_133 hl (k := 4) rfl (zI_add _ _) (by decide) rfl (fun ls hl => ?_)
                    refine lv_goto (tgt := 89) hx hb dX0_findBuckets_136 (by decide) ?_
                    exact ih89 ((sl + (fB j)) + (rB j)) (j + 1) (zup fB j sl) (zup rB j (sl + (fB j))) _ _ ls (by omega) (by omega) (stB_s hqB f0) (by omega) (hP) (hD) hS (lv_sub hl [4, 1, 0] rfl)
              exact loop89 _ 0 0 fC rC _ _ ls (by omega) (by omega) (by rw [show i = len by omega] at hqC; rw [fbC, ← hqC]; rfl) (Nat.lt_succ_self _) hP hD hS (lv_sub hl [2, 1, 0] rfl)
            · skip
              refine lv_aload_n hx hb dX0_findBuckets_40 rfl (lv_at hl 0 rfl) ?_
              refine va_get (D := D) (ci := 0) (v := .ref (a 4)) (C := RX0) (T := TX0) (N := 15) hx hb hts inX0_findBuckets_X0 hown hK.1 hP 0 rfl rfl 3 (by decide) (hts (.fieldLink RX0 45 "TextEnds$EndSorter" "rising" "[Z") (List.mem_of_getElem? (i := 5) rfl)) (fun _ h9 => h9) rfl dX0_findBuckets_41 ?_
              refine lv_iload_n hx hb dX0_findBuckets_44 rfl (lv_at hl 1 rfl) ?_
              refine z_zald hx hb hK.1 hP 2 1 rfl rfl dX0_findBuckets_45 (by omega) (by omega) (by omega) ?_
              refine z_if_eq (tgt := 56) hx hb dX0_findBuckets_46 (by decide) (zB_R _ _) (fun h_4 => ?_) (fun h_4 => ?_)
              · skip
                refine lv_aload_n hx hb dX0_findBuckets_56 rfl (lv_at hl 0 rfl) ?_
                refine va_get (D := D) (ci := 0) (v := .ref (a 8)) (C := RX0) (T := TX0) (N := 15) hx hb hts inX0_findBuckets_X0 hown hK.1 hP 0 rfl rfl 7 (by decide) (hts (.fieldLink RX0 58 "TextEnds$EndSorter" "fallingFrom" "[I") (List.mem_of_getElem? (i := 2) rfl)) (fun _ h9 => h9) rfl dX0_findBuckets_57 ?_
                refine lv_astore_n (lv' := [(2, .ref (a 8)), (0, .ref (a 0)), (1, .int (zI i))]) hx hb dX0_findBuckets_60 rfl hl (by decide) rfl (fun ls hl => ?_)
                have hq1 := zla_S hlt len i
                refine lv_aload_n hx hb dX0_findBuckets_61 rfl (lv_at hl 1 rfl) ?_
                refine lv_iload_n hx hb dX0_findBuckets_62 rfl (lv_at hl 2 rfl) ?_
                refine z_cr (va_runV (As := [.int (zI i)]) (rest := []) ⟨hx, hb, hml, hown, hts⟩ (kX0_letterAt l D cI cZ cL a ts lp len sg vc nl lt i (by omega) (by omega) (by omega) (by omega)) (cwV 1 hts gX0_findBuckets_X0_letterAt rfl rfl rfl (by decide +kernel) ⟨Nat.le_of_ble_eq_true rfl, Nat.le_of_ble_eq_true rfl⟩) (zPr_preV (ci := 0) (q0 := 0) hK (hP.sub (ws' := [(a 0, .inr (0, so a ts lp len sg vc)), (lp, .inl (cI, nl, .inl (zA lt)))]) [0, 1] rfl) rfl rfl) rfl rfl hl.1 rfl (lv_room (Nat.le_of_ble_eq_true rfl)) dX0_findBuckets_63 ⟨Nat.zero_le _, Nat.zero_le _⟩) (fun r hr_ => ?_)
                subst hr_
                refine lv_istore_n (lv' := [(3, .int (zI (zla len lt i))), (2, .ref (a 8)), (0, .ref (a 0)), (1, .int (zI i))]) hx hb dX0_findBuckets_66 rfl hl (by decide) rfl (fun ls hl => ?_)
                refine lv_aload_n hx hb dX0_findBuckets_67 rfl (lv_at hl 1 rfl) ?_
                refine lv_iload_n hx hb dX0_findBuckets_68 rfl (lv_at hl 0 rfl) ?_
                refine lv_aload_n hx hb dX0_findBuckets_69 rfl (lv_at hl 1 rfl) ?_
                refine lv_iload_n hx hb dX0_findBuckets_70 rfl (lv_at hl 0 rfl) ?_
                refine z_cr (va_runSN (As := [.ref (a 8), .int (zI (zla len lt i))]) (rest := [.int (zI (zla len lt i)), .ref (a 8)]) ⟨hx, hb, hml, hown, hts⟩ (kX2_at l D cI cZ cL (a 8) nF fC (zla len lt i) (by omega) (by omega)) ⟨va_cnB 2 hts gX0_findBuckets_X2_at_n131 rfl rfl rfl hK.2.2 (hts (.initialized RX2) (List.mem_of_getElem? (i := 13) rfl)) (by decide +kernel) ⟨Nat.le_of_ble_eq_true rfl, Nat.le_of_ble_eq_true rfl⟩, hts (.static yX2_at) (List.mem_of_getElem? (i := 12) rfl), trivial⟩ (zPr_pre hK (hP.sub (ws' := [(a 8, .inl (cI, nF, .inl (zA fC)))]) [3] rfl)) rfl rfl hl.1 rfl (lv_room (Nat.le_of_ble_eq_true rfl)) dX0_findBuckets_71 ⟨Nat.zero_le _, Nat.zero_le _⟩) (fun r hr_ => ?_)
                subst hr_
                refine lv_iconst (v := zI 1) hx hb dX0_findBuckets_74 (by first | rfl | decide) ?_
                refine z_iadd hx hb dX0_findBuckets_75 ?_
                refine z_cw (wc := [(a 8, .inl (cI, nF, .inl (zA fC)))]) (wr := [(a 0, .inr (0, so a ts lp len sg vc)), (lp, .inl (cI, nl, .inl (zA lt))), (a 4, .inl (cZ, nr, .inl (zA (zB rs)))), (a 9, .inl (cI, nR, .inl (zA rC)))]) (Wt := (fun _ : Unit => [(a 0, .inr (0, so a ts lp len sg vc)), (lp, .inl (cI, nl, .inl (zA lt))), (a 4, .inl (cZ, nr, .inl (zA (zB rs)))), (a 8, .inl (cI, nF, .inl (zA (zput nF fC (zla len lt i) ((zat nF fC (zla len lt i)) + 1))))), (a 9, .inl (cI, nR, .inl (zA rC)))])) [3] [0, 1, 2, 4] [0, 1, 2, 4, 3] hP hD hS hA rfl rfl (by decide) (by decide) (by decide) (by decide) (fun _ => rfl) (fun _ => rfl) (fun hPc hDc => va_runSN (As := [.ref (a 8), .int (zI (zla len lt i)), .int (zI ((zat nF fC (zla len lt i)) + 1))]) (rest := []) ⟨hx, hb, hml, hown, hts⟩ (kX2_put l D cI cZ cL (a 8) nF fC (zla len lt i) ((zat nF fC (zla len lt i)) + 1) _ (by omega) (by omega)) ⟨va_cnB 3 hts gX0_findBuckets_X2_put_n127 rfl rfl rfl hK.2.1 (hts (.initialized RX2) (List.mem_of_getElem? (i := 13) rfl)) (by decide +kernel) ⟨Nat.le_of_ble_eq_true rfl, Nat.le_of_ble_eq_true rfl⟩, hts (.static yX2_put) (List.mem_of_getElem? (i := 15) rfl), trivial⟩ (zPw_pre hK hPc hDc) rfl rfl hl.1 rfl (lv_room (Nat.le_of_ble_eq_true rfl)) dX0_findBuckets_76 ⟨Nat.zero_le _, Nat.zero_le _⟩) rfl (fun u H locs hp_ hP hD hS => ?_)
                have hP : va_P D vwCl [(a 0, .inr (0, so a ts lp len sg vc)), (lp, .inl (cI, nl, .inl (zA lt))), (a 4, .inl (cZ, nr, .inl (zA (zB rs)))), (a 8, .inl (cI, nF, .inl (zA (zput nF fC (zla len lt i) ((zat nF fC (zla len lt i)) + 1))))), (a 9, .inl (cI, nR, .inl (zA rC)))] H := hP
                have hD : va_D A [(a 0, .inr (0, so a ts lp len sg vc)), (lp, .inl (cI, nl, .inl (zA lt))), (a 4, .inl (cZ, nr, .inl (zA (zB rs)))), (a 8, .inl (cI, nF, .inl (zA (zput nF fC (zla len lt i) ((zat nF fC (zla len lt i)) + 1))))), (a 9, .inl (cI, nR, .inl (zA rC)))] := hD
                refine lv_iinc (v := zI (i + 1)) (lv' := [(1, .int (zI (i + 1))), (3, .int (zI (zla len lt i))), (2, .ref (a 8)), (0, .ref (a 0))]) hx hb dX0_findBuckets_79 hl (k := 3) rfl (zI_add _ _) (by decide) rfl (fun ls hl => ?_)
                refine lv_goto (tgt := 32) hx hb dX0_findBuckets_82 (by decide) ?_
                exact ih32 (i + 1) (zput nF fC (zla len lt i) ((zat nF fC (zla len lt i)) + 1)) rC _ _ ls (by omega) (by omega) (by first | exact stC_t hqC g0 (zB_ne (by with_reducible assumption)) | exact stC_f hqC g0 (zB_eq (by with_reducible assumption))) (by omega) (hP) (hD) hS (lv_sub hl [3, 0] rfl)
              · skip
                refine lv_aload_n hx hb dX0_findBuckets_49 rfl (lv_at hl 0 rfl) ?_
                refine va_get (D := D) (ci := 0) (v := .ref (a 9)) (C := RX0) (T := TX0) (N := 15) hx hb hts inX0_findBuckets_X0 hown hK.1 hP 0 rfl rfl 8 (by decide) (hts (.fieldLink RX0 61 "TextEnds$EndSorter" "risingFrom" "[I") (List.mem_of_getElem? (i := 3) rfl)) (fun _ h9 => h9) rfl dX0_findBuckets_50 ?_
                refine lv_goto (tgt := 60) hx hb dX0_findBuckets_53 (by decide) ?_
                refine lv_astore_n (lv' := [(2, .ref (a 9)), (0, .ref (a 0)), (1, .int (zI i))]) hx hb dX0_findBuckets_60 rfl hl (by decide) rfl (fun ls hl => ?_)
                have hq1 := zla_S hlt len i
                refine lv_aload_n hx hb dX0_findBuckets_61 rfl (lv_at hl 1 rfl) ?_
                refine lv_iload_n hx hb dX0_findBuckets_62 rfl (lv_at hl 2 rfl) ?_
                refine z_cr (va_runV (As := [.int (zI i)]) (rest := []) ⟨hx, hb, hml, hown, hts⟩ (kX0_letterAt l D cI cZ cL a ts lp len sg vc nl lt i (by omega) (by omega) (by omega) (by omega)) (cwV 1 hts gX0_findBuckets_X0_letterAt rfl rfl rfl (by decide +kernel) ⟨Nat.le_of_ble_eq_true rfl, Nat.le_of_ble_eq_true rfl⟩) (zPr_preV (ci := 0) (q0 := 0) hK (hP.sub (ws' := [(a 0, .inr (0, so a ts lp len sg vc)), (lp, .inl (cI, nl, .inl (zA lt)))]) [0, 1] rfl) rfl rfl) rfl rfl hl.1 rfl (lv_room (Nat.le_of_ble_eq_true rfl)) dX0_findBuckets_63 ⟨Nat.zero_le _, Nat.zero_le _⟩) (fun r hr_ => ?_)
                subst hr_
                refine lv_istore_n (lv' := [(3, .int (zI (zla len lt i))), (2, .ref (a 9)), (0, .ref (a 0)), (1, .int (zI i))]) hx hb dX0_findBuckets_66 rfl hl (by decide) rfl (fun ls hl => ?_)
                refine lv_aload_n hx hb dX0_findBuckets_67 rfl (lv_at hl 1 rfl) ?_
                refine lv_iload_n hx hb dX0_findBuckets_68 rfl (lv_at hl 0 rfl) ?_
                refine lv_aload_n hx hb dX0_findBuckets_69 rfl (lv_at hl 1 rfl) ?_
                refine lv_iload_n hx hb dX0_findBuckets_70 rfl (lv_at hl 0 rfl) ?_
                refine z_cr (va_runSN (As := [.ref (a 9), .int (zI (zla len lt i))]) (rest := [.int (zI (zla len lt i)), .ref (a 9)]) ⟨hx, hb, hml, hown, hts⟩ (kX2_at l D cI cZ cL (a 9) nR rC (zla len lt i) (by omega) (by omega)) ⟨va_cnB 2 hts gX0_findBuckets_X2_at_n131 rfl rfl rfl hK.2.2 (hts (.initialized RX2) (List.mem_of_getElem? (i := 13) rfl)) (by decide +kernel) ⟨Nat.le_of_ble_eq_true rfl, Nat.le_of_ble_eq_true rfl⟩, hts (.static yX2_at) (List.mem_of_getElem? (i := 12) rfl), trivial⟩ (zPr_pre hK (hP.sub (ws' := [(a 9, .inl (cI, nR, .inl (zA rC)))]) [4] rfl)) rfl rfl hl.1 rfl (lv_room (Nat.le_of_ble_eq_true rfl)) dX0_findBuckets_71 ⟨Nat.zero_le _, Nat.zero_le _⟩) (fun r hr_ => ?_)
                subst hr_
                refine lv_iconst (v := zI 1) hx hb dX0_findBuckets_74 (by first | rfl | decide) ?_
                refine z_iadd hx hb dX0_findBuckets_75 ?_
                refine z_cw (wc := [(a 9, .inl (cI, nR, .inl (zA rC)))]) (wr := [(a 0, .inr (0, so a ts lp len sg vc)), (lp, .inl (cI, nl, .inl (zA lt))), (a 4, .inl (cZ, nr, .inl (zA (zB rs)))), (a 8, .inl (cI, nF, .inl (zA fC)))]) (Wt := (fun _ : Unit => [(a 0, .inr (0, so a ts lp len sg vc)), (lp, .inl (cI, nl, .inl (zA lt))), (a 4, .inl (cZ, nr, .inl (zA (zB rs)))), (a 8, .inl (cI, nF, .inl (zA fC))), (a 9, .inl (cI, nR, .inl (zA (zput nR rC (zla len lt i) ((zat nR rC (zla len lt i)) + 1)))))])) [4] [0, 1, 2, 3] [0, 1, 2, 3, 4] hP hD hS hA rfl rfl (by decide) (by decide) (by decide) (by decide) (fun _ => rfl) (fun _ => rfl) (fun hPc hDc => va_runSN (As := [.ref (a 9), .int (zI (zla len lt i)), .int (zI ((zat nR rC (zla len lt i)) + 1))]) (rest := []) ⟨hx, hb, hml, hown, hts⟩ (kX2_put l D cI cZ cL (a 9) nR rC (zla len lt i) ((zat nR rC (zla len lt i)) + 1) _ (by omega) (by omega)) ⟨va_cnB 3 hts gX0_findBuckets_X2_put_n127 rfl rfl rfl hK.2.1 (hts (.initialized RX2) (List.mem_of_getElem? (i := 13) rfl)) (by decide +kernel) ⟨Nat.le_of_ble_eq_true rfl, Nat.le_of_ble_eq_true rfl⟩, hts (.static yX2_put) (List.mem_of_getElem? (i := 15) rfl), trivial⟩ (zPw_pre hK hPc hDc) rfl rfl hl.1 rfl (lv_room (Nat.le_of_ble_eq_true rfl)) dX0_findBuckets_76 ⟨Nat.zero_le _, Nat.zero_le _⟩) rfl (fun u H locs hp_ hP hD hS => ?_)
                have hP : va_P D vwCl [(a 0, .inr (0, so a ts lp len sg vc)), (lp, .inl (cI, nl, .inl (zA lt))), (a 4, .inl (cZ, nr, .inl (zA (zB rs)))), (a 8, .inl (cI, nF, .inl (zA fC))), (a 9, .inl (cI, nR, .inl (zA (zput nR rC (zla len lt i) ((zat nR rC (zla len lt i)) + 1)))))] H := hP
                have hD : va_D A [(a 0, .inr (0, so a ts lp len sg vc)), (lp, .inl (cI, nl, .inl (zA lt))), (a 4, .inl (cZ, nr, .inl (zA (zB rs)))), (a 8, .inl (cI, nF, .inl (zA fC))), (a 9, .inl (cI, nR, .inl (zA (zput nR rC (zla len lt i) ((zat nR rC (zla len lt i)) + 1)))))] := hD
                refine lv_iinc (v := zI (i + 1)) (lv' := [(1, .int (zI (i + 1))), (3, .int (zI (zla len lt i))), (2, .ref (a 9)), (0, .ref (a 0))]) hx hb dX0_findBuckets_79 hl (k := 3) rfl (zI_add _ _) (by decide) rfl (fun ls hl => ?_)
                refine lv_goto (tgt := 32) hx hb dX0_findBuckets_82 (by decide) ?_
                exact ih32 (i + 1) fC (zput nR rC (zla len lt i) ((zat nR rC (zla len lt i)) + 1)) _ _ ls (by omega) (by omega) (by first | exact stC_t hqC g0 (zB_ne (by with_reducible assumption)) | exact stC_f hqC g0 (zB_eq (by with_reducible assumption))) (by omega) (hP) (hD) hS (lv_sub hl [3, 0] rfl)
        exact loop32 _ 0 fA rA _ _ ls (by omega) (by omega) (by rw [hfA, hrA, show k = sg by omega]; rfl) (Nat.lt_succ_self _) hP hD hS (lv_sub hl [1, 0] rfl)
      · skip
        refine lv_aload_n hx hb dX0_findBuckets_10 rfl (lv_at hl 0 rfl) ?_
        refine va_get (D := D) (ci := 0) (v := .ref (a 8)) (C := RX0) (T := TX0) (N := 15) hx hb hts inX0_findBuckets_X0 hown hK.1 hP 0 rfl rfl 7 (by decide) (hts (.fieldLink RX0 58 "TextEnds$EndSorter" "fallingFrom" "[I") (List.mem_of_getElem? (i := 2) rfl)) (fun _ h9 => h9) rfl dX0_findBuckets_11 ?_
        refine lv_iload_n hx hb dX0_findBuckets_14 rfl (lv_at hl 1 rfl) ?_
        refine lv_iconst (v := zI 0) hx hb dX0_findBuckets_15 (by first | rfl | decide) ?_
        refine z_iast hx hb hK.1 hP hD hS 3 0 rfl rfl dX0_findBuckets_16 (by omega) (by omega) (by omega) (fun H locs hP hD hS => ?_)
        have hP : va_P D vwCl [(a 0, .inr (0, so a ts lp len sg vc)), (lp, .inl (cI, nl, .inl (zA lt))), (a 4, .inl (cZ, nr, .inl (zA (zB rs)))), (a 8, .inl (cI, nF, .inl (zA (zup fA k 0)))), (a 9, .inl (cI, nR, .inl (zA rA)))] H := hP
        have hD : va_D A [(a 0, .inr (0, so a ts lp len sg vc)), (lp, .inl (cI, nl, .inl (zA lt))), (a 4, .inl (cZ, nr, .inl (zA (zB rs)))), (a 8, .inl (cI, nF, .inl (zA (zup fA k 0)))), (a 9, .inl (cI, nR, .inl (zA rA)))] := hD
        refine lv_aload_n hx hb dX0_findBuckets_17 rfl (lv_at hl 0 rfl) ?_
        refine va_get (D := D) (ci := 0) (v := .ref (a 9)) (C := RX0) (T := TX0) (N := 15) hx hb hts inX0_findBuckets_X0 hown hK.1 hP 0 rfl rfl 8 (by decide) (hts (.fieldLink RX0 61 "TextEnds$EndSorter" "risingFrom" "[I") (List.mem_of_getElem? (i := 3) rfl)) (fun _ h9 => h9) rfl dX0_findBuckets_18 ?_
        refine lv_iload_n hx hb dX0_findBuckets_21 rfl (lv_at hl 1 rfl) ?_
        refine lv_iconst (v := zI 0) hx hb dX0_findBuckets_22 (by first | rfl | decide) ?_
        refine z_iast hx hb hK.1 hP hD hS 4 0 rfl rfl dX0_findBuckets_23 (by omega) (by omega) (by omega) (fun H locs hP hD hS => ?_)
        have hP : va_P D vwCl [(a 0, .inr (0, so a ts lp len sg vc)), (lp, .inl (cI, nl, .inl (zA lt))), (a 4, .inl (cZ, nr, .inl (zA (zB rs)))), (a 8, .inl (cI, nF, .inl (zA (zup fA k 0)))), (a 9, .inl (cI, nR, .inl (zA (zup rA k 0))))] H := hP
        have hD : va_D A [(a 0, .inr (0, so a ts lp len sg vc)), (lp, .inl (cI, nl, .inl (zA lt))), (a 4, .inl (cZ, nr, .inl (zA (zB rs)))), (a 8, .inl (cI, nF, .inl (zA (zup fA k 0)))), (a 9, .inl (cI, nR, .inl (zA (zup rA k 0))))] := hD
        refine lv_iinc (v := zI (k + 1)) (lv' := [(1, .int (zI (k + 1))), (0, .ref (a 0))]) hx hb dX0_findBuckets_24 hl (k := 1) rfl (zI_add _ _) (by decide) rfl (fun ls hl => ?_)
        refine lv_goto (tgt := 2) hx hb dX0_findBuckets_27 (by decide) ?_
        exact ih2 (k + 1) (zup fA k 0) (zup rA k 0) _ _ ls (by omega) (by omega) (by rw [hfA]; exact zfill_up (f := fun _ => 0) h0) (by rw [hrA]; exact zfill_up (f := fun _ => 0) h0) (by omega) (hP) (hD) hS (lv_sub hl [1, 0] rfl)
  exact loop2 _ 0 ff rf _ _ ls (by omega) (by omega) (zfill_0 _ _ _) (zfill_0 _ _ _) (Nat.lt_succ_self _) hP hD hS (lv_sub hl [1, 0] rfl)
end
section
set_option maxRecDepth 20000 in
theorem inX0_induceFalling_X0 : ∀ w ∈ wsX00, w ∈ wsX0_induceFalling := by decide +kernel
set_option maxRecDepth 20000 in
theorem inX0_induceRising_X0 : ∀ w ∈ wsX00, w ∈ wsX0_induceRising := by decide +kernel
set_option maxRecDepth 20000 in
theorem inX0_induceFrom_X0 : ∀ w ∈ wsX00, w ∈ wsX0_induceFrom := by decide +kernel
set_option maxHeartbeats 4000000 in
set_option maxRecDepth 100000 in
/-- induceFalling() -/
theorem kX0_induceFalling (l : Launch) (D : va_G) (cI cZ cL : ClassId) (a : Nat → Nat) (ts : Int) (lp : Nat) (len sg vc : Int) (nl nO nr nF nN : Nat) (lt : Int → Int) (rs : Int → Bool) (ff od ns : Int → Int) (szz : Nat) (hlen : 0 ≤ len) (hnl : len ≤ (nl : Int)) (bnl : (nl : Int) < 1073741824) (hlr : len ≤ (nr : Int)) (hlO : len ≤ (nO : Int)) (hsg : 0 ≤ sg) (hsn : sg ≤ (nN : Int)) (bnO : (nO : Int) < 1073741824) (bnr : (nr : Int) < 1073741824) (bnF : (nF : Int) < 1073741824) (bnN : (nN : Int) < 1073741824) (hlt : zS lt) (hff : zS ff) (hns : zS ns) (hok : ∀ k, k ≤ len.toNat → zS (zit (stF nO nN len lt rs) k (ifq0 nO nN nF len sg lt ff od ns)).1 ∧ zS (zit (stF nO nN len lt rs) k (ifq0 nO nN nF len sg lt ff od ns)).2) : Met l yX0_induceFalling wsX0_induceFalling ({ frames := 2, cells := 0, slots := 0, locals := 45 }) (zPw D cI cZ cL szz [.ref (a 0)] [(a 0, .inr (0, so a ts lp len sg vc)), (lp, .inl (cI, nl, .inl (zA lt))), (a 2, .inl (cI, nO, .inl (zA od))), (a 4, .inl (cZ, nr, .inl (zA (zB rs)))), (a 8, .inl (cI, nF, .inl (zA ff))), (a 10, .inl (cI, nN, .inl (zA ns)))]) (zQw D (va_A [(a 0, .inr (0, so a ts lp len sg vc)), (lp, .inl (cI, nl, .inl (zA lt))), (a 2, .inl (cI, nO, .inl (zA od))), (a 4, .inl (cZ, nr, .inl (zA (zB rs)))), (a 8, .inl (cI, nF, .inl (zA ff))), (a 10, .inl (cI, nN, .inl (zA ns)))] szz) (fun _ : Unit => True) (fun _ : Unit => [(a 0, .inr (0, so a ts lp len sg vc)), (lp, .inl (cI, nl, .inl (zA lt))), (a 2, .inl (cI, nO, .inl (zA ((zit (stF nO nN len lt rs) len.toNat (ifq0 nO nN nF len sg lt ff od ns)).1)))), (a 4, .inl (cZ, nr, .inl (zA (zB rs)))), (a 8, .inl (cI, nF, .inl (zA ff))), (a 10, .inl (cI, nN, .inl (zA ((zit (stF nO nN len lt rs) len.toNat (ifq0 nO nN nF len sg lt ff od ns)).2))))])) 0 0 (va_A [(a 0, .inr (0, so a ts lp len sg vc)), (lp, .inl (cI, nl, .inl (zA lt))), (a 2, .inl (cI, nO, .inl (zA od))), (a 4, .inl (cZ, nr, .inl (zA (zB rs)))), (a 8, .inl (cI, nF, .inl (zA ff))), (a 10, .inl (cI, nN, .inl (zA ns)))] szz) := by
  refine Met.ofW (cc := cX0_induceFalling) (maxL := 3) (ret := none) (by decide) rfl ?_
  intro p e s m args below meth c s₁ B hml hv
  obtain ⟨rfl, hsz, hP, hK, hD0⟩ := hv
  have hx := B.exec
  have hb := B.bytes
  have hr := B.returns
  have hts := atoms_spec (ws := wsX0_induceFalling) B.pre
  have hown : s.vm.findClass RX0 = some m.cls := findClass_of_methodNamed B.named
  have hlocks := B.notSynchronized
  subst hsz
  have hD := hD0.self (sz := s.heap.size)
  generalize hAe : va_A [(a 0, .inr (0, so a ts lp len sg vc)), (lp, .inl (cI, nl, .inl (zA lt))), (a 2, .inl (cI, nO, .inl (zA od))), (a 4, .inl (cZ, nr, .inl (zA (zB rs)))), (a 8, .inl (cI, nF, .inl (zA ff))), (a 10, .inl (cI, nN, .inl (zA ns)))] s.heap.size = A at hD ⊢
  have hA : ∀ q : Nat, s.heap.size ≤ q → A q := fun q h => by rw [← hAe]; exact Or.inr h
  have hS : va_S A s.heap s.heap [] := va_S.rf
  clear hD0
  have hP : va_P D vwCl [(a 0, .inr (0, so a ts lp len sg vc)), (lp, .inl (cI, nl, .inl (zA lt))), (a 2, .inl (cI, nO, .inl (zA od))), (a 4, .inl (cZ, nr, .inl (zA (zB rs)))), (a 8, .inl (cI, nF, .inl (zA ff))), (a 10, .inl (cI, nN, .inl (zA ns)))] s.heap := hP
  have hl := lv_entry ([.ref (a 0)]) (n := 3) (Nat.le_of_ble_eq_true rfl)
  rw [lg_entry_eq]
  generalize (lg_sl ([.ref (a 0)]) ++ List.replicate (3 - (lg_sl ([.ref (a 0)])).length) Slot.unset).toArray = ls at hl ⊢
  have hl : lv_has ls 3 [(0, .ref (a 0))] := hl
  refine lv_aload_n hx hb dX0_induceFalling_0 rfl (lv_at hl 0 rfl) ?_
  refine lv_aload_n hx hb dX0_induceFalling_1 rfl (lv_at hl 0 rfl) ?_
  refine va_get (D := D) (ci := 0) (v := .ref (a 8)) (C := RX0) (T := TX0) (N := 15) hx hb hts inX0_induceFalling_X0 hown hK.1 hP 0 rfl rfl 7 (by decide) (hts (.fieldLink RX0 58 "TextEnds$EndSorter" "fallingFrom" "[I") (List.mem_of_getElem? (i := 1) rfl)) (fun _ h9 => h9) rfl dX0_induceFalling_2 ?_
  refine lv_iconst (v := zI 0) hx hb dX0_induceFalling_5 (by first | rfl | decide) ?_
  refine z_cw (wc := [(a 0, .inr (0, so a ts lp len sg vc)), (a 10, .inl (cI, nN, .inl (zA ns))), (a 8, .inl (cI, nF, .inl (zA ff)))]) (wr := [(lp, .inl (cI, nl, .inl (zA lt))), (a 2, .inl (cI, nO, .inl (zA od))), (a 4, .inl (cZ, nr, .inl (zA (zB rs))))]) (Wt := (fun _ : Unit => [(a 0, .inr (0, so a ts lp len sg vc)), (lp, .inl (cI, nl, .inl (zA lt))), (a 2, .inl (cI, nO, .inl (zA od))), (a 4, .inl (cZ, nr, .inl (zA (zB rs)))), (a 8, .inl (cI, nF, .inl (zA ff))), (a 10, .inl (cI, nN, .inl (zA (sbN sg nF ff 0 ns))))])) [0, 5, 4] [1, 2, 3] [3, 0, 1, 2, 5, 4] hP hD hS hA rfl rfl (by decide) (by decide) (by decide) (by decide) (fun _ => rfl) (fun _ => rfl) (fun hPc hDc => va_runV (As := [.ref (a 8), .int (zI 0)]) (rest := []) ⟨hx, hb, hml, hown, hts⟩ (kX0_startBuckets l D cI cZ cL a ts lp len sg vc (a 8) nF nN ff ns 0 _ (by omega) (by omega) (by omega) (by omega) (by omega)) (cwV 2 hts gX0_induceFalling_X0_startBuckets rfl rfl rfl (by decide +kernel) ⟨Nat.le_of_ble_eq_true rfl, Nat.le_of_ble_eq_true rfl⟩) (zPw_preV (ci := 0) (q0 := 0) hK hPc hDc rfl rfl) rfl rfl hl.1 rfl (lv_room (Nat.le_of_ble_eq_true rfl)) dX0_induceFalling_6 ⟨Nat.zero_le _, Nat.zero_le _⟩) rfl (fun u H locs hp_ hP hD hS => ?_)
  have hP : va_P D vwCl [(a 0, .inr (0, so a ts lp len sg vc)), (lp, .inl (cI, nl, .inl (zA lt))), (a 2, .inl (cI, nO, .inl (zA od))), (a 4, .inl (cZ, nr, .inl (zA (zB rs)))), (a 8, .inl (cI, nF, .inl (zA ff))), (a 10, .inl (cI, nN, .inl (zA (sbN sg nF ff 0 ns))))] H := hP
  have hD : va_D A [(a 0, .inr (0, so a ts lp len sg vc)), (lp, .inl (cI, nl, .inl (zA lt))), (a 2, .inl (cI, nO, .inl (zA od))), (a 4, .inl (cZ, nr, .inl (zA (zB rs)))), (a 8, .inl (cI, nF, .inl (zA ff))), (a 10, .inl (cI, nN, .inl (zA (sbN sg nF ff 0 ns))))] := hD
  refine lv_aload_n hx hb dX0_induceFalling_9 rfl (lv_at hl 0 rfl) ?_
  refine lv_aload_n hx hb dX0_induceFalling_10 rfl (lv_at hl 0 rfl) ?_
  refine va_get (D := D) (ci := 0) (v := .int (zI len)) (C := RX0) (T := TX0) (N := 15) hx hb hts inX0_induceFalling_X0 hown hK.1 hP 0 rfl rfl 12 (by decide) (hts (.fieldLink RX0 103 "TextEnds$EndSorter" "length" "I") (List.mem_of_getElem? (i := 2) rfl)) (fun _ h9 => h9) rfl dX0_induceFalling_11 ?_
  refine lv_iconst (v := zI 1) hx hb dX0_induceFalling_14 (by first | rfl | decide) ?_
  refine z_isub hx hb dX0_induceFalling_15 ?_
  refine z_cw (wc := [(a 0, .inr (0, so a ts lp len sg vc)), (lp, .inl (cI, nl, .inl (zA lt))), (a 2, .inl (cI, nO, .inl (zA od))), (a 10, .inl (cI, nN, .inl (zA (sbN sg nF ff 0 ns))))]) (wr := [(a 4, .inl (cZ, nr, .inl (zA (zB rs)))), (a 8, .inl (cI, nF, .inl (zA ff)))]) (Wt := (fun _ : Unit => [(a 0, .inr (0, so a ts lp len sg vc)), (lp, .inl (cI, nl, .inl (zA lt))), (a 2, .inl (cI, nO, .inl (zA (pfO nO nN len lt od (sbN sg nF ff 0 ns) (len - 1))))), (a 4, .inl (cZ, nr, .inl (zA (zB rs)))), (a 8, .inl (cI, nF, .inl (zA ff))), (a 10, .inl (cI, nN, .inl (zA (pfN nN len lt (sbN sg nF ff 0 ns) (len - 1)))))])) [0, 1, 2, 5] [3, 4] [2, 3, 4, 0, 1, 5] hP hD hS hA rfl rfl (by decide) (by decide) (by decide) (by decide) (fun _ => rfl) (fun _ => rfl) (fun hPc hDc => va_runV (As := [.int (zI (len - 1))]) (rest := []) ⟨hx, hb, hml, hown, hts⟩ (kX0_placeFront l D cI cZ cL a ts lp len sg vc nl nO nN lt od (sbN sg nF ff 0 ns) (len - 1) _ (by omega) (by omega) (by omega) (hlt) (sbN_S hff hns) (by omega) (by omega) (by omega)) (cwV 1 hts gX0_induceFalling_X0_placeFront rfl rfl rfl (by decide +kernel) ⟨Nat.le_of_ble_eq_true rfl, Nat.le_of_ble_eq_true rfl⟩) (zPw_preV (ci := 0) (q0 := 0) hK hPc hDc rfl rfl) rfl rfl hl.1 rfl (lv_room (Nat.le_of_ble_eq_true rfl)) dX0_induceFalling_16 ⟨Nat.zero_le _, Nat.zero_le _⟩) rfl (fun u H locs hp_ hP hD hS => ?_)
  have hP : va_P D vwCl [(a 0, .inr (0, so a ts lp len sg vc)), (lp, .inl (cI, nl, .inl (zA lt))), (a 2, .inl (cI, nO, .inl (zA (pfO nO nN len lt od (sbN sg nF ff 0 ns) (len - 1))))), (a 4, .inl (cZ, nr, .inl (zA (zB rs)))), (a 8, .inl (cI, nF, .inl (zA ff))), (a 10, .inl (cI, nN, .inl (zA (pfN nN len lt (sbN sg nF ff 0 ns) (len - 1)))))] H := hP
  have hD : va_D A [(a 0, .inr (0, so a ts lp len sg vc)), (lp, .inl (cI, nl, .inl (zA lt))), (a 2, .inl (cI, nO, .inl (zA (pfO nO nN len lt od (sbN sg nF ff 0 ns) (len - 1))))), (a 4, .inl (cZ, nr, .inl (zA (zB rs)))), (a 8, .inl (cI, nF, .inl (zA ff))), (a 10, .inl (cI, nN, .inl (zA (pfN nN len lt (sbN sg nF ff 0 ns) (len - 1)))))] := hD
  refine lv_iconst (v := zI 0) hx hb dX0_induceFalling_19 (by first | rfl | decide) ?_
  refine lv_istore_n (lv' := [(1, .int (zI 0)), (0, .ref (a 0))]) hx hb dX0_induceFalling_20 rfl hl (by decide) rfl (fun ls hl => ?_)
  have loop21 : ∀ (nn : Nat) (i : Int) (oq : Int → Int) (nq : Int → Int) (H : Heap) (locs : List Loc) (ls : Array Slot), (0 ≤ i) → (i ≤ len) → ((oq, nq) = zit (stF nO nN len lt rs) i.toNat (ifq0 nO nN nF len sg lt ff od ns)) → ((len - i).toNat) < nn → va_P D vwCl [(a 0, .inr (0, so a ts lp len sg vc)), (lp, .inl (cI, nl, .inl (zA lt))), (a 2, .inl (cI, nO, .inl (zA oq))), (a 4, .inl (cZ, nr, .inl (zA (zB rs)))), (a 8, .inl (cI, nF, .inl (zA ff))), (a 10, .inl (cI, nN, .inl (zA nq)))] H → va_D A [(a 0, .inr (0, so a ts lp len sg vc)), (lp, .inl (cI, nl, .inl (zA lt))), (a 2, .inl (cI, nO, .inl (zA oq))), (a 4, .inl (cZ, nr, .inl (zA (zB rs)))), (a 8, .inl (cI, nF, .inl (zA ff))), (a 10, .inl (cI, nN, .inl (zA nq)))] → va_S A s.heap H locs → lv_has ls 3 [(0, .ref (a 0)), (1, .int (zI i))] → W p l e (headSpec wsX0_induceFalling ({ frames := 2, cells := 0, slots := 0, locals := 45 })).room s m ([.ref (a 0)] : List Value).toArray below meth c H locs 0 0 (MQ below (zQw D A (fun _ : Unit => True) (fun _ : Unit => [(a 0, .inr (0, so a ts lp len sg vc)), (lp, .inl (cI, nl, .inl (zA lt))), (a 2, .inl (cI, nO, .inl (zA ((zit (stF nO nN len lt rs) len.toNat (ifq0 nO nN nF len sg lt ff od ns)).1)))), (a 4, .inl (cZ, nr, .inl (zA (zB rs)))), (a 8, .inl (cI, nF, .inl (zA ff))), (a 10, .inl (cI, nN, .inl (zA ((zit (stF nO nN len lt rs) len.toNat (ifq0 nO nN nF len sg lt ff od ns)).2))))])) ([.ref (a 0)] : List Value).toArray s 0 0 A) (F0 m 21 ls []) := by
    intro nn
    induction nn with
    | zero =>
      intros
      exact absurd (by assumption : _ < 0) (Nat.not_lt_zero _)
    | succ nn ih21 =>
      intro i oq nq H locs ls h0 h1 hq hmu hP hD hS hl
      refine lv_iload_n hx hb dX0_induceFalling_21 rfl (lv_at hl 1 rfl) ?_
      refine lv_aload_n hx hb dX0_induceFalling_22 rfl (lv_at hl 0 rfl) ?_
      refine va_get (D := D) (ci := 0) (v := .int (zI len)) (C := RX0) (T := TX0) (N := 15) hx hb hts inX0_induceFalling_X0 hown hK.1 hP 0 rfl rfl 12 (by decide) (hts (.fieldLink RX0 103 "TextEnds$EndSorter" "length" "I") (List.mem_of_getElem? (i := 2) rfl)) (fun _ h9 => h9) rfl dX0_induceFalling_23 ?_
      refine z_icmp_ge (tgt := 57) hx hb dX0_induceFalling_26 (by decide) (by omega) (by omega) (fun h_1 => ?_) (fun h_1 => ?_)
      · skip
        rw [show i = len by omega] at hq
        have hwe : oq = ((zit (stF nO nN len lt rs) len.toNat (ifq0 nO nN nF len sg lt ff od ns)).1) := congrArg (fun z => z.1) hq
        rw [hwe] at hP hD
        clear hwe
        have hwe : nq = ((zit (stF nO nN len lt rs) len.toNat (ifq0 nO nN nF len sg lt ff od ns)).2) := congrArg (fun z => z.2) hq
        rw [hwe] at hP hD
        clear hwe
        exact W.vret hx hb hr (fun t ht_ hW_ => ⟨⟨(), rfl, trivial, by rw [ht_]; exact hP, hD⟩, hS.F ht_⟩) hS.2.2 dX0_induceFalling_57
      · skip
        have hk := hok i.toNat (by omega)
        rw [← hq] at hk
        have hk1 : -1000000 ≤ oq i ∧ oq i ≤ 1000000 := hk.1 i
        have hk2 : zS nq := hk.2
        refine lv_aload_n hx hb dX0_induceFalling_29 rfl (lv_at hl 0 rfl) ?_
        refine va_get (D := D) (ci := 0) (v := .ref (a 2)) (C := RX0) (T := TX0) (N := 15) hx hb hts inX0_induceFalling_X0 hown hK.1 hP 0 rfl rfl 1 (by decide) (hts (.fieldLink RX0 42 "TextEnds$EndSorter" "order" "[I") (List.mem_of_getElem? (i := 3) rfl)) (fun _ h9 => h9) rfl dX0_induceFalling_30 ?_
        refine lv_iload_n hx hb dX0_induceFalling_33 rfl (lv_at hl 1 rfl) ?_
        refine z_iald hx hb hK.1 hP 2 0 rfl rfl dX0_induceFalling_34 (by omega) (by omega) (by omega) ?_
        refine lv_iconst (v := zI 1) hx hb dX0_induceFalling_35 (by first | rfl | decide) ?_
        refine z_isub hx hb dX0_induceFalling_36 ?_
        refine lv_istore_n (lv' := [(2, .int (zI ((oq i) - 1))), (0, .ref (a 0)), (1, .int (zI i))]) hx hb dX0_induceFalling_37 rfl hl (by decide) rfl (fun ls hl => ?_)
        refine lv_aload_n hx hb dX0_induceFalling_38 rfl (lv_at hl 1 rfl) ?_
        refine lv_iload_n hx hb dX0_induceFalling_39 rfl (lv_at hl 0 rfl) ?_
        refine z_cr (va_runV (As := [.int (zI ((oq i) - 1))]) (rest := []) ⟨hx, hb, hml, hown, hts⟩ (kX0_isFalling l D cI cZ cL a ts lp len sg vc nr rs ((oq i) - 1) (by omega) (by omega) (by omega) (by omega)) (cwV 1 hts gX0_induceFalling_X0_isFalling rfl rfl rfl (by decide +kernel) ⟨Nat.le_of_ble_eq_true rfl, Nat.le_of_ble_eq_true rfl⟩) (zPr_preV (ci := 0) (q0 := 0) hK (hP.sub (ws' := [(a 0, .inr (0, so a ts lp len sg vc)), (a 4, .inl (cZ, nr, .inl (zA (zB rs))))]) [0, 3] rfl) rfl rfl) rfl rfl hl.1 rfl (lv_room (Nat.le_of_ble_eq_true rfl)) dX0_induceFalling_40 ⟨Nat.zero_le _, Nat.zero_le _⟩) (fun r hr_ => ?_)
        subst hr_
        refine z_if_eq (tgt := 51) hx hb dX0_induceFalling_43 (by decide) (bi_R _) (fun h_2 => ?_) (fun h_2 => ?_)
        · skip
          refine lv_iinc (v := zI (i + 1)) (lv' := [(1, .int (zI (i + 1))), (2, .int (zI ((oq i) - 1))), (0, .ref (a 0))]) hx hb dX0_induceFalling_51 hl (k := 2) rfl (zI_add _ _) (by decide) rfl (fun ls hl => ?_)
          refine lv_goto (tgt := 21) hx hb dX0_induceFalling_54 (by decide) ?_
          exact ih21 (i + 1) oq nq _ _ ls (by omega) (by omega) (by first | exact stF_t hq h0 (bi_ne (by with_reducible assumption)) | exact stF_f hq h0 (bi_eq (by with_reducible assumption))) (by omega) (hP) (hD) hS (lv_sub hl [2, 0] rfl)
        · skip
          refine lv_aload_n hx hb dX0_induceFalling_46 rfl (lv_at hl 1 rfl) ?_
          refine lv_iload_n hx hb dX0_induceFalling_47 rfl (lv_at hl 0 rfl) ?_
          refine z_cw (wc := [(a 0, .inr (0, so a ts lp len sg vc)), (lp, .inl (cI, nl, .inl (zA lt))), (a 2, .inl (cI, nO, .inl (zA oq))), (a 10, .inl (cI, nN, .inl (zA nq)))]) (wr := [(a 4, .inl (cZ, nr, .inl (zA (zB rs)))), (a 8, .inl (cI, nF, .inl (zA ff)))]) (Wt := (fun _ : Unit => [(a 0, .inr (0, so a ts lp len sg vc)), (lp, .inl (cI, nl, .inl (zA lt))), (a 2, .inl (cI, nO, .inl (zA (pfO nO nN len lt oq nq ((oq i) - 1))))), (a 4, .inl (cZ, nr, .inl (zA (zB rs)))), (a 8, .inl (cI, nF, .inl (zA ff))), (a 10, .inl (cI, nN, .inl (zA (pfN nN len lt nq ((oq i) - 1)))))])) [0, 1, 2, 5] [3, 4] [2, 3, 4, 0, 1, 5] hP hD hS hA rfl rfl (by decide) (by decide) (by decide) (by decide) (fun _ => rfl) (fun _ => rfl) (fun hPc hDc => va_runV (As := [.int (zI ((oq i) - 1))]) (rest := []) ⟨hx, hb, hml, hown, hts⟩ (kX0_placeFront l D cI cZ cL a ts lp len sg vc nl nO nN lt oq nq ((oq i) - 1) _ (by omega) (by omega) (by omega) (hlt) (hk2) (by omega) (by omega) (by omega)) (cwV 1 hts gX0_induceFalling_X0_placeFront rfl rfl rfl (by decide +kernel) ⟨Nat.le_of_ble_eq_true rfl, Nat.le_of_ble_eq_true rfl⟩) (zPw_preV (ci := 0) (q0 := 0) hK hPc hDc rfl rfl) rfl rfl hl.1 rfl (lv_room (Nat.le_of_ble_eq_true rfl)) dX0_induceFalling_48 ⟨Nat.zero_le _, Nat.zero_le _⟩) rfl (fun u H locs hp_ hP hD hS => ?_)
          have hP : va_P D vwCl [(a 0, .inr (0, so a ts lp len sg vc)), (lp, .inl (cI, nl, .inl (zA lt))), (a 2, .inl (cI, nO, .inl (zA (pfO nO nN len lt oq nq ((oq i) - 1))))), (a 4, .inl (cZ, nr, .inl (zA (zB rs)))), (a 8, .inl (cI, nF, .inl (zA ff))), (a 10, .inl (cI, nN, .inl (zA (pfN nN len lt nq ((oq i) - 1)))))] H := hP
          have hD : va_D A [(a 0, .inr (0, so a ts lp len sg vc)), (lp, .inl (cI, nl, .inl (zA lt))), (a 2, .inl (cI, nO, .inl (zA (pfO nO nN len lt oq nq ((oq i) - 1))))), (a 4, .inl (cZ, nr, .inl (zA (zB rs)))), (a 8, .inl (cI, nF, .inl (zA ff))), (a 10, .inl (cI, nN, .inl (zA (pfN nN len lt nq ((oq i) - 1)))))] := hD
          refine lv_iinc (v := zI (i + 1)) (lv' := [(1, .int (zI (i + 1))), (2, .int (zI ((oq i) - 1))), (0, .ref (a 0))]) hx hb dX0_induceFalling_51 hl (k := 2) rfl (zI_add _ _) (by decide) rfl (fun ls hl => ?_)
          refine lv_goto (tgt := 21) hx hb dX0_induceFalling_54 (by decide) ?_
          exact ih21 (i + 1) (pfO nO nN len lt oq nq ((oq i) - 1)) (pfN nN len lt nq ((oq i) - 1)) _ _ ls (by omega) (by omega) (by first | exact stF_t hq h0 (bi_ne (by with_reducible assumption)) | exact stF_f hq h0 (bi_eq (by with_reducible assumption))) (by omega) (hP) (hD) hS (lv_sub hl [2, 0] rfl)
  exact loop21 _ 0 (pfO nO nN len lt od (sbN sg nF ff 0 ns) (len - 1)) (pfN nN len lt (sbN sg nF ff 0 ns) (len - 1)) _ _ ls (by omega) (by omega) (rfl) (Nat.lt_succ_self _) hP hD hS (lv_sub hl [1, 0] rfl)
set_option maxHeartbeats 4000000 in
set_option maxRecDepth 100000 in
/-- induceRising() -/
theorem kX0_induceRising (l : Launch) (D : va_G) (cI cZ cL : ClassId) (a : Nat → Nat) (ts : Int) (lp : Nat) (len sg vc : Int) (nl nO nr nF nN : Nat) (lt : Int → Int) (rs : Int → Bool) (ff od ns : Int → Int) (szz : Nat) (hlen : 0 ≤ len) (hnl : len ≤ (nl : Int)) (bnl : (nl : Int) < 1073741824) (hlr : len ≤ (nr : Int)) (hlO : len ≤ (nO : Int)) (hsg : 0 ≤ sg) (hsn : sg ≤ (nN : Int)) (bnO : (nO : Int) < 1073741824) (bnr : (nr : Int) < 1073741824) (bnF : (nF : Int) < 1073741824) (bnN : (nN : Int) < 1073741824) (hlt : zS lt) (hok : ∀ k, k ≤ len.toNat → zS (zit (stR nO nN len lt rs) k (od, sbN sg nF ff 1 ns)).1 ∧ zS (zit (stR nO nN len lt rs) k (od, sbN sg nF ff 1 ns)).2) : Met l yX0_induceRising wsX0_induceRising ({ frames := 2, cells := 0, slots := 0, locals := 45 }) (zPw D cI cZ cL szz [.ref (a 0)] [(a 0, .inr (0, so a ts lp len sg vc)), (lp, .inl (cI, nl, .inl (zA lt))), (a 2, .inl (cI, nO, .inl (zA od))), (a 4, .inl (cZ, nr, .inl (zA (zB rs)))), (a 8, .inl (cI, nF, .inl (zA ff))), (a 10, .inl (cI, nN, .inl (zA ns)))]) (zQw D (va_A [(a 0, .inr (0, so a ts lp len sg vc)), (lp, .inl (cI, nl, .inl (zA lt))), (a 2, .inl (cI, nO, .inl (zA od))), (a 4, .inl (cZ, nr, .inl (zA (zB rs)))), (a 8, .inl (cI, nF, .inl (zA ff))), (a 10, .inl (cI, nN, .inl (zA ns)))] szz) (fun _ : Unit => True) (fun _ : Unit => [(a 0, .inr (0, so a ts lp len sg vc)), (lp, .inl (cI, nl, .inl (zA lt))), (a 2, .inl (cI, nO, .inl (zA ((zit (stR nO nN len lt rs) len.toNat (od, sbN sg nF ff 1 ns)).1)))), (a 4, .inl (cZ, nr, .inl (zA (zB rs)))), (a 8, .inl (cI, nF, .inl (zA ff))), (a 10, .inl (cI, nN, .inl (zA ((zit (stR nO nN len lt rs) len.toNat (od, sbN sg nF ff 1 ns)).2))))])) 0 0 (va_A [(a 0, .inr (0, so a ts lp len sg vc)), (lp, .inl (cI, nl, .inl (zA lt))), (a 2, .inl (cI, nO, .inl (zA od))), (a 4, .inl (cZ, nr, .inl (zA (zB rs)))), (a 8, .inl (cI, nF, .inl (zA ff))), (a 10, .inl (cI, nN, .inl (zA ns)))] szz) := by
  refine Met.ofW (cc := cX0_induceRising) (maxL := 3) (ret := none) (by decide) rfl ?_
  intro p e s m args below meth c s₁ B hml hv
  obtain ⟨rfl, hsz, hP, hK, hD0⟩ := hv
  have hx := B.exec
  have hb := B.bytes
  have hr := B.returns
  have hts := atoms_spec (ws := wsX0_induceRising) B.pre
  have hown : s.vm.findClass RX0 = some m.cls := findClass_of_methodNamed B.named
  have hlocks := B.notSynchronized
  subst hsz
  have hD := hD0.self (sz := s.heap.size)
  generalize hAe : va_A [(a 0, .inr (0, so a ts lp len sg vc)), (lp, .inl (cI, nl, .inl (zA lt))), (a 2, .inl (cI, nO, .inl (zA od))), (a 4, .inl (cZ, nr, .inl (zA (zB rs)))), (a 8, .inl (cI, nF, .inl (zA ff))), (a 10, .inl (cI, nN, .inl (zA ns)))] s.heap.size = A at hD ⊢
  have hA : ∀ q : Nat, s.heap.size ≤ q → A q := fun q h => by rw [← hAe]; exact Or.inr h
  have hS : va_S A s.heap s.heap [] := va_S.rf
  clear hD0
  have hP : va_P D vwCl [(a 0, .inr (0, so a ts lp len sg vc)), (lp, .inl (cI, nl, .inl (zA lt))), (a 2, .inl (cI, nO, .inl (zA od))), (a 4, .inl (cZ, nr, .inl (zA (zB rs)))), (a 8, .inl (cI, nF, .inl (zA ff))), (a 10, .inl (cI, nN, .inl (zA ns)))] s.heap := hP
  have hl := lv_entry ([.ref (a 0)]) (n := 3) (Nat.le_of_ble_eq_true rfl)
  rw [lg_entry_eq]
  generalize (lg_sl ([.ref (a 0)]) ++ List.replicate (3 - (lg_sl ([.ref (a 0)])).length) Slot.unset).toArray = ls at hl ⊢
  have hl : lv_has ls 3 [(0, .ref (a 0))] := hl
  refine lv_aload_n hx hb dX0_induceRising_0 rfl (lv_at hl 0 rfl) ?_
  refine lv_aload_n hx hb dX0_induceRising_1 rfl (lv_at hl 0 rfl) ?_
  refine va_get (D := D) (ci := 0) (v := .ref (a 8)) (C := RX0) (T := TX0) (N := 15) hx hb hts inX0_induceRising_X0 hown hK.1 hP 0 rfl rfl 7 (by decide) (hts (.fieldLink RX0 58 "TextEnds$EndSorter" "fallingFrom" "[I") (List.mem_of_getElem? (i := 1) rfl)) (fun _ h9 => h9) rfl dX0_induceRising_2 ?_
  refine lv_iconst (v := zI 1) hx hb dX0_induceRising_5 (by first | rfl | decide) ?_
  refine z_cw (wc := [(a 0, .inr (0, so a ts lp len sg vc)), (a 10, .inl (cI, nN, .inl (zA ns))), (a 8, .inl (cI, nF, .inl (zA ff)))]) (wr := [(lp, .inl (cI, nl, .inl (zA lt))), (a 2, .inl (cI, nO, .inl (zA od))), (a 4, .inl (cZ, nr, .inl (zA (zB rs))))]) (Wt := (fun _ : Unit => [(a 0, .inr (0, so a ts lp len sg vc)), (lp, .inl (cI, nl, .inl (zA lt))), (a 2, .inl (cI, nO, .inl (zA od))), (a 4, .inl (cZ, nr, .inl (zA (zB rs)))), (a 8, .inl (cI, nF, .inl (zA ff))), (a 10, .inl (cI, nN, .inl (zA (sbN sg nF ff 1 ns))))])) [0, 5, 4] [1, 2, 3] [3, 0, 1, 2, 5, 4] hP hD hS hA rfl rfl (by decide) (by decide) (by decide) (by decide) (fun _ => rfl) (fun _ => rfl) (fun hPc hDc => va_runV (As := [.ref (a 8), .int (zI 1)]) (rest := []) ⟨hx, hb, hml, hown, hts⟩ (kX0_startBuckets l D cI cZ cL a ts lp len sg vc (a 8) nF nN ff ns 1 _ (by omega) (by omega) (by omega) (by omega) (by omega)) (cwV 2 hts gX0_induceRising_X0_startBuckets rfl rfl rfl (by decide +kernel) ⟨Nat.le_of_ble_eq_true rfl, Nat.le_of_ble_eq_true rfl⟩) (zPw_preV (ci := 0) (q0 := 0) hK hPc hDc rfl rfl) rfl rfl hl.1 rfl (lv_room (Nat.le_of_ble_eq_true rfl)) dX0_induceRising_6 ⟨Nat.zero_le _, Nat.zero_le _⟩) rfl (fun u H locs hp_ hP hD hS => ?_)
  have hP : va_P D vwCl [(a 0, .inr (0, so a ts lp len sg vc)), (lp, .inl (cI, nl, .inl (zA lt))), (a 2, .inl (cI, nO, .inl (zA od))), (a 4, .inl (cZ, nr, .inl (zA (zB rs)))), (a 8, .inl (cI, nF, .inl (zA ff))), (a 10, .inl (cI, nN, .inl (zA (sbN sg nF ff 1 ns))))] H := hP
  have hD : va_D A [(a 0, .inr (0, so a ts lp len sg vc)), (lp, .inl (cI, nl, .inl (zA lt))), (a 2, .inl (cI, nO, .inl (zA od))), (a 4, .inl (cZ, nr, .inl (zA (zB rs)))), (a 8, .inl (cI, nF, .inl (zA ff))), (a 10, .inl (cI, nN, .inl (zA (sbN sg nF ff 1 ns))))] := hD
  refine lv_aload_n hx hb dX0_induceRising_9 rfl (lv_at hl 0 rfl) ?_
  refine va_get (D := D) (ci := 0) (v := .int (zI len)) (C := RX0) (T := TX0) (N := 15) hx hb hts inX0_induceRising_X0 hown hK.1 hP 0 rfl rfl 12 (by decide) (hts (.fieldLink RX0 103 "TextEnds$EndSorter" "length" "I") (List.mem_of_getElem? (i := 2) rfl)) (fun _ h9 => h9) rfl dX0_induceRising_10 ?_
  refine lv_iconst (v := zI 1) hx hb dX0_induceRising_13 (by first | rfl | decide) ?_
  refine z_isub hx hb dX0_induceRising_14 ?_
  refine lv_istore_n (lv' := [(1, .int (zI (len - 1))), (0, .ref (a 0))]) hx hb dX0_induceRising_15 rfl hl (by decide) rfl (fun ls hl => ?_)
  have loop16 : ∀ (nn : Nat) (i : Int) (oq : Int → Int) (nq : Int → Int) (H : Heap) (locs : List Loc) (ls : Array Slot), (-1 ≤ i) → (i ≤ len - 1) → ((oq, nq) = zit (stR nO nN len lt rs) (len - 1 - i).toNat (od, sbN sg nF ff 1 ns)) → ((i + 1).toNat) < nn → va_P D vwCl [(a 0, .inr (0, so a ts lp len sg vc)), (lp, .inl (cI, nl, .inl (zA lt))), (a 2, .inl (cI, nO, .inl (zA oq))), (a 4, .inl (cZ, nr, .inl (zA (zB rs)))), (a 8, .inl (cI, nF, .inl (zA ff))), (a 10, .inl (cI, nN, .inl (zA nq)))] H → va_D A [(a 0, .inr (0, so a ts lp len sg vc)), (lp, .inl (cI, nl, .inl (zA lt))), (a 2, .inl (cI, nO, .inl (zA oq))), (a 4, .inl (cZ, nr, .inl (zA (zB rs)))), (a 8, .inl (cI, nF, .inl (zA ff))), (a 10, .inl (cI, nN, .inl (zA nq)))] → va_S A s.heap H locs → lv_has ls 3 [(0, .ref (a 0)), (1, .int (zI i))] → W p l e (headSpec wsX0_induceRising ({ frames := 2, cells := 0, slots := 0, locals := 45 })).room s m ([.ref (a 0)] : List Value).toArray below meth c H locs 0 0 (MQ below (zQw D A (fun _ : Unit => True) (fun _ : Unit => [(a 0, .inr (0, so a ts lp len sg vc)), (lp, .inl (cI, nl, .inl (zA lt))), (a 2, .inl (cI, nO, .inl (zA ((zit (stR nO nN len lt rs) len.toNat (od, sbN sg nF ff 1 ns)).1)))), (a 4, .inl (cZ, nr, .inl (zA (zB rs)))), (a 8, .inl (cI, nF, .inl (zA ff))), (a 10, .inl (cI, nN, .inl (zA ((zit (stR nO nN len lt rs) len.toNat (od, sbN sg nF ff 1 ns)).2))))])) ([.ref (a 0)] : List Value).toArray s 0 0 A) (F0 m 16 ls []) := by
    intro nn
    induction nn with
    | zero =>
      intros
      exact absurd (by assumption : _ < 0) (Nat.not_lt_zero _)
    | succ nn ih16 =>
      intro i oq nq H locs ls h0 h1 hq hmu hP hD hS hl
      refine lv_iload_n hx hb dX0_induceRising_16 rfl (lv_at hl 1 rfl) ?_
      refine z_if_lt (tgt := 48) hx hb dX0_induceRising_17 (by decide) (by omega) (fun h_1 => ?_) (fun h_1 => ?_)
      · skip
        rw [show len - 1 - i = len by omega] at hq
        have hwe : oq = ((zit (stR nO nN len lt rs) len.toNat (od, sbN sg nF ff 1 ns)).1) := congrArg (fun z => z.1) hq
        rw [hwe] at hP hD
        clear hwe
        have hwe : nq = ((zit (stR nO nN len lt rs) len.toNat (od, sbN sg nF ff 1 ns)).2) := congrArg (fun z => z.2) hq
        rw [hwe] at hP hD
        clear hwe
        exact W.vret hx hb hr (fun t ht_ hW_ => ⟨⟨(), rfl, trivial, by rw [ht_]; exact hP, hD⟩, hS.F ht_⟩) hS.2.2 dX0_induceRising_48
      · skip
        have hk := hok (len - 1 - i).toNat (by omega)
        rw [← hq] at hk
        have hk1 : -1000000 ≤ oq i ∧ oq i ≤ 1000000 := hk.1 i
        have hk2 : zS nq := hk.2
        refine lv_aload_n hx hb dX0_induceRising_20 rfl (lv_at hl 0 rfl) ?_
        refine va_get (D := D) (ci := 0) (v := .ref (a 2)) (C := RX0) (T := TX0) (N := 15) hx hb hts inX0_induceRising_X0 hown hK.1 hP 0 rfl rfl 1 (by decide) (hts (.fieldLink RX0 42 "TextEnds$EndSorter" "order" "[I") (List.mem_of_getElem? (i := 3) rfl)) (fun _ h9 => h9) rfl dX0_induceRising_21 ?_
        refine lv_iload_n hx hb dX0_induceRising_24 rfl (lv_at hl 1 rfl) ?_
        refine z_iald hx hb hK.1 hP 2 0 rfl rfl dX0_induceRising_25 (by omega) (by omega) (by omega) ?_
        refine lv_iconst (v := zI 1) hx hb dX0_induceRising_26 (by first | rfl | decide) ?_
        refine z_isub hx hb dX0_induceRising_27 ?_
        refine lv_istore_n (lv' := [(2, .int (zI ((oq i) - 1))), (0, .ref (a 0)), (1, .int (zI i))]) hx hb dX0_induceRising_28 rfl hl (by decide) rfl (fun ls hl => ?_)
        refine lv_aload_n hx hb dX0_induceRising_29 rfl (lv_at hl 1 rfl) ?_
        refine lv_iload_n hx hb dX0_induceRising_30 rfl (lv_at hl 0 rfl) ?_
        refine z_cr (va_runV (As := [.int (zI ((oq i) - 1))]) (rest := []) ⟨hx, hb, hml, hown, hts⟩ (kX0_isRising l D cI cZ cL a ts lp len sg vc nr rs ((oq i) - 1) (by omega) (by omega) (by omega) (by omega)) (cwV 1 hts gX0_induceRising_X0_isRising rfl rfl rfl (by decide +kernel) ⟨Nat.le_of_ble_eq_true rfl, Nat.le_of_ble_eq_true rfl⟩) (zPr_preV (ci := 0) (q0 := 0) hK (hP.sub (ws' := [(a 0, .inr (0, so a ts lp len sg vc)), (a 4, .inl (cZ, nr, .inl (zA (zB rs))))]) [0, 3] rfl) rfl rfl) rfl rfl hl.1 rfl (lv_room (Nat.le_of_ble_eq_true rfl)) dX0_induceRising_31 ⟨Nat.zero_le _, Nat.zero_le _⟩) (fun r hr_ => ?_)
        subst hr_
        refine z_if_eq (tgt := 42) hx hb dX0_induceRising_34 (by decide) (bi_R _) (fun h_2 => ?_) (fun h_2 => ?_)
        · skip
          refine lv_iinc (v := zI (i + (-1))) (lv' := [(1, .int (zI (i + (-1)))), (2, .int (zI ((oq i) - 1))), (0, .ref (a 0))]) hx hb dX0_induceRising_42 hl (k := 2) rfl (zI_add _ _) (by decide) rfl (fun ls hl => ?_)
          refine lv_goto (tgt := 16) hx hb dX0_induceRising_45 (by decide) ?_
          exact ih16 (i + (-1)) oq nq _ _ ls (by omega) (by omega) (by first | exact stR_t hq h1 (bi_ne (by with_reducible assumption)) | exact stR_f hq h1 (bi_eq (by with_reducible assumption))) (by omega) (hP) (hD) hS (lv_sub hl [2, 0] rfl)
        · skip
          refine lv_aload_n hx hb dX0_induceRising_37 rfl (lv_at hl 1 rfl) ?_
          refine lv_iload_n hx hb dX0_induceRising_38 rfl (lv_at hl 0 rfl) ?_
          refine z_cw (wc := [(a 0, .inr (0, so a ts lp len sg vc)), (lp, .inl (cI, nl, .inl (zA lt))), (a 2, .inl (cI, nO, .inl (zA oq))), (a 10, .inl (cI, nN, .inl (zA nq)))]) (wr := [(a 4, .inl (cZ, nr, .inl (zA (zB rs)))), (a 8, .inl (cI, nF, .inl (zA ff)))]) (Wt := (fun _ : Unit => [(a 0, .inr (0, so a ts lp len sg vc)), (lp, .inl (cI, nl, .inl (zA lt))), (a 2, .inl (cI, nO, .inl (zA (pbO nO nN len lt oq nq ((oq i) - 1))))), (a 4, .inl (cZ, nr, .inl (zA (zB rs)))), (a 8, .inl (cI, nF, .inl (zA ff))), (a 10, .inl (cI, nN, .inl (zA (pbN nN len lt nq ((oq i) - 1)))))])) [0, 1, 2, 5] [3, 4] [2, 3, 4, 0, 1, 5] hP hD hS hA rfl rfl (by decide) (by decide) (by decide) (by decide) (fun _ => rfl) (fun _ => rfl) (fun hPc hDc => va_runV (As := [.int (zI ((oq i) - 1))]) (rest := []) ⟨hx, hb, hml, hown, hts⟩ (kX0_placeBack l D cI cZ cL a ts lp len sg vc nl nO nN lt oq nq ((oq i) - 1) _ (by omega) (by omega) (by omega) (hlt) (hk2) (by omega) (by omega) (by omega)) (cwV 1 hts gX0_induceRising_X0_placeBack rfl rfl rfl (by decide +kernel) ⟨Nat.le_of_ble_eq_true rfl, Nat.le_of_ble_eq_true rfl⟩) (zPw_preV (ci := 0) (q0 := 0) hK hPc hDc rfl rfl) rfl rfl hl.1 rfl (lv_room (Nat.le_of_ble_eq_true rfl)) dX0_induceRising_39 ⟨Nat.zero_le _, Nat.zero_le _⟩) rfl (fun u H locs hp_ hP hD hS => ?_)
          have hP : va_P D vwCl [(a 0, .inr (0, so a ts lp len sg vc)), (lp, .inl (cI, nl, .inl (zA lt))), (a 2, .inl (cI, nO, .inl (zA (pbO nO nN len lt oq nq ((oq i) - 1))))), (a 4, .inl (cZ, nr, .inl (zA (zB rs)))), (a 8, .inl (cI, nF, .inl (zA ff))), (a 10, .inl (cI, nN, .inl (zA (pbN nN len lt nq ((oq i) - 1)))))] H := hP
          have hD : va_D A [(a 0, .inr (0, so a ts lp len sg vc)), (lp, .inl (cI, nl, .inl (zA lt))), (a 2, .inl (cI, nO, .inl (zA (pbO nO nN len lt oq nq ((oq i) - 1))))), (a 4, .inl (cZ, nr, .inl (zA (zB rs)))), (a 8, .inl (cI, nF, .inl (zA ff))), (a 10, .inl (cI, nN, .inl (zA (pbN nN len lt nq ((oq i) - 1)))))] := hD
          refine lv_iinc (v := zI (i + (-1))) (lv' := [(1, .int (zI (i + (-1)))), (2, .int (zI ((oq i) - 1))), (0, .ref (a 0))]) hx hb dX0_induceRising_42 hl (k := 2) rfl (zI_add _ _) (by decide) rfl (fun ls hl => ?_)
          refine lv_goto (tgt := 16) hx hb dX0_induceRising_45 (by decide) ?_
          exact ih16 (i + (-1)) (pbO nO nN len lt oq nq ((oq i) - 1)) (pbN nN len lt nq ((oq i) - 1)) _ _ ls (by omega) (by omega) (by first | exact stR_t hq h1 (bi_ne (by with_reducible assumption)) | exact stR_f hq h1 (bi_eq (by with_reducible assumption))) (by omega) (hP) (hD) hS (lv_sub hl [2, 0] rfl)
  exact loop16 _ (len - 1) od (sbN sg nF ff 1 ns) _ _ ls (by omega) (by omega) (by rw [show len - 1 - (len - 1) = 0 by omega]; rfl) (Nat.lt_succ_self _) hP hD hS (lv_sub hl [1, 0] rfl)
set_option maxHeartbeats 4000000 in
set_option maxRecDepth 100000 in
/-- induceFrom(seeds) -/
theorem kX0_induceFrom (l : Launch) (D : va_G) (cI cZ cL : ClassId) (a : Nat → Nat) (ts : Int) (lp : Nat) (len sg vc : Int) (sp nl nO nr nF nR nN nS : Nat) (lt : Int → Int) (rs : Int → Bool) (ff rf od ns sd : Int → Int) (szz : Nat) (hlen : 0 ≤ len) (hnl : len ≤ (nl : Int)) (bnl : (nl : Int) < 1073741824) (hlr : len ≤ (nr : Int)) (hlO : len ≤ (nO : Int)) (hsg : 0 ≤ sg) (hsn : sg ≤ (nN : Int)) (hvc : 0 ≤ vc ∧ vc ≤ 1000000) (bnO : (nO : Int) < 1073741824) (bnr : (nr : Int) < 1073741824) (bnF : (nF : Int) < 1073741824) (bnR : (nR : Int) < 1073741824) (bnN : (nN : Int) < 1073741824) (bnS : (nS : Int) < 1073741824) (hlt : zS lt) (hff : zS ff) (hsd : zS sd) (hoS : ∀ k, k ≤ vc.toNat → zS (zit (stS nO nN nS len lt sd) k (zfill 0 len (fun _ => -1) od, sbN sg nR rf 0 ns)).2) (hoF : ∀ k, k ≤ len.toNat → zS (zit (stF nO nN len lt rs) k (ifq0 nO nN nF len sg lt ff (inS nO nN nS nR len sg vc lt rf od ns sd).1 (inS nO nN nS nR len sg vc lt rf od ns sd).2)).1 ∧ zS (zit (stF nO nN len lt rs) k (ifq0 nO nN nF len sg lt ff (inS nO nN nS nR len sg vc lt rf od ns sd).1 (inS nO nN nS nR len sg vc lt rf od ns sd).2)).2) (hoR : ∀ k, k ≤ len.toNat → zS (zit (stR nO nN len lt rs) k ((inF nO nN nS nF nR len sg vc lt rs ff rf od ns sd).1, sbN sg nF ff 1 (inF nO nN nS nF nR len sg vc lt rs ff rf od ns sd).2)).1 ∧ zS (zit (stR nO nN len lt rs) k ((inF nO nN nS nF nR len sg vc lt rs ff rf od ns sd).1, sbN sg nF ff 1 (inF nO nN nS nF nR len sg vc lt rs ff rf od ns sd).2)).2) : Met l yX0_induceFrom wsX0_induceFrom ({ frames := 3, cells := 0, slots := 0, locals := 67 }) (zPw D cI cZ cL szz [.ref (a 0), .ref sp] [(a 0, .inr (0, so a ts lp len sg vc)), (lp, .inl (cI, nl, .inl (zA lt))), (a 2, .inl (cI, nO, .inl (zA od))), (a 4, .inl (cZ, nr, .inl (zA (zB rs)))), (a 8, .inl (cI, nF, .inl (zA ff))), (a 9, .inl (cI, nR, .inl (zA rf))), (a 10, .inl (cI, nN, .inl (zA ns))), (sp, .inl (cI, nS, .inl (zA sd)))]) (zQw D (va_A [(a 0, .inr (0, so a ts lp len sg vc)), (lp, .inl (cI, nl, .inl (zA lt))), (a 2, .inl (cI, nO, .inl (zA od))), (a 4, .inl (cZ, nr, .inl (zA (zB rs)))), (a 8, .inl (cI, nF, .inl (zA ff))), (a 9, .inl (cI, nR, .inl (zA rf))), (a 10, .inl (cI, nN, .inl (zA ns))), (sp, .inl (cI, nS, .inl (zA sd)))] szz) (fun _ : Unit => True) (fun _ : Unit => [(a 0, .inr (0, so a ts lp len sg vc)), (lp, .inl (cI, nl, .inl (zA lt))), (a 2, .inl (cI, nO, .inl (zA ((inR nO nN nS nF nR len sg vc lt rs ff rf od ns sd).1)))), (a 4, .inl (cZ, nr, .inl (zA (zB rs)))), (a 8, .inl (cI, nF, .inl (zA ff))), (a 9, .inl (cI, nR, .inl (zA rf))), (a 10, .inl (cI, nN, .inl (zA ((inR nO nN nS nF nR len sg vc lt rs ff rf od ns sd).2)))), (sp, .inl (cI, nS, .inl (zA sd)))])) 0 0 (va_A [(a 0, .inr (0, so a ts lp len sg vc)), (lp, .inl (cI, nl, .inl (zA lt))), (a 2, .inl (cI, nO, .inl (zA od))), (a 4, .inl (cZ, nr, .inl (zA (zB rs)))), (a 8, .inl (cI, nF, .inl (zA ff))), (a 9, .inl (cI, nR, .inl (zA rf))), (a 10, .inl (cI, nN, .inl (zA ns))), (sp, .inl (cI, nS, .inl (zA sd)))] szz) := by
  refine Met.ofW (cc := cX0_induceFrom) (maxL := 3) (ret := none) (by decide) rfl ?_
  intro p e s m args below meth c s₁ B hml hv
  obtain ⟨rfl, hsz, hP, hK, hD0⟩ := hv
  have hx := B.exec
  have hb := B.bytes
  have hr := B.returns
  have hts := atoms_spec (ws := wsX0_induceFrom) B.pre
  have hown : s.vm.findClass RX0 = some m.cls := findClass_of_methodNamed B.named
  have hlocks := B.notSynchronized
  subst hsz
  have hD := hD0.self (sz := s.heap.size)
  generalize hAe : va_A [(a 0, .inr (0, so a ts lp len sg vc)), (lp, .inl (cI, nl, .inl (zA lt))), (a 2, .inl (cI, nO, .inl (zA od))), (a 4, .inl (cZ, nr, .inl (zA (zB rs)))), (a 8, .inl (cI, nF, .inl (zA ff))), (a 9, .inl (cI, nR, .inl (zA rf))), (a 10, .inl (cI, nN, .inl (zA ns))), (sp, .inl (cI, nS, .inl (zA sd)))] s.heap.size = A at hD ⊢
  have hA : ∀ q : Nat, s.heap.size ≤ q → A q := fun q h => by rw [← hAe]; exact Or.inr h
  have hS : va_S A s.heap s.heap [] := va_S.rf
  clear hD0
  have hP : va_P D vwCl [(a 0, .inr (0, so a ts lp len sg vc)), (lp, .inl (cI, nl, .inl (zA lt))), (a 2, .inl (cI, nO, .inl (zA od))), (a 4, .inl (cZ, nr, .inl (zA (zB rs)))), (a 8, .inl (cI, nF, .inl (zA ff))), (a 9, .inl (cI, nR, .inl (zA rf))), (a 10, .inl (cI, nN, .inl (zA ns))), (sp, .inl (cI, nS, .inl (zA sd)))] s.heap := hP
  have hl := lv_entry ([.ref (a 0), .ref sp]) (n := 3) (Nat.le_of_ble_eq_true rfl)
  rw [lg_entry_eq]
  generalize (lg_sl ([.ref (a 0), .ref sp]) ++ List.replicate (3 - (lg_sl ([.ref (a 0), .ref sp])).length) Slot.unset).toArray = ls at hl ⊢
  have hl : lv_has ls 3 [(0, .ref (a 0)), (1, .ref sp)] := hl
  refine lv_iconst (v := zI 0) hx hb dX0_induceFrom_0 (by first | rfl | decide) ?_
  refine lv_istore_n (lv' := [(2, .int (zI 0)), (0, .ref (a 0)), (1, .ref sp)]) hx hb dX0_induceFrom_1 rfl hl (by decide) rfl (fun ls hl => ?_)
  have loop2 : ∀ (nn : Nat) (k : Int) (oA : Int → Int) (H : Heap) (locs : List Loc) (ls : Array Slot), (0 ≤ k) → (k ≤ len) → (oA = zfill 0 k (fun _ => -1) od) → ((len - k).toNat) < nn → va_P D vwCl [(a 0, .inr (0, so a ts lp len sg vc)), (lp, .inl (cI, nl, .inl (zA lt))), (a 2, .inl (cI, nO, .inl (zA oA))), (a 4, .inl (cZ, nr, .inl (zA (zB rs)))), (a 8, .inl (cI, nF, .inl (zA ff))), (a 9, .inl (cI, nR, .inl (zA rf))), (a 10, .inl (cI, nN, .inl (zA ns))), (sp, .inl (cI, nS, .inl (zA sd)))] H → va_D A [(a 0, .inr (0, so a ts lp len sg vc)), (lp, .inl (cI, nl, .inl (zA lt))), (a 2, .inl (cI, nO, .inl (zA oA))), (a 4, .inl (cZ, nr, .inl (zA (zB rs)))), (a 8, .inl (cI, nF, .inl (zA ff))), (a 9, .inl (cI, nR, .inl (zA rf))), (a 10, .inl (cI, nN, .inl (zA ns))), (sp, .inl (cI, nS, .inl (zA sd)))] → va_S A s.heap H locs → lv_has ls 3 [(0, .ref (a 0)), (1, .ref sp), (2, .int (zI k))] → W p l e (headSpec wsX0_induceFrom ({ frames := 3, cells := 0, slots := 0, locals := 67 })).room s m ([.ref (a 0), .ref sp] : List Value).toArray below meth c H locs 0 0 (MQ below (zQw D A (fun _ : Unit => True) (fun _ : Unit => [(a 0, .inr (0, so a ts lp len sg vc)), (lp, .inl (cI, nl, .inl (zA lt))), (a 2, .inl (cI, nO, .inl (zA ((inR nO nN nS nF nR len sg vc lt rs ff rf od ns sd).1)))), (a 4, .inl (cZ, nr, .inl (zA (zB rs)))), (a 8, .inl (cI, nF, .inl (zA ff))), (a 9, .inl (cI, nR, .inl (zA rf))), (a 10, .inl (cI, nN, .inl (zA ((inR nO nN nS nF nR len sg vc lt rs ff rf od ns sd).2)))), (sp, .inl (cI, nS, .inl (zA sd)))])) ([.ref (a 0), .ref sp] : List Value).toArray s 0 0 A) (F0 m 2 ls []) := by
    intro nn
    induction nn with
    | zero =>
      intros
      exact absurd (by assumption : _ < 0) (Nat.not_lt_zero _)
    | succ nn ih2 =>
      intro k oA H locs ls h0 h1 hoA hmu hP hD hS hl
      refine lv_iload_n hx hb dX0_induceFrom_2 rfl (lv_at hl 2 rfl) ?_
      refine lv_aload_n hx hb dX0_induceFrom_3 rfl (lv_at hl 0 rfl) ?_
      refine va_get (D := D) (ci := 0) (v := .int (zI len)) (C := RX0) (T := TX0) (N := 15) hx hb hts inX0_induceFrom_X0 hown hK.1 hP 0 rfl rfl 12 (by decide) (hts (.fieldLink RX0 103 "TextEnds$EndSorter" "length" "I") (List.mem_of_getElem? (i := 1) rfl)) (fun _ h9 => h9) rfl dX0_induceFrom_4 ?_
      refine z_icmp_ge (tgt := 23) hx hb dX0_induceFrom_7 (by decide) (by omega) (by omega) (fun h_1 => ?_) (fun h_1 => ?_)
      · skip
        refine lv_aload_n hx hb dX0_induceFrom_23 rfl (lv_at hl 0 rfl) ?_
        refine lv_aload_n hx hb dX0_induceFrom_24 rfl (lv_at hl 0 rfl) ?_
        refine va_get (D := D) (ci := 0) (v := .ref (a 9)) (C := RX0) (T := TX0) (N := 15) hx hb hts inX0_induceFrom_X0 hown hK.1 hP 0 rfl rfl 8 (by decide) (hts (.fieldLink RX0 61 "TextEnds$EndSorter" "risingFrom" "[I") (List.mem_of_getElem? (i := 3) rfl)) (fun _ h9 => h9) rfl dX0_induceFrom_25 ?_
        refine lv_iconst (v := zI 0) hx hb dX0_induceFrom_28 (by first | rfl | decide) ?_
        refine z_cw (wc := [(a 0, .inr (0, so a ts lp len sg vc)), (a 10, .inl (cI, nN, .inl (zA ns))), (a 9, .inl (cI, nR, .inl (zA rf)))]) (wr := [(lp, .inl (cI, nl, .inl (zA lt))), (a 2, .inl (cI, nO, .inl (zA oA))), (a 4, .inl (cZ, nr, .inl (zA (zB rs)))), (a 8, .inl (cI, nF, .inl (zA ff))), (sp, .inl (cI, nS, .inl (zA sd)))]) (Wt := (fun _ : Unit => [(a 0, .inr (0, so a ts lp len sg vc)), (lp, .inl (cI, nl, .inl (zA lt))), (a 2, .inl (cI, nO, .inl (zA oA))), (a 4, .inl (cZ, nr, .inl (zA (zB rs)))), (a 8, .inl (cI, nF, .inl (zA ff))), (a 9, .inl (cI, nR, .inl (zA rf))), (a 10, .inl (cI, nN, .inl (zA (sbN sg nR rf 0 ns)))), (sp, .inl (cI, nS, .inl (zA sd)))])) [0, 6, 5] [1, 2, 3, 4, 7] [5, 0, 1, 2, 3, 7, 6, 4] hP hD hS hA rfl rfl (by decide) (by decide) (by decide) (by decide) (fun _ => rfl) (fun _ => rfl) (fun hPc hDc => va_runV (As := [.ref (a 9), .int (zI 0)]) (rest := []) ⟨hx, hb, hml, hown, hts⟩ (kX0_startBuckets l D cI cZ cL a ts lp len sg vc (a 9) nR nN rf ns 0 _ (by omega) (by omega) (by omega) (by omega) (by omega)) (cwV 2 hts gX0_induceFrom_X0_startBuckets rfl rfl rfl (by decide +kernel) ⟨Nat.le_of_ble_eq_true rfl, Nat.le_of_ble_eq_true rfl⟩) (zPw_preV (ci := 0) (q0 := 0) hK hPc hDc rfl rfl) rfl rfl hl.1 rfl (lv_room (Nat.le_of_ble_eq_true rfl)) dX0_induceFrom_29 ⟨Nat.zero_le _, Nat.zero_le _⟩) rfl (fun u H locs hp_ hP hD hS => ?_)
        have hP : va_P D vwCl [(a 0, .inr (0, so a ts lp len sg vc)), (lp, .inl (cI, nl, .inl (zA lt))), (a 2, .inl (cI, nO, .inl (zA oA))), (a 4, .inl (cZ, nr, .inl (zA (zB rs)))), (a 8, .inl (cI, nF, .inl (zA ff))), (a 9, .inl (cI, nR, .inl (zA rf))), (a 10, .inl (cI, nN, .inl (zA (sbN sg nR rf 0 ns)))), (sp, .inl (cI, nS, .inl (zA sd)))] H := hP
        have hD : va_D A [(a 0, .inr (0, so a ts lp len sg vc)), (lp, .inl (cI, nl, .inl (zA lt))), (a 2, .inl (cI, nO, .inl (zA oA))), (a 4, .inl (cZ, nr, .inl (zA (zB rs)))), (a 8, .inl (cI, nF, .inl (zA ff))), (a 9, .inl (cI, nR, .inl (zA rf))), (a 10, .inl (cI, nN, .inl (zA (sbN sg nR rf 0 ns)))), (sp, .inl (cI, nS, .inl (zA sd)))] := hD
        refine lv_iconst (v := zI 0) hx hb dX0_induceFrom_32 (by first | rfl | decide) ?_
        refine lv_istore_n (lv' := [(2, .int (zI 0)), (0, .ref (a 0)), (1, .ref sp)]) hx hb dX0_induceFrom_33 rfl hl (by decide) rfl (fun ls hl => ?_)
        have loop34 : ∀ (nn : Nat) (i : Int) (oB : Int → Int) (nB : Int → Int) (H : Heap) (locs : List Loc) (ls : Array Slot), (0 ≤ i) → (i ≤ vc) → ((oB, nB) = zit (stS nO nN nS len lt sd) i.toNat (zfill 0 len (fun _ => -1) od, sbN sg nR rf 0 ns)) → ((vc - i).toNat) < nn → va_P D vwCl [(a 0, .inr (0, so a ts lp len sg vc)), (lp, .inl (cI, nl, .inl (zA lt))), (a 2, .inl (cI, nO, .inl (zA oB))), (a 4, .inl (cZ, nr, .inl (zA (zB rs)))), (a 8, .inl (cI, nF, .inl (zA ff))), (a 9, .inl (cI, nR, .inl (zA rf))), (a 10, .inl (cI, nN, .inl (zA nB))), (sp, .inl (cI, nS, .inl (zA sd)))] H → va_D A [(a 0, .inr (0, so a ts lp len sg vc)), (lp, .inl (cI, nl, .inl (zA lt))), (a 2, .inl (cI, nO, .inl (zA oB))), (a 4, .inl (cZ, nr, .inl (zA (zB rs)))), (a 8, .inl (cI, nF, .inl (zA ff))), (a 9, .inl (cI, nR, .inl (zA rf))), (a 10, .inl (cI, nN, .inl (zA nB))), (sp, .inl (cI, nS, .inl (zA sd)))] → va_S A s.heap H locs → lv_has ls 3 [(0, .ref (a 0)), (1, .ref sp), (2, .int (zI i))] → W p l e (headSpec wsX0_induceFrom ({ frames := 3, cells := 0, slots := 0, locals := 67 })).room s m ([.ref (a 0), .ref sp] : List Value).toArray below meth c H locs 0 0 (MQ below (zQw D A (fun _ : Unit => True) (fun _ : Unit => [(a 0, .inr (0, so a ts lp len sg vc)), (lp, .inl (cI, nl, .inl (zA lt))), (a 2, .inl (cI, nO, .inl (zA ((inR nO nN nS nF nR len sg vc lt rs ff rf od ns sd).1)))), (a 4, .inl (cZ, nr, .inl (zA (zB rs)))), (a 8, .inl (cI, nF, .inl (zA ff))), (a 9, .inl (cI, nR, .inl (zA rf))), (a 10, .inl (cI, nN, .inl (zA ((inR nO nN nS nF nR len sg vc lt rs ff rf od ns sd).2)))), (sp, .inl (cI, nS, .inl (zA sd)))])) ([.ref (a 0), .ref sp] : List Value).toArray s 0 0 A) (F0 m 34 ls []) := by
          intro nn
          induction nn with
          | zero =>
            intros
            exact absurd (by assumption : _ < 0) (Nat.not_lt_zero _)
          | succ nn ih34 =>
            intro i oB nB H locs ls g0 g1 hqS hmu hP hD hS hl
            refine lv_iload_n hx hb dX0_induceFrom_34 rfl (lv_at hl 2 rfl) ?_
            refine lv_aload_n hx hb dX0_induceFrom_35 rfl (lv_at hl 0 rfl) ?_
            refine va_get (D := D) (ci := 0) (v := .int (zI vc)) (C := RX0) (T := TX0) (N := 15) hx hb hts inX0_induceFrom_X0 hown hK.1 hP 0 rfl rfl 14 (by decide) (hts (.fieldLink RX0 97 "TextEnds$EndSorter" "valleyCount" "I") (List.mem_of_getElem? (i := 4) rfl)) (fun _ h9 => h9) rfl dX0_induceFrom_36 ?_
            refine z_icmp_ge (tgt := 57) hx hb dX0_induceFrom_39 (by decide) (by omega) (by omega) (fun h_2 => ?_) (fun h_2 => ?_)
            · skip
              rw [show i = vc by omega] at hqS
              have hk := hoS vc.toNat (Nat.le_refl _)
              rw [← hqS] at hk
              have hk2 : zS nB := hk
              have hwe : oB = ((inS nO nN nS nR len sg vc lt rf od ns sd).1) := congrArg (fun z => z.1) hqS
              rw [hwe] at hP hD
              clear hwe
              have hwe : nB = ((inS nO nN nS nR len sg vc lt rf od ns sd).2) := congrArg (fun z => z.2) hqS
              rw [hwe] at hP hD
              clear hwe
              refine lv_aload_n hx hb dX0_induceFrom_57 rfl (lv_at hl 0 rfl) ?_
              refine z_cw (wc := [(a 0, .inr (0, so a ts lp len sg vc)), (lp, .inl (cI, nl, .inl (zA lt))), (a 2, .inl (cI, nO, .inl (zA ((inS nO nN nS nR len sg vc lt rf od ns sd).1)))), (a 4, .inl (cZ, nr, .inl (zA (zB rs)))), (a 8, .inl (cI, nF, .inl (zA ff))), (a 10, .inl (cI, nN, .inl (zA ((inS nO nN nS nR len sg vc lt rf od ns sd).2))))]) (wr := [(a 9, .inl (cI, nR, .inl (zA rf))), (sp, .inl (cI, nS, .inl (zA sd)))]) (Wt := (fun _ : Unit => [(a 0, .inr (0, so a ts lp len sg vc)), (lp, .inl (cI, nl, .inl (zA lt))), (a 2, .inl (cI, nO, .inl (zA ((zit (stF nO nN len lt rs) len.toNat (ifq0 nO nN nF len sg lt ff ((inS nO nN nS nR len sg vc lt rf od ns sd).1) ((inS nO nN nS nR len sg vc lt rf od ns sd).2))).1)))), (a 4, .inl (cZ, nr, .inl (zA (zB rs)))), (a 8, .inl (cI, nF, .inl (zA ff))), (a 9, .inl (cI, nR, .inl (zA rf))), (a 10, .inl (cI, nN, .inl (zA ((zit (stF nO nN len lt rs) len.toNat (ifq0 nO nN nF len sg lt ff ((inS nO nN nS nR len sg vc lt rf od ns sd).1) ((inS nO nN nS nR len sg vc lt rf od ns sd).2))).2)))), (sp, .inl (cI, nS, .inl (zA sd)))])) [0, 1, 2, 3, 4, 6] [5, 7] [2, 3, 4, 5, 6, 0, 7, 1] hP hD hS hA rfl rfl (by decide) (by decide) (by decide) (by decide) (fun _ => rfl) (fun _ => rfl) (fun hPc hDc => va_runV (As := []) (rest := []) ⟨hx, hb, hml, hown, hts⟩ (kX0_induceFalling l D cI cZ cL a ts lp len sg vc nl nO nr nF nN lt rs ff ((inS nO nN nS nR len sg vc lt rf od ns sd).1) ((inS nO nN nS nR len sg vc lt rf od ns sd).2) _ (by omega) (by omega) (by omega) (by omega) (by omega) (by omega) (by omega) (by omega) (by omega) (by omega) (by omega) (hlt) (hff) (by rw [show (inS nO nN nS nR len sg vc lt rf od ns sd).2 = nB from (congrArg (fun z => z.2) hqS).symm]; exact hk2) (hoF)) (cwV 0 hts gX0_induceFrom_X0_induceFalling rfl rfl rfl (by decide +kernel) ⟨Nat.le_of_ble_eq_true rfl, Nat.le_of_ble_eq_true rfl⟩) (zPw_preV (ci := 0) (q0 := 0) hK hPc hDc rfl rfl) rfl rfl hl.1 rfl (lv_room (Nat.le_of_ble_eq_true rfl)) dX0_induceFrom_58 ⟨Nat.zero_le _, Nat.zero_le _⟩) rfl (fun u H locs hp_ hP hD hS => ?_)
              have hP : va_P D vwCl [(a 0, .inr (0, so a ts lp len sg vc)), (lp, .inl (cI, nl, .inl (zA lt))), (a 2, .inl (cI, nO, .inl (zA ((zit (stF nO nN len lt rs) len.toNat (ifq0 nO nN nF len sg lt ff ((inS nO nN nS nR len sg vc lt rf od ns sd).1) ((inS nO nN nS nR len sg vc lt rf od ns sd).2))).1)))), (a 4, .inl (cZ, nr, .inl (zA (zB rs)))), (a 8, .inl (cI, nF, .inl (zA ff))), (a 9, .inl (cI, nR, .inl (zA rf))), (a 10, .inl (cI, nN, .inl (zA ((zit (stF nO nN len lt rs) len.toNat (ifq0 nO nN nF len sg lt ff ((inS nO nN nS nR len sg vc lt rf od ns sd).1) ((inS nO nN nS nR len sg vc lt rf od ns sd).2))).2)))), (sp, .inl (cI, nS, .inl (zA sd)))] H := hP
              have hD : va_D A [(a 0, .inr (0, so a ts lp len sg vc)), (lp, .inl (cI, nl, .inl (zA lt))), (a 2, .inl (cI, nO, .inl (zA ((zit (stF nO nN len lt rs) len.toNat (ifq0 nO nN nF len sg lt ff ((inS nO nN nS nR len sg vc lt rf od ns sd).1) ((inS nO nN nS nR len sg vc lt rf od ns sd).2))).1)))), (a 4, .inl (cZ, nr, .inl (zA (zB rs)))), (a 8, .inl (cI, nF, .inl (zA ff))), (a 9, .inl (cI, nR, .inl (zA rf))), (a 10, .inl (cI, nN, .inl (zA ((zit (stF nO nN len lt rs) len.toNat (ifq0 nO nN nF len sg lt ff ((inS nO nN nS nR len sg vc lt rf od ns sd).1) ((inS nO nN nS nR len sg vc lt rf od ns sd).2))).2)))), (sp, .inl (cI, nS, .inl (zA sd)))] := hD
              have hwe : ((zit (stF nO nN len lt rs) len.toNat (ifq0 nO nN nF len sg lt ff ((inS nO nN nS nR len sg vc lt rf od ns sd).1) ((inS nO nN nS nR len sg vc lt rf od ns sd).2))).1) = ((inF nO nN nS nF nR len sg vc lt rs ff rf od ns sd).1) := rfl
              rw [hwe] at hP hD
              clear hwe
              have hwe : ((zit (stF nO nN len lt rs) len.toNat (ifq0 nO nN nF len sg lt ff ((inS nO nN nS nR len sg vc lt rf od ns sd).1) ((inS nO nN nS nR len sg vc lt rf od ns sd).2))).2) = ((inF nO nN nS nF nR len sg vc lt rs ff rf od ns sd).2) := rfl
              rw [hwe] at hP hD
              clear hwe
              refine lv_aload_n hx hb dX0_induceFrom_61 rfl (lv_at hl 0 rfl) ?_
              refine z_cw (wc := [(a 0, .inr (0, so a ts lp len sg vc)), (lp, .inl (cI, nl, .inl (zA lt))), (a 2, .inl (cI, nO, .inl (zA ((inF nO nN nS nF nR len sg vc lt rs ff rf od ns sd).1)))), (a 4, .inl (cZ, nr, .inl (zA (zB rs)))), (a 8, .inl (cI, nF, .inl (zA ff))), (a 10, .inl (cI, nN, .inl (zA ((inF nO nN nS nF nR len sg vc lt rs ff rf od ns sd).2))))]) (wr := [(a 9, .inl (cI, nR, .inl (zA rf))), (sp, .inl (cI, nS, .inl (zA sd)))]) (Wt := (fun _ : Unit => [(a 0, .inr (0, so a ts lp len sg vc)), (lp, .inl (cI, nl, .inl (zA lt))), (a 2, .inl (cI, nO, .inl (zA ((zit (stR nO nN len lt rs) len.toNat (((inF nO nN nS nF nR len sg vc lt rs ff rf od ns sd).1), sbN sg nF ff 1 ((inF nO nN nS nF nR len sg vc lt rs ff rf od ns sd).2))).1)))), (a 4, .inl (cZ, nr, .inl (zA (zB rs)))), (a 8, .inl (cI, nF, .inl (zA ff))), (a 9, .inl (cI, nR, .inl (zA rf))), (a 10, .inl (cI, nN, .inl (zA ((zit (stR nO nN len lt rs) len.toNat (((inF nO nN nS nF nR len sg vc lt rs ff rf od ns sd).1), sbN sg nF ff 1 ((inF nO nN nS nF nR len sg vc lt rs ff rf od ns sd).2))).2)))), (sp, .inl (cI, nS, .inl (zA sd)))])) [0, 1, 2, 3, 4, 6] [5, 7] [2, 3, 4, 5, 6, 0, 7, 1] hP hD hS hA rfl rfl (by decide) (by decide) (by decide) (by decide) (fun _ => rfl) (fun _ => rfl) (fun hPc hDc => va_runV (As := []) (rest := []) ⟨hx, hb, hml, hown, hts⟩ (kX0_induceRising l D cI cZ cL a ts lp len sg vc nl nO nr nF nN lt rs ff ((inF nO nN nS nF nR len sg vc lt rs ff rf od ns sd).1) ((inF nO nN nS nF nR len sg vc lt rs ff rf od ns sd).2) _ (by omega) (by omega) (by omega) (by omega) (by omega) (by omega) (by omega) (by omega) (by omega) (by omega) (by omega) (hlt) (hoR)) (cwV 0 hts gX0_induceFrom_X0_induceRising rfl rfl rfl (by decide +kernel) ⟨Nat.le_of_ble_eq_true rfl, Nat.le_of_ble_eq_true rfl⟩) (zPw_preV (ci := 0) (q0 := 0) hK hPc hDc rfl rfl) rfl rfl hl.1 rfl (lv_room (Nat.le_of_ble_eq_true rfl)) dX0_induceFrom_62 ⟨Nat.zero_le _, Nat.zero_le _⟩) rfl (fun u H locs hp_ hP hD hS => ?_)
              have hP : va_P D vwCl [(a 0, .inr (0, so a ts lp len sg vc)), (lp, .inl (cI, nl, .inl (zA lt))), (a 2, .inl (cI, nO, .inl (zA ((zit (stR nO nN len lt rs) len.toNat (((inF nO nN nS nF nR len sg vc lt rs ff rf od ns sd).1), sbN sg nF ff 1 ((inF nO nN nS nF nR len sg vc lt rs ff rf od ns sd).2))).1)))), (a 4, .inl (cZ, nr, .inl (zA (zB rs)))), (a 8, .inl (cI, nF, .inl (zA ff))), (a 9, .inl (cI, nR, .inl (zA rf))), (a 10, .inl (cI, nN, .inl (zA ((zit (stR nO nN len lt rs) len.toNat (((inF nO nN nS nF nR len sg vc lt rs ff rf od ns sd).1), sbN sg nF ff 1 ((inF nO nN nS nF nR len sg vc lt rs ff rf od ns sd).2))).2)))), (sp, .inl (cI, nS, .inl (zA sd)))] H := hP
              have hD : va_D A [(a 0, .inr (0, so a ts lp len sg vc)), (lp, .inl (cI, nl, .inl (zA lt))), (a 2, .inl (cI, nO, .inl (zA ((zit (stR nO nN len lt rs) len.toNat (((inF nO nN nS nF nR len sg vc lt rs ff rf od ns sd).1), sbN sg nF ff 1 ((inF nO nN nS nF nR len sg vc lt rs ff rf od ns sd).2))).1)))), (a 4, .inl (cZ, nr, .inl (zA (zB rs)))), (a 8, .inl (cI, nF, .inl (zA ff))), (a 9, .inl (cI, nR, .inl (zA rf))), (a 10, .inl (cI, nN, .inl (zA ((zit (stR nO nN len lt rs) len.toNat (((inF nO nN nS nF nR len sg vc lt rs ff rf od ns sd).1), sbN sg nF ff 1 ((inF nO nN nS nF nR len sg vc lt rs ff rf od ns sd).2))).2)))), (sp, .inl (cI, nS, .inl (zA sd)))] := hD
              have hwe : ((zit (stR nO nN len lt rs) len.toNat (((inF nO nN nS nF nR len sg vc lt rs ff rf od ns sd).1), sbN sg nF ff 1 ((inF nO nN nS nF nR len sg vc lt rs ff rf od ns sd).2))).1) = ((inR nO nN nS nF nR len sg vc lt rs ff rf od ns sd).1) := rfl
              rw [hwe] at hP hD
              clear hwe
              have hwe : ((zit (stR nO nN len lt rs) len.toNat (((inF nO nN nS nF nR len sg vc lt rs ff rf od ns sd).1), sbN sg nF ff 1 ((inF nO nN nS nF nR len sg vc lt rs ff rf od ns sd).2))).2) = ((inR nO nN nS nF nR len sg vc lt rs ff rf od ns sd).2) := rfl
              rw [hwe] at hP hD
              clear hwe
              exact W.vret hx hb hr (fun t ht_ hW_ => ⟨⟨(), rfl, trivial, by rw [ht_]; exact hP, hD⟩, hS.F ht_⟩) hS.2.2 dX0_induceFrom_65
            · skip
              have hk := hoS i.toNat (by omega)
              rw [← hqS] at hk
              have hk2 : zS nB := hk
              have hk3 := zat_S hsd nS i
              refine lv_aload_n hx hb dX0_induceFrom_42 rfl (lv_at hl 0 rfl) ?_
              refine lv_aload_n hx hb dX0_induceFrom_43 rfl (lv_at hl 1 rfl) ?_
              refine lv_iload_n hx hb dX0_induceFrom_44 rfl (lv_at hl 2 rfl) ?_
              refine z_cr (va_runSN (As := [.ref sp, .int (zI i)]) (rest := [.ref (a 0)]) ⟨hx, hb, hml, hown, hts⟩ (kX2_at l D cI cZ cL sp nS sd i (by omega) (by omega)) ⟨va_cnB 2 hts gX0_induceFrom_X2_at_n131 rfl rfl rfl hK.2.2 (hts (.initialized RX2) (List.mem_of_getElem? (i := 13) rfl)) (by decide +kernel) ⟨Nat.le_of_ble_eq_true rfl, Nat.le_of_ble_eq_true rfl⟩, hts (.static yX2_at) (List.mem_of_getElem? (i := 12) rfl), trivial⟩ (zPr_pre hK (hP.sub (ws' := [(sp, .inl (cI, nS, .inl (zA sd)))]) [7] rfl)) rfl rfl hl.1 rfl (lv_room (Nat.le_of_ble_eq_true rfl)) dX0_induceFrom_45 ⟨Nat.zero_le _, Nat.zero_le _⟩) (fun r hr_ => ?_)
              subst hr_
              refine z_cw (wc := [(a 0, .inr (0, so a ts lp len sg vc)), (lp, .inl (cI, nl, .inl (zA lt))), (a 2, .inl (cI, nO, .inl (zA oB))), (a 10, .inl (cI, nN, .inl (zA nB)))]) (wr := [(a 4, .inl (cZ, nr, .inl (zA (zB rs)))), (a 8, .inl (cI, nF, .inl (zA ff))), (a 9, .inl (cI, nR, .inl (zA rf))), (sp, .inl (cI, nS, .inl (zA sd)))]) (Wt := (fun _ : Unit => [(a 0, .inr (0, so a ts lp len sg vc)), (lp, .inl (cI, nl, .inl (zA lt))), (a 2, .inl (cI, nO, .inl (zA (pfO nO nN len lt oB nB (zat nS sd i))))), (a 4, .inl (cZ, nr, .inl (zA (zB rs)))), (a 8, .inl (cI, nF, .inl (zA ff))), (a 9, .inl (cI, nR, .inl (zA rf))), (a 10, .inl (cI, nN, .inl (zA (pfN nN len lt nB (zat nS sd i))))), (sp, .inl (cI, nS, .inl (zA sd)))])) [0, 1, 2, 6] [3, 4, 5, 7] [4, 5, 6, 0, 1, 2, 7, 3] hP hD hS hA rfl rfl (by decide) (by decide) (by decide) (by decide) (fun _ => rfl) (fun _ => rfl) (fun hPc hDc => va_runV (As := [.int (zI (zat nS sd i))]) (rest := []) ⟨hx, hb, hml, hown, hts⟩ (kX0_placeFront l D cI cZ cL a ts lp len sg vc nl nO nN lt oB nB (zat nS sd i) _ (by omega) (by omega) (by omega) (hlt) (hk2) (by omega) (by omega) (by omega)) (cwV 1 hts gX0_induceFrom_X0_placeFront rfl rfl rfl (by decide +kernel) ⟨Nat.le_of_ble_eq_true rfl, Nat.le_of_ble_eq_true rfl⟩) (zPw_preV (ci := 0) (q0 := 0) hK hPc hDc rfl rfl) rfl rfl hl.1 rfl (lv_room (Nat.le_of_ble_eq_true rfl)) dX0_induceFrom_48 ⟨Nat.zero_le _, Nat.zero_le _⟩) rfl (fun u H locs hp_ hP hD hS => ?_)
              have hP : va_P D vwCl [(a 0, .inr (0, so a ts lp len sg vc)), (lp, .inl (cI, nl, .inl (zA lt))), (a 2, .inl (cI, nO, .inl (zA (pfO nO nN len lt oB nB (zat nS sd i))))), (a 4, .inl (cZ, nr, .inl (zA (zB rs)))), (a 8, .inl (cI, nF, .inl (zA ff))), (a 9, .inl (cI, nR, .inl (zA rf))), (a 10, .inl (cI, nN, .inl (zA (pfN nN len lt nB (zat nS sd i))))), (sp, .inl (cI, nS, .inl (zA sd)))] H := hP
              have hD : va_D A [(a 0, .inr (0, so a ts lp len sg vc)), (lp, .inl (cI, nl, .inl (zA lt))), (a 2, .inl (cI, nO, .inl (zA (pfO nO nN len lt oB nB (zat nS sd i))))), (a 4, .inl (cZ, nr, .inl (zA (zB rs)))), (a 8, .inl (cI, nF, .inl (zA ff))), (a 9, .inl (cI, nR, .inl (zA rf))), (a 10, .inl (cI, nN, .inl (zA (pfN nN len lt nB (zat nS sd i))))), (sp, .inl (cI, nS, .inl (zA sd)))] := hD
              refine lv_iinc (v := zI (i + 1)) (lv' := [(2, .int (zI (i + 1))), (0, .ref (a 0)), (1, .ref sp)]) hx hb dX0_induceFrom_51 hl (k := 2) rfl (zI_add _ _) (by decide) rfl (fun ls hl => ?_)
              refine lv_goto (tgt := 34) hx hb dX0_induceFrom_54 (by decide) ?_
              exact ih34 (i + 1) (pfO nO nN len lt oB nB (zat nS sd i)) (pfN nN len lt nB (zat nS sd i)) _ _ ls (by omega) (by omega) (stS_s hqS g0) (by omega) (hP) (hD) hS (lv_sub hl [1, 2, 0] rfl)
        exact loop34 _ 0 oA (sbN sg nR rf 0 ns) _ _ ls (by omega) (by omega) (by rw [hoA, show k = len by omega]; rfl) (Nat.lt_succ_self _) hP hD hS (lv_sub hl [1, 2, 0] rfl)
      · skip
        refine lv_aload_n hx hb dX0_induceFrom_10 rfl (lv_at hl 0 rfl) ?_
        refine va_get (D := D) (ci := 0) (v := .ref (a 2)) (C := RX0) (T := TX0) (N := 15) hx hb hts inX0_induceFrom_X0 hown hK.1 hP 0 rfl rfl 1 (by decide) (hts (.fieldLink RX0 42 "TextEnds$EndSorter" "order" "[I") (List.mem_of_getElem? (i := 2) rfl)) (fun _ h9 => h9) rfl dX0_induceFrom_11 ?_
        refine lv_iload_n hx hb dX0_induceFrom_14 rfl (lv_at hl 2 rfl) ?_
        refine lv_iconst (v := zI (-1)) hx hb dX0_induceFrom_15 (by first | rfl | decide) ?_
        refine z_iast hx hb hK.1 hP hD hS 2 0 rfl rfl dX0_induceFrom_16 (by omega) (by omega) (by omega) (fun H locs hP hD hS => ?_)
        have hP : va_P D vwCl [(a 0, .inr (0, so a ts lp len sg vc)), (lp, .inl (cI, nl, .inl (zA lt))), (a 2, .inl (cI, nO, .inl (zA (zup oA k (-1))))), (a 4, .inl (cZ, nr, .inl (zA (zB rs)))), (a 8, .inl (cI, nF, .inl (zA ff))), (a 9, .inl (cI, nR, .inl (zA rf))), (a 10, .inl (cI, nN, .inl (zA ns))), (sp, .inl (cI, nS, .inl (zA sd)))] H := hP
        have hD : va_D A [(a 0, .inr (0, so a ts lp len sg vc)), (lp, .inl (cI, nl, .inl (zA lt))), (a 2, .inl (cI, nO, .inl (zA (zup oA k (-1))))), (a 4, .inl (cZ, nr, .inl (zA (zB rs)))), (a 8, .inl (cI, nF, .inl (zA ff))), (a 9, .inl (cI, nR, .inl (zA rf))), (a 10, .inl (cI, nN, .inl (zA ns))), (sp, .inl (cI, nS, .inl (zA sd)))] := hD
        refine lv_iinc (v := zI (k + 1)) (lv' := [(2, .int (zI (k + 1))), (0, .ref (a 0)), (1, .ref sp)]) hx hb dX0_induceFrom_17 hl (k := 2) rfl (zI_add _ _) (by decide) rfl (fun ls hl => ?_)
        refine lv_goto (tgt := 2) hx hb dX0_induceFrom_20 (by decide) ?_
        exact ih2 (k + 1) (zup oA k (-1)) _ _ ls (by omega) (by omega) (by rw [hoA]; exact zfill_up (f := fun _ => -1) h0) (by omega) (hP) (hD) hS (lv_sub hl [1, 2, 0] rfl)
  exact loop2 _ 0 od _ _ ls (by omega) (by omega) (zfill_0 _ _ _) (Nat.lt_succ_self _) hP hD hS (lv_sub hl [1, 2, 0] rfl)
end
section
set_option maxRecDepth 20000 in
theorem inX0_gatherValleys_X0 : ∀ w ∈ wsX00, w ∈ wsX0_gatherValleys := by decide +kernel
set_option maxRecDepth 20000 in
theorem inX0_stepsToNext_X0 : ∀ w ∈ wsX00, w ∈ wsX0_stepsToNext := by decide +kernel
set_option maxRecDepth 20000 in
theorem inX0_areAlike_X0 : ∀ w ∈ wsX00, w ∈ wsX0_areAlike := by decide +kernel
set_option maxRecDepth 20000 in
theorem inX0_nameValleys_X0 : ∀ w ∈ wsX00, w ∈ wsX0_nameValleys := by decide +kernel
set_option maxRecDepth 20000 in
theorem inX0_takeOrderFromBelow_X0 : ∀ w ∈ wsX00, w ∈ wsX0_takeOrderFromBelow := by decide +kernel
set_option maxRecDepth 20000 in
theorem inX1_hold_X1 : ∀ w ∈ wsX10, w ∈ wsX1_hold := by decide +kernel
set_option maxHeartbeats 4000000 in
set_option maxRecDepth 100000 in
/-- gatherValleys() -/
theorem kX0_gatherValleys (l : Launch) (D : va_G) (cI cZ cL : ClassId) (a : Nat → Nat) (ts : Int) (lp : Nat) (len sg vc : Int) (nO nM nW : Nat) (od vn sv : Int → Int) (szz : Nat) (hlen : 0 ≤ len) (hlO : len ≤ (nO : Int)) (bnO : (nO : Int) < 1073741824) (bnM : (nM : Int) < 1073741824) (bnW : (nW : Int) < 1073741824) (hod : zS od) (hvn : zS vn) : Met l yX0_gatherValleys wsX0_gatherValleys ({ frames := 1, cells := 0, slots := 0, locals := 22 }) (zPw D cI cZ cL szz [.ref (a 0)] [(a 0, .inr (0, so a ts lp len sg vc)), (a 2, .inl (cI, nO, .inl (zA od))), (a 6, .inl (cI, nM, .inl (zA vn))), (a 7, .inl (cI, nW, .inl (zA sv)))]) (zQw D (va_A [(a 0, .inr (0, so a ts lp len sg vc)), (a 2, .inl (cI, nO, .inl (zA od))), (a 6, .inl (cI, nM, .inl (zA vn))), (a 7, .inl (cI, nW, .inl (zA sv)))] szz) (fun _ : Unit => True) (fun _ : Unit => [(a 0, .inr (0, so a ts lp len sg vc)), (a 2, .inl (cI, nO, .inl (zA od))), (a 6, .inl (cI, nM, .inl (zA vn))), (a 7, .inl (cI, nW, .inl (zA ((zit (stG nM nW vn od) len.toNat (0, sv)).2))))])) 0 0 (va_A [(a 0, .inr (0, so a ts lp len sg vc)), (a 2, .inl (cI, nO, .inl (zA od))), (a 6, .inl (cI, nM, .inl (zA vn))), (a 7, .inl (cI, nW, .inl (zA sv)))] szz) := by
  refine Met.ofW (cc := cX0_gatherValleys) (maxL := 4) (ret := none) (by decide) rfl ?_
  intro p e s m args below meth c s₁ B hml hv
  obtain ⟨rfl, hsz, hP, hK, hD0⟩ := hv
  have hx := B.exec
  have hb := B.bytes
  have hr := B.returns
  have hts := atoms_spec (ws := wsX0_gatherValleys) B.pre
  have hown : s.vm.findClass RX0 = some m.cls := findClass_of_methodNamed B.named
  have hlocks := B.notSynchronized
  subst hsz
  have hD := hD0.self (sz := s.heap.size)
  generalize hAe : va_A [(a 0, .inr (0, so a ts lp len sg vc)), (a 2, .inl (cI, nO, .inl (zA od))), (a 6, .inl (cI, nM, .inl (zA vn))), (a 7, .inl (cI, nW, .inl (zA sv)))] s.heap.size = A at hD ⊢
  have hA : ∀ q : Nat, s.heap.size ≤ q → A q := fun q h => by rw [← hAe]; exact Or.inr h
  have hS : va_S A s.heap s.heap [] := va_S.rf
  clear hD0
  have hP : va_P D vwCl [(a 0, .inr (0, so a ts lp len sg vc)), (a 2, .inl (cI, nO, .inl (zA od))), (a 6, .inl (cI, nM, .inl (zA vn))), (a 7, .inl (cI, nW, .inl (zA sv)))] s.heap := hP
  have hl := lv_entry ([.ref (a 0)]) (n := 4) (Nat.le_of_ble_eq_true rfl)
  rw [lg_entry_eq]
  generalize (lg_sl ([.ref (a 0)]) ++ List.replicate (4 - (lg_sl ([.ref (a 0)])).length) Slot.unset).toArray = ls at hl ⊢
  have hl : lv_has ls 4 [(0, .ref (a 0))] := hl
  refine lv_iconst (v := zI 0) hx hb dX0_gatherValleys_0 (by first | rfl | decide) ?_
  refine lv_istore_n (lv' := [(1, .int (zI 0)), (0, .ref (a 0))]) hx hb dX0_gatherValleys_1 rfl hl (by decide) rfl (fun ls hl => ?_)
  refine lv_iconst (v := zI 0) hx hb dX0_gatherValleys_2 (by first | rfl | decide) ?_
  refine lv_istore_n (lv' := [(2, .int (zI 0)), (1, .int (zI 0)), (0, .ref (a 0))]) hx hb dX0_gatherValleys_3 rfl hl (by decide) rfl (fun ls hl => ?_)
  have loop4 : ∀ (nn : Nat) (i : Int) (g : Int) (svq : Int → Int) (H : Heap) (locs : List Loc) (ls : Array Slot), (0 ≤ i) → (i ≤ len) → (0 ≤ g ∧ g ≤ i) → ((g, svq) = zit (stG nM nW vn od) i.toNat (0, sv)) → ((len - i).toNat) < nn → va_P D vwCl [(a 0, .inr (0, so a ts lp len sg vc)), (a 2, .inl (cI, nO, .inl (zA od))), (a 6, .inl (cI, nM, .inl (zA vn))), (a 7, .inl (cI, nW, .inl (zA svq)))] H → va_D A [(a 0, .inr (0, so a ts lp len sg vc)), (a 2, .inl (cI, nO, .inl (zA od))), (a 6, .inl (cI, nM, .inl (zA vn))), (a 7, .inl (cI, nW, .inl (zA svq)))] → va_S A s.heap H locs → lv_has ls 4 [(0, .ref (a 0)), (1, .int (zI g)), (2, .int (zI i))] → W p l e (headSpec wsX0_gatherValleys ({ frames := 1, cells := 0, slots := 0, locals := 22 })).room s m ([.ref (a 0)] : List Value).toArray below meth c H locs 0 0 (MQ below (zQw D A (fun _ : Unit => True) (fun _ : Unit => [(a 0, .inr (0, so a ts lp len sg vc)), (a 2, .inl (cI, nO, .inl (zA od))), (a 6, .inl (cI, nM, .inl (zA vn))), (a 7, .inl (cI, nW, .inl (zA ((zit (stG nM nW vn od) len.toNat (0, sv)).2))))])) ([.ref (a 0)] : List Value).toArray s 0 0 A) (F0 m 4 ls []) := by
    intro nn
    induction nn with
    | zero =>
      intros
      exact absurd (by assumption : _ < 0) (Nat.not_lt_zero _)
    | succ nn ih4 =>
      intro i g svq H locs ls h0 h1 hg hq hmu hP hD hS hl
      refine lv_iload_n hx hb dX0_gatherValleys_4 rfl (lv_at hl 2 rfl) ?_
      refine lv_aload_n hx hb dX0_gatherValleys_5 rfl (lv_at hl 0 rfl) ?_
      refine va_get (D := D) (ci := 0) (v := .int (zI len)) (C := RX0) (T := TX0) (N := 15) hx hb hts inX0_gatherValleys_X0 hown hK.1 hP 0 rfl rfl 12 (by decide) (hts (.fieldLink RX0 103 "TextEnds$EndSorter" "length" "I") (List.mem_of_getElem? (i := 1) rfl)) (fun _ h9 => h9) rfl dX0_gatherValleys_6 ?_
      refine z_icmp_ge (tgt := 49) hx hb dX0_gatherValleys_9 (by decide) (by omega) (by omega) (fun h_1 => ?_) (fun h_1 => ?_)
      · skip
        rw [show i = len by omega] at hq
        have hwe : svq = ((zit (stG nM nW vn od) len.toNat (0, sv)).2) := congrArg (fun z => z.2) hq
        rw [hwe] at hP hD
        clear hwe
        exact W.vret hx hb hr (fun t ht_ hW_ => ⟨⟨(), rfl, trivial, by rw [ht_]; exact hP, hD⟩, hS.F ht_⟩) hS.2.2 dX0_gatherValleys_49
      · skip
        have hk1 := hod i
        have hk2 := zat_S hvn nM (od i)
        refine lv_aload_n hx hb dX0_gatherValleys_12 rfl (lv_at hl 0 rfl) ?_
        refine va_get (D := D) (ci := 0) (v := .ref (a 2)) (C := RX0) (T := TX0) (N := 15) hx hb hts inX0_gatherValleys_X0 hown hK.1 hP 0 rfl rfl 1 (by decide) (hts (.fieldLink RX0 42 "TextEnds$EndSorter" "order" "[I") (List.mem_of_getElem? (i := 2) rfl)) (fun _ h9 => h9) rfl dX0_gatherValleys_13 ?_
        refine lv_iload_n hx hb dX0_gatherValleys_16 rfl (lv_at hl 2 rfl) ?_
        refine z_iald hx hb hK.1 hP 1 0 rfl rfl dX0_gatherValleys_17 (by omega) (by omega) (by omega) ?_
        refine lv_istore_n (lv' := [(3, .int (zI (od i))), (0, .ref (a 0)), (1, .int (zI g)), (2, .int (zI i))]) hx hb dX0_gatherValleys_18 rfl hl (by decide) rfl (fun ls hl => ?_)
        refine lv_aload_n hx hb dX0_gatherValleys_19 rfl (lv_at hl 1 rfl) ?_
        refine va_get (D := D) (ci := 0) (v := .ref (a 6)) (C := RX0) (T := TX0) (N := 15) hx hb hts inX0_gatherValleys_X0 hown hK.1 hP 0 rfl rfl 5 (by decide) (hts (.fieldLink RX0 49 "TextEnds$EndSorter" "valleyNumber" "[I") (List.mem_of_getElem? (i := 3) rfl)) (fun _ h9 => h9) rfl dX0_gatherValleys_20 ?_
        refine lv_iload_n hx hb dX0_gatherValleys_23 rfl (lv_at hl 0 rfl) ?_
        refine z_cr (va_runSN (As := [.ref (a 6), .int (zI (od i))]) (rest := []) ⟨hx, hb, hml, hown, hts⟩ (kX2_at l D cI cZ cL (a 6) nM vn (od i) (by omega) (by omega)) ⟨va_cnB 2 hts gX0_gatherValleys_X2_at_n131 rfl rfl rfl hK.2.2 (hts (.initialized RX2) (List.mem_of_getElem? (i := 6) rfl)) (by decide +kernel) ⟨Nat.le_of_ble_eq_true rfl, Nat.le_of_ble_eq_true rfl⟩, hts (.static yX2_at) (List.mem_of_getElem? (i := 5) rfl), trivial⟩ (zPr_pre hK (hP.sub (ws' := [(a 6, .inl (cI, nM, .inl (zA vn)))]) [2] rfl)) rfl rfl hl.1 rfl (lv_room (Nat.le_of_ble_eq_true rfl)) dX0_gatherValleys_24 ⟨Nat.zero_le _, Nat.zero_le _⟩) (fun r hr_ => ?_)
        subst hr_
        refine lv_iconst (v := zI (-1)) hx hb dX0_gatherValleys_27 (by first | rfl | decide) ?_
        refine z_icmp_eq (tgt := 43) hx hb dX0_gatherValleys_28 (by decide) (by omega) (by omega) (fun h_2 => ?_) (fun h_2 => ?_)
        · skip
          refine lv_iinc (v := zI (i + 1)) (lv' := [(2, .int (zI (i + 1))), (3, .int (zI (od i))), (0, .ref (a 0)), (1, .int (zI g))]) hx hb dX0_gatherValleys_43 hl (k := 3) rfl (zI_add _ _) (by decide) rfl (fun ls hl => ?_)
          refine lv_goto (tgt := 4) hx hb dX0_gatherValleys_46 (by decide) ?_
          exact ih4 (i + 1) g svq _ _ ls (by omega) (by omega) (by omega) (by first | exact stG_t hq h0 (by with_reducible assumption) | exact stG_f hq h0 (by with_reducible assumption)) (by omega) (hP) (hD) hS (lv_sub hl [2, 3, 0] rfl)
        · skip
          refine lv_aload_n hx hb dX0_gatherValleys_31 rfl (lv_at hl 1 rfl) ?_
          refine va_get (D := D) (ci := 0) (v := .ref (a 7)) (C := RX0) (T := TX0) (N := 15) hx hb hts inX0_gatherValleys_X0 hown hK.1 hP 0 rfl rfl 6 (by decide) (hts (.fieldLink RX0 55 "TextEnds$EndSorter" "sortedValleys" "[I") (List.mem_of_getElem? (i := 4) rfl)) (fun _ h9 => h9) rfl dX0_gatherValleys_32 ?_
          refine lv_iload_n hx hb dX0_gatherValleys_35 rfl (lv_at hl 2 rfl) ?_
          refine lv_iload_n hx hb dX0_gatherValleys_36 rfl (lv_at hl 0 rfl) ?_
          refine z_cw (wc := [(a 7, .inl (cI, nW, .inl (zA svq)))]) (wr := [(a 0, .inr (0, so a ts lp len sg vc)), (a 2, .inl (cI, nO, .inl (zA od))), (a 6, .inl (cI, nM, .inl (zA vn)))]) (Wt := (fun _ : Unit => [(a 0, .inr (0, so a ts lp len sg vc)), (a 2, .inl (cI, nO, .inl (zA od))), (a 6, .inl (cI, nM, .inl (zA vn))), (a 7, .inl (cI, nW, .inl (zA (zput nW svq g (od i)))))])) [3] [0, 1, 2] [0, 1, 2, 3] hP hD hS hA rfl rfl (by decide) (by decide) (by decide) (by decide) (fun _ => rfl) (fun _ => rfl) (fun hPc hDc => va_runSN (As := [.ref (a 7), .int (zI g), .int (zI (od i))]) (rest := []) ⟨hx, hb, hml, hown, hts⟩ (kX2_put l D cI cZ cL (a 7) nW svq g (od i) _ (by omega) (by omega)) ⟨va_cnB 3 hts gX0_gatherValleys_X2_put_n127 rfl rfl rfl hK.2.1 (hts (.initialized RX2) (List.mem_of_getElem? (i := 6) rfl)) (by decide +kernel) ⟨Nat.le_of_ble_eq_true rfl, Nat.le_of_ble_eq_true rfl⟩, hts (.static yX2_put) (List.mem_of_getElem? (i := 8) rfl), trivial⟩ (zPw_pre hK hPc hDc) rfl rfl hl.1 rfl (lv_room (Nat.le_of_ble_eq_true rfl)) dX0_gatherValleys_37 ⟨Nat.zero_le _, Nat.zero_le _⟩) rfl (fun u H locs hp_ hP hD hS => ?_)
          have hP : va_P D vwCl [(a 0, .inr (0, so a ts lp len sg vc)), (a 2, .inl (cI, nO, .inl (zA od))), (a 6, .inl (cI, nM, .inl (zA vn))), (a 7, .inl (cI, nW, .inl (zA (zput nW svq g (od i)))))] H := hP
          have hD : va_D A [(a 0, .inr (0, so a ts lp len sg vc)), (a 2, .inl (cI, nO, .inl (zA od))), (a 6, .inl (cI, nM, .inl (zA vn))), (a 7, .inl (cI, nW, .inl (zA (zput nW svq g (od i)))))] := hD
          refine lv_iinc (v := zI (g + 1)) (lv' := [(1, .int (zI (g + 1))), (3, .int (zI (od i))), (0, .ref (a 0)), (2, .int (zI i))]) hx hb dX0_gatherValleys_40 hl (k := 2) rfl (zI_add _ _) (by decide) rfl (fun ls hl => ?_)
          refine lv_iinc (v := zI (i + 1)) (lv' := [(2, .int (zI (i + 1))), (1, .int (zI (g + 1))), (3, .int (zI (od i))), (0, .ref (a 0))]) hx hb dX0_gatherValleys_43 hl (k := 3) rfl (zI_add _ _) (by decide) rfl (fun ls hl => ?_)
          refine lv_goto (tgt := 4) hx hb dX0_gatherValleys_46 (by decide) ?_
          exact ih4 (i + 1) (g + 1) (zput nW svq g (od i)) _ _ ls (by omega) (by omega) (by omega) (by first | exact stG_t hq h0 (by with_reducible assumption) | exact stG_f hq h0 (by with_reducible assumption)) (by omega) (hP) (hD) hS (lv_sub hl [3, 1, 0] rfl)
  exact loop4 _ 0 0 sv _ _ ls (by omega) (by omega) (by omega) (rfl) (Nat.lt_succ_self _) hP hD hS (lv_sub hl [2, 1, 0] rfl)
set_option maxHeartbeats 4000000 in
set_option maxRecDepth 100000 in
/-- stepsToNext(valley) -/
theorem kX0_stepsToNext (l : Launch) (D : va_G) (cI cZ cL : ClassId) (a : Nat → Nat) (ts : Int) (lp : Nat) (len sg vc : Int) (nV nM : Nat) (vl vn : Int → Int) (v : Int) (hlen : 0 ≤ len ∧ len ≤ 1000000) (hvc : 0 ≤ vc ∧ vc ≤ 1000000) (bnV : (nV : Int) < 1073741824) (bnM : (nM : Int) < 1073741824) (hvn : zS vn) (hv : zR v) : Met l yX0_stepsToNext wsX0_stepsToNext ({ frames := 1, cells := 0, slots := 0, locals := 21 }) (zPr D cI cZ cL [.ref (a 0), .int (zI v)] [(a 0, .inr (0, so a ts lp len sg vc)), (a 5, .inl (cI, nV, .inl (zA vl))), (a 6, .inl (cI, nM, .inl (zA vn)))]) (zQi (fun r => r = zst nM nV len vc vn vl v)) 0 0 (fun _ => False) := by
  refine Met.ofW (cc := cX0_stepsToNext) (maxL := 3) (ret := (some .int)) (by decide) rfl ?_
  intro p e s m args below meth c s₁ B hml hv
  obtain ⟨rfl, hP, hK⟩ := hv
  have hx := B.exec
  have hb := B.bytes
  have hr := B.returns
  have hts := atoms_spec (ws := wsX0_stepsToNext) B.pre
  have hown : s.vm.findClass RX0 = some m.cls := findClass_of_methodNamed B.named
  have hlocks := B.notSynchronized
  have hP : va_P D vwCl [(a 0, .inr (0, so a ts lp len sg vc)), (a 5, .inl (cI, nV, .inl (zA vl))), (a 6, .inl (cI, nM, .inl (zA vn)))] s.heap := hP
  have hl := lv_entry ([.ref (a 0), .int (zI v)]) (n := 3) (Nat.le_of_ble_eq_true rfl)
  rw [lg_entry_eq]
  generalize (lg_sl ([.ref (a 0), .int (zI v)]) ++ List.replicate (3 - (lg_sl ([.ref (a 0), .int (zI v)])).length) Slot.unset).toArray = ls at hl ⊢
  have hl : lv_has ls 3 [(0, .ref (a 0)), (1, .int (zI v))] := hl
  have hq1 := zat_S hvn nM v
  refine lv_aload_n hx hb dX0_stepsToNext_0 rfl (lv_at hl 0 rfl) ?_
  refine va_get (D := D) (ci := 0) (v := .ref (a 6)) (C := RX0) (T := TX0) (N := 15) hx hb hts inX0_stepsToNext_X0 hown hK.1 hP 0 rfl rfl 5 (by decide) (hts (.fieldLink RX0 49 "TextEnds$EndSorter" "valleyNumber" "[I") (List.mem_of_getElem? (i := 1) rfl)) (fun _ h9 => h9) rfl dX0_stepsToNext_1 ?_
  refine lv_iload_n hx hb dX0_stepsToNext_4 rfl (lv_at hl 1 rfl) ?_
  refine z_cr (va_runSN (As := [.ref (a 6), .int (zI v)]) (rest := []) ⟨hx, hb, hml, hown, hts⟩ (kX2_at l D cI cZ cL (a 6) nM vn v (by omega) (by omega)) ⟨va_cnB 2 hts gX0_stepsToNext_X2_at_n131 rfl rfl rfl hK.2.2 (hts (.initialized RX2) (List.mem_of_getElem? (i := 6) rfl)) (by decide +kernel) ⟨Nat.le_of_ble_eq_true rfl, Nat.le_of_ble_eq_true rfl⟩, hts (.static yX2_at) (List.mem_of_getElem? (i := 5) rfl), trivial⟩ (zPr_pre hK (hP.sub (ws' := [(a 6, .inl (cI, nM, .inl (zA vn)))]) [2] rfl)) rfl rfl hl.1 rfl (lv_room (Nat.le_of_ble_eq_true rfl)) dX0_stepsToNext_5 ⟨Nat.zero_le _, Nat.zero_le _⟩) (fun r hr_ => ?_)
  subst hr_
  refine lv_iconst (v := zI 1) hx hb dX0_stepsToNext_8 (by first | rfl | decide) ?_
  refine z_iadd hx hb dX0_stepsToNext_9 ?_
  refine lv_istore_n (lv' := [(2, .int (zI ((zat nM vn v) + 1))), (0, .ref (a 0)), (1, .int (zI v))]) hx hb dX0_stepsToNext_10 rfl hl (by decide) rfl (fun ls hl => ?_)
  refine lv_iload_n hx hb dX0_stepsToNext_11 rfl (lv_at hl 0 rfl) ?_
  refine lv_aload_n hx hb dX0_stepsToNext_12 rfl (lv_at hl 1 rfl) ?_
  refine va_get (D := D) (ci := 0) (v := .int (zI vc)) (C := RX0) (T := TX0) (N := 15) hx hb hts inX0_stepsToNext_X0 hown hK.1 hP 0 rfl rfl 14 (by decide) (hts (.fieldLink RX0 97 "TextEnds$EndSorter" "valleyCount" "I") (List.mem_of_getElem? (i := 2) rfl)) (fun _ h9 => h9) rfl dX0_stepsToNext_13 ?_
  refine z_icmp_ge (tgt := 30) hx hb dX0_stepsToNext_16 (by decide) (by omega) (by omega) (fun h_1 => ?_) (fun h_1 => ?_)
  · skip
    refine lv_aload_n hx hb dX0_stepsToNext_30 rfl (lv_at hl 1 rfl) ?_
    refine va_get (D := D) (ci := 0) (v := .int (zI len)) (C := RX0) (T := TX0) (N := 15) hx hb hts inX0_stepsToNext_X0 hown hK.1 hP 0 rfl rfl 12 (by decide) (hts (.fieldLink RX0 103 "TextEnds$EndSorter" "length" "I") (List.mem_of_getElem? (i := 4) rfl)) (fun _ h9 => h9) rfl dX0_stepsToNext_31 ?_
    refine lv_iload_n hx hb dX0_stepsToNext_34 rfl (lv_at hl 2 rfl) ?_
    refine z_isub hx hb dX0_stepsToNext_35 ?_
    exact W.iret (v := zI (len - v)) hx hb hr (fun t ht_ hW_ => ⟨len - v, rfl, by first | (show _ = zst nM nV len vc vn vl v; rw [zst, if_pos (by omega)]) | (show _ = zst nM nV len vc vn vl v; rw [zst, if_neg (by omega)]), ht_⟩) (fun q h => by cases h) dX0_stepsToNext_36
  · skip
    refine lv_aload_n hx hb dX0_stepsToNext_19 rfl (lv_at hl 1 rfl) ?_
    refine va_get (D := D) (ci := 0) (v := .ref (a 5)) (C := RX0) (T := TX0) (N := 15) hx hb hts inX0_stepsToNext_X0 hown hK.1 hP 0 rfl rfl 4 (by decide) (hts (.fieldLink RX0 52 "TextEnds$EndSorter" "valleys" "[I") (List.mem_of_getElem? (i := 3) rfl)) (fun _ h9 => h9) rfl dX0_stepsToNext_20 ?_
    refine lv_iload_n hx hb dX0_stepsToNext_23 rfl (lv_at hl 0 rfl) ?_
    refine z_cr (va_runSN (As := [.ref (a 5), .int (zI ((zat nM vn v) + 1))]) (rest := []) ⟨hx, hb, hml, hown, hts⟩ (kX2_at l D cI cZ cL (a 5) nV vl ((zat nM vn v) + 1) (by omega) (by omega)) ⟨va_cnB 2 hts gX0_stepsToNext_X2_at_n131 rfl rfl rfl hK.2.2 (hts (.initialized RX2) (List.mem_of_getElem? (i := 6) rfl)) (by decide +kernel) ⟨Nat.le_of_ble_eq_true rfl, Nat.le_of_ble_eq_true rfl⟩, hts (.static yX2_at) (List.mem_of_getElem? (i := 5) rfl), trivial⟩ (zPr_pre hK (hP.sub (ws' := [(a 5, .inl (cI, nV, .inl (zA vl)))]) [1] rfl)) rfl rfl hl.1 rfl (lv_room (Nat.le_of_ble_eq_true rfl)) dX0_stepsToNext_24 ⟨Nat.zero_le _, Nat.zero_le _⟩) (fun r hr_ => ?_)
    subst hr_
    refine lv_goto (tgt := 34) hx hb dX0_stepsToNext_27 (by decide) ?_
    refine lv_iload_n hx hb dX0_stepsToNext_34 rfl (lv_at hl 2 rfl) ?_
    refine z_isub hx hb dX0_stepsToNext_35 ?_
    exact W.iret (v := zI ((zat nV vl ((zat nM vn v) + 1)) - v)) hx hb hr (fun t ht_ hW_ => ⟨(zat nV vl ((zat nM vn v) + 1)) - v, rfl, by first | (show _ = zst nM nV len vc vn vl v; rw [zst, if_pos (by omega)]) | (show _ = zst nM nV len vc vn vl v; rw [zst, if_neg (by omega)]), ht_⟩) (fun q h => by cases h) dX0_stepsToNext_36
set_option maxHeartbeats 4000000 in
set_option maxRecDepth 100000 in
/-- areAlike(valley, other) -/
theorem kX0_areAlike (l : Launch) (D : va_G) (cI cZ cL : ClassId) (a : Nat → Nat) (ts : Int) (lp : Nat) (len sg vc : Int) (nl nV nM : Nat) (lt vl vn : Int → Int) (x y : Int) (hlen : 0 ≤ len ∧ len ≤ 1000000) (hvc : 0 ≤ vc ∧ vc ≤ 1000000) (hnl : len ≤ (nl : Int)) (bnl : (nl : Int) < 1073741824) (bnV : (nV : Int) < 1073741824) (bnM : (nM : Int) < 1073741824) (hlt : zS lt) (hvl : zS vl) (hvn : zS vn) (hx1 : -1000000 ≤ x ∧ x ≤ 1000000) (hy1 : -1000000 ≤ y ∧ y ≤ 1000000) : Met l yX0_areAlike wsX0_areAlike ({ frames := 2, cells := 0, slots := 0, locals := 43 }) (zPr D cI cZ cL [.ref (a 0), .int (zI x), .int (zI y)] [(a 0, .inr (0, so a ts lp len sg vc)), (lp, .inl (cI, nl, .inl (zA lt))), (a 5, .inl (cI, nV, .inl (zA vl))), (a 6, .inl (cI, nM, .inl (zA vn)))]) (zQi (fun r => r = bi (zal nM nV len vc lt vn vl x y))) 0 0 (fun _ => False) := by
  refine Met.ofW (cc := cX0_areAlike) (maxL := 5) (ret := (some .boolean)) (by decide) rfl ?_
  intro p e s m args below meth c s₁ B hml hv
  obtain ⟨rfl, hP, hK⟩ := hv
  have hx := B.exec
  have hb := B.bytes
  have hr := B.returns
  have hts := atoms_spec (ws := wsX0_areAlike) B.pre
  have hown : s.vm.findClass RX0 = some m.cls := findClass_of_methodNamed B.named
  have hlocks := B.notSynchronized
  have hP : va_P D vwCl [(a 0, .inr (0, so a ts lp len sg vc)), (lp, .inl (cI, nl, .inl (zA lt))), (a 5, .inl (cI, nV, .inl (zA vl))), (a 6, .inl (cI, nM, .inl (zA vn)))] s.heap := hP
  have hl := lv_entry ([.ref (a 0), .int (zI x), .int (zI y)]) (n := 5) (Nat.le_of_ble_eq_true rfl)
  rw [lg_entry_eq]
  generalize (lg_sl ([.ref (a 0), .int (zI x), .int (zI y)]) ++ List.replicate (5 - (lg_sl ([.ref (a 0), .int (zI x), .int (zI y)])).length) Slot.unset).toArray = ls at hl ⊢
  have hl : lv_has ls 5 [(0, .ref (a 0)), (1, .int (zI x)), (2, .int (zI y))] := hl
  have hq1 := zst_S (nM := nM) (nV := nV) (vc := vc) (vn := vn) hlen hvl hx1
  have hq2 := zst_S (nM := nM) (nV := nV) (vc := vc) (vn := vn) hlen hvl hy1
  refine lv_aload_n hx hb dX0_areAlike_0 rfl (lv_at hl 0 rfl) ?_
  refine lv_iload_n hx hb dX0_areAlike_1 rfl (lv_at hl 1 rfl) ?_
  refine z_cr (va_runV (As := [.int (zI x)]) (rest := []) ⟨hx, hb, hml, hown, hts⟩ (kX0_stepsToNext l D cI cZ cL a ts lp len sg vc nV nM vl vn x (by omega) (by omega) (by omega) (by omega) (hvn) (by omega)) (cwV 1 hts gX0_areAlike_X0_stepsToNext rfl rfl rfl (by decide +kernel) ⟨Nat.le_of_ble_eq_true rfl, Nat.le_of_ble_eq_true rfl⟩) (zPr_preV (ci := 0) (q0 := 0) hK (hP.sub (ws' := [(a 0, .inr (0, so a ts lp len sg vc)), (a 5, .inl (cI, nV, .inl (zA vl))), (a 6, .inl (cI, nM, .inl (zA vn)))]) [0, 2, 3] rfl) rfl rfl) rfl rfl hl.1 rfl (lv_room (Nat.le_of_ble_eq_true rfl)) dX0_areAlike_2 ⟨Nat.zero_le _, Nat.zero_le _⟩) (fun r hr_ => ?_)
  subst hr_
  refine lv_istore_n (lv' := [(3, .int (zI (zst nM nV len vc vn vl x))), (0, .ref (a 0)), (1, .int (zI x)), (2, .int (zI y))]) hx hb dX0_areAlike_5 rfl hl (by decide) rfl (fun ls hl => ?_)
  refine lv_iload_n hx hb dX0_areAlike_6 rfl (lv_at hl 0 rfl) ?_
  refine lv_aload_n hx hb dX0_areAlike_7 rfl (lv_at hl 1 rfl) ?_
  refine lv_iload_n hx hb dX0_areAlike_8 rfl (lv_at hl 3 rfl) ?_
  refine z_cr (va_runV (As := [.int (zI y)]) (rest := [.int (zI (zst nM nV len vc vn vl x))]) ⟨hx, hb, hml, hown, hts⟩ (kX0_stepsToNext l D cI cZ cL a ts lp len sg vc nV nM vl vn y (by omega) (by omega) (by omega) (by omega) (hvn) (by omega)) (cwV 1 hts gX0_areAlike_X0_stepsToNext rfl rfl rfl (by decide +kernel) ⟨Nat.le_of_ble_eq_true rfl, Nat.le_of_ble_eq_true rfl⟩) (zPr_preV (ci := 0) (q0 := 0) hK (hP.sub (ws' := [(a 0, .inr (0, so a ts lp len sg vc)), (a 5, .inl (cI, nV, .inl (zA vl))), (a 6, .inl (cI, nM, .inl (zA vn)))]) [0, 2, 3] rfl) rfl rfl) rfl rfl hl.1 rfl (lv_room (Nat.le_of_ble_eq_true rfl)) dX0_areAlike_9 ⟨Nat.zero_le _, Nat.zero_le _⟩) (fun r hr_ => ?_)
  subst hr_
  refine z_icmp_eq (tgt := 17) hx hb dX0_areAlike_12 (by decide) (by omega) (by omega) (fun h_1 => ?_) (fun h_1 => ?_)
  · skip
    have hse := h_1
    refine lv_iconst (v := zI 0) hx hb dX0_areAlike_17 (by first | rfl | decide) ?_
    refine lv_istore (lv' := [(4, .int (zI 0)), (3, .int (zI (zst nM nV len vc vn vl x))), (0, .ref (a 0)), (1, .int (zI x)), (2, .int (zI y))]) hx hb dX0_areAlike_18 hl (by decide) rfl (fun ls hl => ?_)
    have loop20 : ∀ (nn : Nat) (i : Int) (ls : Array Slot), (0 ≤ i) → (i = 0 ∨ i ≤ zst nM nV len vc vn vl x + 1) → (∀ j, 0 ≤ j → j < i → zla len lt (x + j) = zla len lt (y + j)) → ((zst nM nV len vc vn vl x + 1 - i).toNat) < nn → lv_has ls 5 [(0, .ref (a 0)), (1, .int (zI x)), (2, .int (zI y)), (3, .int (zI (zst nM nV len vc vn vl x))), (4, .int (zI i))] → W p l e (headSpec wsX0_areAlike ({ frames := 2, cells := 0, slots := 0, locals := 43 })).room s m ([.ref (a 0), .int (zI x), .int (zI y)] : List Value).toArray below meth c s.heap [] 0 0 (MQ below (zQi (fun r => r = bi (zal nM nV len vc lt vn vl x y))) ([.ref (a 0), .int (zI x), .int (zI y)] : List Value).toArray s 0 0 (fun _ => False)) (F0 m 20 ls []) := by
      intro nn
      induction nn with
      | zero =>
        intros
        exact absurd (by assumption : _ < 0) (Nat.not_lt_zero _)
      | succ nn ih20 =>
        intro i ls h0 hle hal hmu hl
        refine lv_iload hx hb dX0_areAlike_20 (lv_at hl 4 rfl) ?_
        refine lv_iload_n hx hb dX0_areAlike_22 rfl (lv_at hl 3 rfl) ?_
        refine z_icmp_gt (tgt := 53) hx hb dX0_areAlike_23 (by decide) (by omega) (by omega) (fun h_2 => ?_) (fun h_2 => ?_)
        · skip
          refine lv_iconst (v := zI 1) hx hb dX0_areAlike_53 (by first | rfl | decide) ?_
          exact W.zret (ty := .boolean) (v := zI 1) hx hb hr (znar_b2 (by first | exact Or.inl rfl | exact Or.inr rfl | exact bi_01 _ | with_reducible assumption | omega)) (fun t ht_ hW_ => ⟨1, rfl, zal_t hse (fun j a b => hal j a (by omega)), ht_⟩) (fun q h => by cases h) dX0_areAlike_54
        · skip
          have hq3 := zla_S hlt len (x + i)
          have hq4 := zla_S hlt len (y + i)
          refine lv_aload_n hx hb dX0_areAlike_26 rfl (lv_at hl 0 rfl) ?_
          refine lv_iload_n hx hb dX0_areAlike_27 rfl (lv_at hl 1 rfl) ?_
          refine lv_iload hx hb dX0_areAlike_28 (lv_at hl 4 rfl) ?_
          refine z_iadd hx hb dX0_areAlike_30 ?_
          refine z_cr (va_runV (As := [.int (zI (x + i))]) (rest := []) ⟨hx, hb, hml, hown, hts⟩ (kX0_letterAt l D cI cZ cL a ts lp len sg vc nl lt (x + i) (by omega) (by omega) (by omega) (by omega)) (cwV 1 hts gX0_areAlike_X0_letterAt rfl rfl rfl (by decide +kernel) ⟨Nat.le_of_ble_eq_true rfl, Nat.le_of_ble_eq_true rfl⟩) (zPr_preV (ci := 0) (q0 := 0) hK (hP.sub (ws' := [(a 0, .inr (0, so a ts lp len sg vc)), (lp, .inl (cI, nl, .inl (zA lt)))]) [0, 1] rfl) rfl rfl) rfl rfl hl.1 rfl (lv_room (Nat.le_of_ble_eq_true rfl)) dX0_areAlike_31 ⟨Nat.zero_le _, Nat.zero_le _⟩) (fun r hr_ => ?_)
          subst hr_
          refine lv_aload_n hx hb dX0_areAlike_34 rfl (lv_at hl 0 rfl) ?_
          refine lv_iload_n hx hb dX0_areAlike_35 rfl (lv_at hl 2 rfl) ?_
          refine lv_iload hx hb dX0_areAlike_36 (lv_at hl 4 rfl) ?_
          refine z_iadd hx hb dX0_areAlike_38 ?_
          refine z_cr (va_runV (As := [.int (zI (y + i))]) (rest := [.int (zI (zla len lt (x + i)))]) ⟨hx, hb, hml, hown, hts⟩ (kX0_letterAt l D cI cZ cL a ts lp len sg vc nl lt (y + i) (by omega) (by omega) (by omega) (by omega)) (cwV 1 hts gX0_areAlike_X0_letterAt rfl rfl rfl (by decide +kernel) ⟨Nat.le_of_ble_eq_true rfl, Nat.le_of_ble_eq_true rfl⟩) (zPr_preV (ci := 0) (q0 := 0) hK (hP.sub (ws' := [(a 0, .inr (0, so a ts lp len sg vc)), (lp, .inl (cI, nl, .inl (zA lt)))]) [0, 1] rfl) rfl rfl) rfl rfl hl.1 rfl (lv_room (Nat.le_of_ble_eq_true rfl)) dX0_areAlike_39 ⟨Nat.zero_le _, Nat.zero_le _⟩) (fun r hr_ => ?_)
          subst hr_
          refine z_icmp_eq (tgt := 47) hx hb dX0_areAlike_42 (by decide) (by omega) (by omega) (fun h_3 => ?_) (fun h_3 => ?_)
          · skip
            have hee := h_3
            refine lv_iinc (v := zI (i + 1)) (lv' := [(4, .int (zI (i + 1))), (0, .ref (a 0)), (1, .int (zI x)), (2, .int (zI y)), (3, .int (zI (zst nM nV len vc vn vl x)))]) hx hb dX0_areAlike_47 hl (k := 4) rfl (zI_add _ _) (by decide) rfl (fun ls hl => ?_)
            refine lv_goto (tgt := 20) hx hb dX0_areAlike_50 (by decide) ?_
            exact ih20 (i + 1) ls (by omega) (by omega) (fun j a b => by rcases Int.lt_or_eq_of_le (show j ≤ i by omega) with q | q; exact hal j a q; rw [q]; with_reducible assumption) (by omega) (lv_sub hl [1, 2, 3, 4, 0] rfl)
          · skip
            have hen := h_3
            refine lv_iconst (v := zI 0) hx hb dX0_areAlike_45 (by first | rfl | decide) ?_
            exact W.zret (ty := .boolean) (v := zI 0) hx hb hr (znar_b2 (by first | exact Or.inl rfl | exact Or.inr rfl | exact bi_01 _ | with_reducible assumption | omega)) (fun t ht_ hW_ => ⟨0, rfl, zal_f (fun z => hen (z.2 i h0 (by omega))), ht_⟩) (fun q h => by cases h) dX0_areAlike_46
    exact loop20 _ 0 ls (by omega) (by omega) (fun j a b => absurd b (by omega)) (Nat.lt_succ_self _) (lv_sub hl [2, 3, 4, 1, 0] rfl)
  · skip
    have hsn := h_1
    refine lv_iconst (v := zI 0) hx hb dX0_areAlike_15 (by first | rfl | decide) ?_
    exact W.zret (ty := .boolean) (v := zI 0) hx hb hr (znar_b2 (by first | exact Or.inl rfl | exact Or.inr rfl | exact bi_01 _ | with_reducible assumption | omega)) (fun t ht_ hW_ => ⟨0, rfl, zal_f (fun z => hsn z.1), ht_⟩) (fun q h => by cases h) dX0_areAlike_16
set_option maxHeartbeats 4000000 in
set_option maxRecDepth 100000 in
/-- nameValleys(names) -/
theorem kX0_nameValleys (l : Launch) (D : va_G) (cI cZ cL : ClassId) (a : Nat → Nat) (ts : Int) (lp : Nat) (len sg vc : Int) (np nl nV nM nW nP : Nat) (lt vl vn sv nm : Int → Int) (szz : Nat) (hlen : 0 ≤ len ∧ len ≤ 1000000) (hvc : 0 ≤ vc ∧ vc ≤ 1000000) (hnl : len ≤ (nl : Int)) (bnl : (nl : Int) < 1073741824) (bnV : (nV : Int) < 1073741824) (bnM : (nM : Int) < 1073741824) (bnW : (nW : Int) < 1073741824) (bnP : (nP : Int) < 1073741824) (hlt : zS lt) (hvl : zS vl) (hvn : zS vn) (hsv : zS sv) : Met l yX0_nameValleys wsX0_nameValleys ({ frames := 3, cells := 0, slots := 0, locals := 67 }) (zPw D cI cZ cL szz [.ref (a 0), .ref np] [(a 0, .inr (0, so a ts lp len sg vc)), (lp, .inl (cI, nl, .inl (zA lt))), (a 5, .inl (cI, nV, .inl (zA vl))), (a 6, .inl (cI, nM, .inl (zA vn))), (a 7, .inl (cI, nW, .inl (zA sv))), (np, .inl (cI, nP, .inl (zA nm)))]) (zQwi D (va_A [(a 0, .inr (0, so a ts lp len sg vc)), (lp, .inl (cI, nl, .inl (zA lt))), (a 5, .inl (cI, nV, .inl (zA vl))), (a 6, .inl (cI, nM, .inl (zA vn))), (a 7, .inl (cI, nW, .inl (zA sv))), (np, .inl (cI, nP, .inl (zA nm)))] szz) (fun (r : Int) (_ : Unit) => r = (zit (stN nM nV nW nP len vc lt vn vl sv) vc.toNat (0, -1, nm)).1 ∧ True) (fun _ : Unit => [(a 0, .inr (0, so a ts lp len sg vc)), (lp, .inl (cI, nl, .inl (zA lt))), (a 5, .inl (cI, nV, .inl (zA vl))), (a 6, .inl (cI, nM, .inl (zA vn))), (a 7, .inl (cI, nW, .inl (zA sv))), (np, .inl (cI, nP, .inl (zA ((zit (stN nM nV nW nP len vc lt vn vl sv) vc.toNat (0, -1, nm)).2.2))))])) 0 0 (va_A [(a 0, .inr (0, so a ts lp len sg vc)), (lp, .inl (cI, nl, .inl (zA lt))), (a 5, .inl (cI, nV, .inl (zA vl))), (a 6, .inl (cI, nM, .inl (zA vn))), (a 7, .inl (cI, nW, .inl (zA sv))), (np, .inl (cI, nP, .inl (zA nm)))] szz) := by
  refine Met.ofW (cc := cX0_nameValleys) (maxL := 6) (ret := (some .int)) (by decide) rfl ?_
  intro p e s m args below meth c s₁ B hml hv
  obtain ⟨rfl, hsz, hP, hK, hD0⟩ := hv
  have hx := B.exec
  have hb := B.bytes
  have hr := B.returns
  have hts := atoms_spec (ws := wsX0_nameValleys) B.pre
  have hown : s.vm.findClass RX0 = some m.cls := findClass_of_methodNamed B.named
  have hlocks := B.notSynchronized
  subst hsz
  have hD := hD0.self (sz := s.heap.size)
  generalize hAe : va_A [(a 0, .inr (0, so a ts lp len sg vc)), (lp, .inl (cI, nl, .inl (zA lt))), (a 5, .inl (cI, nV, .inl (zA vl))), (a 6, .inl (cI, nM, .inl (zA vn))), (a 7, .inl (cI, nW, .inl (zA sv))), (np, .inl (cI, nP, .inl (zA nm)))] s.heap.size = A at hD ⊢
  have hA : ∀ q : Nat, s.heap.size ≤ q → A q := fun q h => by rw [← hAe]; exact Or.inr h
  have hS : va_S A s.heap s.heap [] := va_S.rf
  clear hD0
  have hP : va_P D vwCl [(a 0, .inr (0, so a ts lp len sg vc)), (lp, .inl (cI, nl, .inl (zA lt))), (a 5, .inl (cI, nV, .inl (zA vl))), (a 6, .inl (cI, nM, .inl (zA vn))), (a 7, .inl (cI, nW, .inl (zA sv))), (np, .inl (cI, nP, .inl (zA nm)))] s.heap := hP
  have hl := lv_entry ([.ref (a 0), .ref np]) (n := 6) (Nat.le_of_ble_eq_true rfl)
  rw [lg_entry_eq]
  generalize (lg_sl ([.ref (a 0), .ref np]) ++ List.replicate (6 - (lg_sl ([.ref (a 0), .ref np])).length) Slot.unset).toArray = ls at hl ⊢
  have hl : lv_has ls 6 [(0, .ref (a 0)), (1, .ref np)] := hl
  refine lv_iconst (v := zI 0) hx hb dX0_nameValleys_0 (by first | rfl | decide) ?_
  refine lv_istore_n (lv' := [(2, .int (zI 0)), (0, .ref (a 0)), (1, .ref np)]) hx hb dX0_nameValleys_1 rfl hl (by decide) rfl (fun ls hl => ?_)
  refine lv_iconst (v := zI (-1)) hx hb dX0_nameValleys_2 (by first | rfl | decide) ?_
  refine lv_istore_n (lv' := [(3, .int (zI (-1))), (2, .int (zI 0)), (0, .ref (a 0)), (1, .ref np)]) hx hb dX0_nameValleys_3 rfl hl (by decide) rfl (fun ls hl => ?_)
  refine lv_iconst (v := zI 0) hx hb dX0_nameValleys_4 (by first | rfl | decide) ?_
  refine lv_istore (lv' := [(4, .int (zI 0)), (3, .int (zI (-1))), (2, .int (zI 0)), (0, .ref (a 0)), (1, .ref np)]) hx hb dX0_nameValleys_5 hl (by decide) rfl (fun ls hl => ?_)
  have loop7 : ∀ (nn : Nat) (i : Int) (ct : Int) (fo : Int) (nmq : Int → Int) (H : Heap) (locs : List Loc) (ls : Array Slot), (0 ≤ i) → (i ≤ vc) → (0 ≤ ct ∧ ct ≤ i) → (-1000000 ≤ fo ∧ fo ≤ 1000000) → ((ct, fo, nmq) = zit (stN nM nV nW nP len vc lt vn vl sv) i.toNat (0, -1, nm)) → ((vc - i).toNat) < nn → va_P D vwCl [(a 0, .inr (0, so a ts lp len sg vc)), (lp, .inl (cI, nl, .inl (zA lt))), (a 5, .inl (cI, nV, .inl (zA vl))), (a 6, .inl (cI, nM, .inl (zA vn))), (a 7, .inl (cI, nW, .inl (zA sv))), (np, .inl (cI, nP, .inl (zA nmq)))] H → va_D A [(a 0, .inr (0, so a ts lp len sg vc)), (lp, .inl (cI, nl, .inl (zA lt))), (a 5, .inl (cI, nV, .inl (zA vl))), (a 6, .inl (cI, nM, .inl (zA vn))), (a 7, .inl (cI, nW, .inl (zA sv))), (np, .inl (cI, nP, .inl (zA nmq)))] → va_S A s.heap H locs → lv_has ls 6 [(0, .ref (a 0)), (1, .ref np), (2, .int (zI ct)), (3, .int (zI fo)), (4, .int (zI i))] → W p l e (headSpec wsX0_nameValleys ({ frames := 3, cells := 0, slots := 0, locals := 67 })).room s m ([.ref (a 0), .ref np] : List Value).toArray below meth c H locs 0 0 (MQ below (zQwi D A (fun (r : Int) (_ : Unit) => r = (zit (stN nM nV nW nP len vc lt vn vl sv) vc.toNat (0, -1, nm)).1 ∧ True) (fun _ : Unit => [(a 0, .inr (0, so a ts lp len sg vc)), (lp, .inl (cI, nl, .inl (zA lt))), (a 5, .inl (cI, nV, .inl (zA vl))), (a 6, .inl (cI, nM, .inl (zA vn))), (a 7, .inl (cI, nW, .inl (zA sv))), (np, .inl (cI, nP, .inl (zA ((zit (stN nM nV nW nP len vc lt vn vl sv) vc.toNat (0, -1, nm)).2.2))))])) ([.ref (a 0), .ref np] : List Value).toArray s 0 0 A) (F0 m 7 ls []) := by
    intro nn
    induction nn with
    | zero =>
      intros
      exact absurd (by assumption : _ < 0) (Nat.not_lt_zero _)
    | succ nn ih7 =>
      intro i ct fo nmq H locs ls h0 h1 hct hfo hq hmu hP hD hS hl
      refine lv_iload hx hb dX0_nameValleys_7 (lv_at hl 4 rfl) ?_
      refine lv_aload_n hx hb dX0_nameValleys_9 rfl (lv_at hl 0 rfl) ?_
      refine va_get (D := D) (ci := 0) (v := .int (zI vc)) (C := RX0) (T := TX0) (N := 15) hx hb hts inX0_nameValleys_X0 hown hK.1 hP 0 rfl rfl 14 (by decide) (hts (.fieldLink RX0 97 "TextEnds$EndSorter" "valleyCount" "I") (List.mem_of_getElem? (i := 1) rfl)) (fun _ h9 => h9) rfl dX0_nameValleys_10 ?_
      refine z_icmp_ge (tgt := 70) hx hb dX0_nameValleys_13 (by decide) (by omega) (by omega) (fun h_1 => ?_) (fun h_1 => ?_)
      · skip
        rw [show i = vc by omega] at hq
        have hwe : nmq = ((zit (stN nM nV nW nP len vc lt vn vl sv) vc.toNat (0, -1, nm)).2.2) := congrArg (fun z => z.2.2) hq
        rw [hwe] at hP hD
        clear hwe
        refine lv_iload_n hx hb dX0_nameValleys_70 rfl (lv_at hl 2 rfl) ?_
        exact W.iret (v := zI ct) hx hb hr (fun t ht_ hW_ => ⟨⟨ct, (), rfl, ⟨congrArg (fun z => z.1) hq, trivial⟩, by rw [ht_]; exact hP, hD⟩, hS.F ht_⟩) hS.2.2 dX0_nameValleys_71
      · skip
        have hk1 := zat_S hsv nW i
        have hk2 := zat_S hvn nM (zat nW sv i)
        refine lv_aload_n hx hb dX0_nameValleys_16 rfl (lv_at hl 0 rfl) ?_
        refine va_get (D := D) (ci := 0) (v := .ref (a 7)) (C := RX0) (T := TX0) (N := 15) hx hb hts inX0_nameValleys_X0 hown hK.1 hP 0 rfl rfl 6 (by decide) (hts (.fieldLink RX0 55 "TextEnds$EndSorter" "sortedValleys" "[I") (List.mem_of_getElem? (i := 2) rfl)) (fun _ h9 => h9) rfl dX0_nameValleys_17 ?_
        refine lv_iload hx hb dX0_nameValleys_20 (lv_at hl 4 rfl) ?_
        refine z_cr (va_runSN (As := [.ref (a 7), .int (zI i)]) (rest := []) ⟨hx, hb, hml, hown, hts⟩ (kX2_at l D cI cZ cL (a 7) nW sv i (by omega) (by omega)) ⟨va_cnB 2 hts gX0_nameValleys_X2_at_n131 rfl rfl rfl hK.2.2 (hts (.initialized RX2) (List.mem_of_getElem? (i := 5) rfl)) (by decide +kernel) ⟨Nat.le_of_ble_eq_true rfl, Nat.le_of_ble_eq_true rfl⟩, hts (.static yX2_at) (List.mem_of_getElem? (i := 4) rfl), trivial⟩ (zPr_pre hK (hP.sub (ws' := [(a 7, .inl (cI, nW, .inl (zA sv)))]) [4] rfl)) rfl rfl hl.1 rfl (lv_room (Nat.le_of_ble_eq_true rfl)) dX0_nameValleys_22 ⟨Nat.zero_le _, Nat.zero_le _⟩) (fun r hr_ => ?_)
        subst hr_
        refine lv_istore (lv' := [(5, .int (zI (zat nW sv i))), (0, .ref (a 0)), (1, .ref np), (2, .int (zI ct)), (3, .int (zI fo)), (4, .int (zI i))]) hx hb dX0_nameValleys_25 hl (by decide) rfl (fun ls hl => ?_)
        refine lv_iload hx hb dX0_nameValleys_27 (lv_at hl 5 rfl) ?_
        refine z_if_eq (tgt := 42) hx hb dX0_nameValleys_29 (by decide) (by omega) (fun h_2 => ?_) (fun h_2 => ?_)
        · skip
          refine lv_iinc (v := zI (ct + 1)) (lv' := [(2, .int (zI (ct + 1))), (5, .int (zI (zat nW sv i))), (0, .ref (a 0)), (1, .ref np), (3, .int (zI fo)), (4, .int (zI i))]) hx hb dX0_nameValleys_42 hl (k := 3) rfl (zI_add _ _) (by decide) rfl (fun ls hl => ?_)
          refine lv_aload_n hx hb dX0_nameValleys_45 rfl (lv_at hl 3 rfl) ?_
          refine lv_aload_n hx hb dX0_nameValleys_46 rfl (lv_at hl 2 rfl) ?_
          refine va_get (D := D) (ci := 0) (v := .ref (a 6)) (C := RX0) (T := TX0) (N := 15) hx hb hts inX0_nameValleys_X0 hown hK.1 hP 0 rfl rfl 5 (by decide) (hts (.fieldLink RX0 49 "TextEnds$EndSorter" "valleyNumber" "[I") (List.mem_of_getElem? (i := 3) rfl)) (fun _ h9 => h9) rfl dX0_nameValleys_47 ?_
          refine lv_iload hx hb dX0_nameValleys_50 (lv_at hl 1 rfl) ?_
          refine z_cr (va_runSN (As := [.ref (a 6), .int (zI (zat nW sv i))]) (rest := [.ref np]) ⟨hx, hb, hml, hown, hts⟩ (kX2_at l D cI cZ cL (a 6) nM vn (zat nW sv i) (by omega) (by omega)) ⟨va_cnB 2 hts gX0_nameValleys_X2_at_n131 rfl rfl rfl hK.2.2 (hts (.initialized RX2) (List.mem_of_getElem? (i := 5) rfl)) (by decide +kernel) ⟨Nat.le_of_ble_eq_true rfl, Nat.le_of_ble_eq_true rfl⟩, hts (.static yX2_at) (List.mem_of_getElem? (i := 4) rfl), trivial⟩ (zPr_pre hK (hP.sub (ws' := [(a 6, .inl (cI, nM, .inl (zA vn)))]) [3] rfl)) rfl rfl hl.1 rfl (lv_room (Nat.le_of_ble_eq_true rfl)) dX0_nameValleys_52 ⟨Nat.zero_le _, Nat.zero_le _⟩) (fun r hr_ => ?_)
          subst hr_
          refine lv_iload_n hx hb dX0_nameValleys_55 rfl (lv_at hl 0 rfl) ?_
          refine lv_iconst (v := zI 1) hx hb dX0_nameValleys_56 (by first | rfl | decide) ?_
          refine z_isub hx hb dX0_nameValleys_57 ?_
          refine z_cw (wc := [(np, .inl (cI, nP, .inl (zA nmq)))]) (wr := [(a 0, .inr (0, so a ts lp len sg vc)), (lp, .inl (cI, nl, .inl (zA lt))), (a 5, .inl (cI, nV, .inl (zA vl))), (a 6, .inl (cI, nM, .inl (zA vn))), (a 7, .inl (cI, nW, .inl (zA sv)))]) (Wt := (fun _ : Unit => [(a 0, .inr (0, so a ts lp len sg vc)), (lp, .inl (cI, nl, .inl (zA lt))), (a 5, .inl (cI, nV, .inl (zA vl))), (a 6, .inl (cI, nM, .inl (zA vn))), (a 7, .inl (cI, nW, .inl (zA sv))), (np, .inl (cI, nP, .inl (zA (zput nP nmq (zat nM vn (zat nW sv i)) ((ct + 1) - 1)))))])) [5] [0, 1, 2, 3, 4] [0, 1, 2, 3, 4, 5] hP hD hS hA rfl rfl (by decide) (by decide) (by decide) (by decide) (fun _ => rfl) (fun _ => rfl) (fun hPc hDc => va_runSN (As := [.ref np, .int (zI (zat nM vn (zat nW sv i))), .int (zI ((ct + 1) - 1))]) (rest := []) ⟨hx, hb, hml, hown, hts⟩ (kX2_put l D cI cZ cL np nP nmq (zat nM vn (zat nW sv i)) ((ct + 1) - 1) _ (by omega) (by omega)) ⟨va_cnB 3 hts gX0_nameValleys_X2_put_n127 rfl rfl rfl hK.2.1 (hts (.initialized RX2) (List.mem_of_getElem? (i := 5) rfl)) (by decide +kernel) ⟨Nat.le_of_ble_eq_true rfl, Nat.le_of_ble_eq_true rfl⟩, hts (.static yX2_put) (List.mem_of_getElem? (i := 23) rfl), trivial⟩ (zPw_pre hK hPc hDc) rfl rfl hl.1 rfl (lv_room (Nat.le_of_ble_eq_true rfl)) dX0_nameValleys_58 ⟨Nat.zero_le _, Nat.zero_le _⟩) rfl (fun u H locs hp_ hP hD hS => ?_)
          have hP : va_P D vwCl [(a 0, .inr (0, so a ts lp len sg vc)), (lp, .inl (cI, nl, .inl (zA lt))), (a 5, .inl (cI, nV, .inl (zA vl))), (a 6, .inl (cI, nM, .inl (zA vn))), (a 7, .inl (cI, nW, .inl (zA sv))), (np, .inl (cI, nP, .inl (zA (zput nP nmq (zat nM vn (zat nW sv i)) ((ct + 1) - 1)))))] H := hP
          have hD : va_D A [(a 0, .inr (0, so a ts lp len sg vc)), (lp, .inl (cI, nl, .inl (zA lt))), (a 5, .inl (cI, nV, .inl (zA vl))), (a 6, .inl (cI, nM, .inl (zA vn))), (a 7, .inl (cI, nW, .inl (zA sv))), (np, .inl (cI, nP, .inl (zA (zput nP nmq (zat nM vn (zat nW sv i)) ((ct + 1) - 1)))))] := hD
          refine lv_iload hx hb dX0_nameValleys_61 (lv_at hl 1 rfl) ?_
          refine lv_istore_n (lv' := [(3, .int (zI (zat nW sv i))), (2, .int (zI (ct + 1))), (5, .int (zI (zat nW sv i))), (0, .ref (a 0)), (1, .ref np), (4, .int (zI i))]) hx hb dX0_nameValleys_63 rfl hl (by decide) rfl (fun ls hl => ?_)
          refine lv_iinc (v := zI (i + 1)) (lv' := [(4, .int (zI (i + 1))), (3, .int (zI (zat nW sv i))), (2, .int (zI (ct + 1))), (5, .int (zI (zat nW sv i))), (0, .ref (a 0)), (1, .ref np)]) hx hb dX0_nameValleys_64 hl (k := 5) rfl (zI_add _ _) (by decide) rfl (fun ls hl => ?_)
          refine lv_goto (tgt := 7) hx hb dX0_nameValleys_67 (by decide) ?_
          exact ih7 (i + 1) (ct + 1) (zat nW sv i) (zput nP nmq (zat nM vn (zat nW sv i)) ((ct + 1) - 1)) _ _ ls (by omega) (by omega) (by omega) (by omega) (by first | exact stN_a hq h0 (by with_reducible assumption) (bi_ne (by with_reducible assumption)) | exact stN_b hq h0 (bi_eq (by with_reducible assumption)) | exact stN_c hq h0 (by with_reducible assumption)) (by omega) (hP) (hD) hS (lv_sub hl [4, 5, 2, 1, 0] rfl)
        · skip
          refine lv_aload_n hx hb dX0_nameValleys_32 rfl (lv_at hl 1 rfl) ?_
          refine lv_iload_n hx hb dX0_nameValleys_33 rfl (lv_at hl 4 rfl) ?_
          refine lv_iload hx hb dX0_nameValleys_34 (lv_at hl 0 rfl) ?_
          refine z_cr (va_runV (As := [.int (zI fo), .int (zI (zat nW sv i))]) (rest := []) ⟨hx, hb, hml, hown, hts⟩ (kX0_areAlike l D cI cZ cL a ts lp len sg vc nl nV nM lt vl vn fo (zat nW sv i) (by omega) (by omega) (by omega) (by omega) (by omega) (by omega) (hlt) (hvl) (hvn) (by omega) (by omega)) (cwV 2 hts gX0_nameValleys_X0_areAlike rfl rfl rfl (by decide +kernel) ⟨Nat.le_of_ble_eq_true rfl, Nat.le_of_ble_eq_true rfl⟩) (zPr_preV (ci := 0) (q0 := 0) hK (hP.sub (ws' := [(a 0, .inr (0, so a ts lp len sg vc)), (lp, .inl (cI, nl, .inl (zA lt))), (a 5, .inl (cI, nV, .inl (zA vl))), (a 6, .inl (cI, nM, .inl (zA vn)))]) [0, 1, 2, 3] rfl) rfl rfl) rfl rfl hl.1 rfl (lv_room (Nat.le_of_ble_eq_true rfl)) dX0_nameValleys_36 ⟨Nat.zero_le _, Nat.zero_le _⟩) (fun r hr_ => ?_)
          subst hr_
          refine z_if_ne (tgt := 45) hx hb dX0_nameValleys_39 (by decide) (bi_R _) (fun h_3 => ?_) (fun h_3 => ?_)
          · skip
            refine lv_aload_n hx hb dX0_nameValleys_45 rfl (lv_at hl 2 rfl) ?_
            refine lv_aload_n hx hb dX0_nameValleys_46 rfl (lv_at hl 1 rfl) ?_
            refine va_get (D := D) (ci := 0) (v := .ref (a 6)) (C := RX0) (T := TX0) (N := 15) hx hb hts inX0_nameValleys_X0 hown hK.1 hP 0 rfl rfl 5 (by decide) (hts (.fieldLink RX0 49 "TextEnds$EndSorter" "valleyNumber" "[I") (List.mem_of_getElem? (i := 3) rfl)) (fun _ h9 => h9) rfl dX0_nameValleys_47 ?_
            refine lv_iload hx hb dX0_nameValleys_50 (lv_at hl 0 rfl) ?_
            refine z_cr (va_runSN (As := [.ref (a 6), .int (zI (zat nW sv i))]) (rest := [.ref np]) ⟨hx, hb, hml, hown, hts⟩ (kX2_at l D cI cZ cL (a 6) nM vn (zat nW sv i) (by omega) (by omega)) ⟨va_cnB 2 hts gX0_nameValleys_X2_at_n131 rfl rfl rfl hK.2.2 (hts (.initialized RX2) (List.mem_of_getElem? (i := 5) rfl)) (by decide +kernel) ⟨Nat.le_of_ble_eq_true rfl, Nat.le_of_ble_eq_true rfl⟩, hts (.static yX2_at) (List.mem_of_getElem? (i := 4) rfl), trivial⟩ (zPr_pre hK (hP.sub (ws' := [(a 6, .inl (cI, nM, .inl (zA vn)))]) [3] rfl)) rfl rfl hl.1 rfl (lv_room (Nat.le_of_ble_eq_true rfl)) dX0_nameValleys_52 ⟨Nat.zero_le _, Nat.zero_le _⟩) (fun r hr_ => ?_)
            subst hr_
            refine lv_iload_n hx hb dX0_nameValleys_55 rfl (lv_at hl 3 rfl) ?_
            refine lv_iconst (v := zI 1) hx hb dX0_nameValleys_56 (by first | rfl | decide) ?_
            refine z_isub hx hb dX0_nameValleys_57 ?_
            refine z_cw (wc := [(np, .inl (cI, nP, .inl (zA nmq)))]) (wr := [(a 0, .inr (0, so a ts lp len sg vc)), (lp, .inl (cI, nl, .inl (zA lt))), (a 5, .inl (cI, nV, .inl (zA vl))), (a 6, .inl (cI, nM, .inl (zA vn))), (a 7, .inl (cI, nW, .inl (zA sv)))]) (Wt := (fun _ : Unit => [(a 0, .inr (0, so a ts lp len sg vc)), (lp, .inl (cI, nl, .inl (zA lt))), (a 5, .inl (cI, nV, .inl (zA vl))), (a 6, .inl (cI, nM, .inl (zA vn))), (a 7, .inl (cI, nW, .inl (zA sv))), (np, .inl (cI, nP, .inl (zA (zput nP nmq (zat nM vn (zat nW sv i)) (ct - 1)))))])) [5] [0, 1, 2, 3, 4] [0, 1, 2, 3, 4, 5] hP hD hS hA rfl rfl (by decide) (by decide) (by decide) (by decide) (fun _ => rfl) (fun _ => rfl) (fun hPc hDc => va_runSN (As := [.ref np, .int (zI (zat nM vn (zat nW sv i))), .int (zI (ct - 1))]) (rest := []) ⟨hx, hb, hml, hown, hts⟩ (kX2_put l D cI cZ cL np nP nmq (zat nM vn (zat nW sv i)) (ct - 1) _ (by omega) (by omega)) ⟨va_cnB 3 hts gX0_nameValleys_X2_put_n127 rfl rfl rfl hK.2.1 (hts (.initialized RX2) (List.mem_of_getElem? (i := 5) rfl)) (by decide +kernel) ⟨Nat.le_of_ble_eq_true rfl, Nat.le_of_ble_eq_true rfl⟩, hts (.static yX2_put) (List.mem_of_getElem? (i := 23) rfl), trivial⟩ (zPw_pre hK hPc hDc) rfl rfl hl.1 rfl (lv_room (Nat.le_of_ble_eq_true rfl)) dX0_nameValleys_58 ⟨Nat.zero_le _, Nat.zero_le _⟩) rfl (fun u H locs hp_ hP hD hS => ?_)
            have hP : va_P D vwCl [(a 0, .inr (0, so a ts lp len sg vc)), (lp, .inl (cI, nl, .inl (zA lt))), (a 5, .inl (cI, nV, .inl (zA vl))), (a 6, .inl (cI, nM, .inl (zA vn))), (a 7, .inl (cI, nW, .inl (zA sv))), (np, .inl (cI, nP, .inl (zA (zput nP nmq (zat nM vn (zat nW sv i)) (ct - 1)))))] H := hP
            have hD : va_D A [(a 0, .inr (0, so a ts lp len sg vc)), (lp, .inl (cI, nl, .inl (zA lt))), (a 5, .inl (cI, nV, .inl (zA vl))), (a 6, .inl (cI, nM, .inl (zA vn))), (a 7, .inl (cI, nW, .inl (zA sv))), (np, .inl (cI, nP, .inl (zA (zput nP nmq (zat nM vn (zat nW sv i)) (ct - 1)))))] := hD
            refine lv_iload hx hb dX0_nameValleys_61 (lv_at hl 0 rfl) ?_
            refine lv_istore_n (lv' := [(3, .int (zI (zat nW sv i))), (5, .int (zI (zat nW sv i))), (0, .ref (a 0)), (1, .ref np), (2, .int (zI ct)), (4, .int (zI i))]) hx hb dX0_nameValleys_63 rfl hl (by decide) rfl (fun ls hl => ?_)
            refine lv_iinc (v := zI (i + 1)) (lv' := [(4, .int (zI (i + 1))), (3, .int (zI (zat nW sv i))), (5, .int (zI (zat nW sv i))), (0, .ref (a 0)), (1, .ref np), (2, .int (zI ct))]) hx hb dX0_nameValleys_64 hl (k := 5) rfl (zI_add _ _) (by decide) rfl (fun ls hl => ?_)
            refine lv_goto (tgt := 7) hx hb dX0_nameValleys_67 (by decide) ?_
            exact ih7 (i + 1) ct (zat nW sv i) (zput nP nmq (zat nM vn (zat nW sv i)) (ct - 1)) _ _ ls (by omega) (by omega) (by omega) (by omega) (by first | exact stN_a hq h0 (by with_reducible assumption) (bi_ne (by with_reducible assumption)) | exact stN_b hq h0 (bi_eq (by with_reducible assumption)) | exact stN_c hq h0 (by with_reducible assumption)) (by omega) (hP) (hD) hS (lv_sub hl [3, 4, 5, 1, 0] rfl)
          · skip
            refine lv_iinc (v := zI (ct + 1)) (lv' := [(2, .int (zI (ct + 1))), (5, .int (zI (zat nW sv i))), (0, .ref (a 0)), (1, .ref np), (3, .int (zI fo)), (4, .int (zI i))]) hx hb dX0_nameValleys_42 hl (k := 3) rfl (zI_add _ _) (by decide) rfl (fun ls hl => ?_)
            refine lv_aload_n hx hb dX0_nameValleys_45 rfl (lv_at hl 3 rfl) ?_
            refine lv_aload_n hx hb dX0_nameValleys_46 rfl (lv_at hl 2 rfl) ?_
            refine va_get (D := D) (ci := 0) (v := .ref (a 6)) (C := RX0) (T := TX0) (N := 15) hx hb hts inX0_nameValleys_X0 hown hK.1 hP 0 rfl rfl 5 (by decide) (hts (.fieldLink RX0 49 "TextEnds$EndSorter" "valleyNumber" "[I") (List.mem_of_getElem? (i := 3) rfl)) (fun _ h9 => h9) rfl dX0_nameValleys_47 ?_
            refine lv_iload hx hb dX0_nameValleys_50 (lv_at hl 1 rfl) ?_
            refine z_cr (va_runSN (As := [.ref (a 6), .int (zI (zat nW sv i))]) (rest := [.ref np]) ⟨hx, hb, hml, hown, hts⟩ (kX2_at l D cI cZ cL (a 6) nM vn (zat nW sv i) (by omega) (by omega)) ⟨va_cnB 2 hts gX0_nameValleys_X2_at_n131 rfl rfl rfl hK.2.2 (hts (.initialized RX2) (List.mem_of_getElem? (i := 5) rfl)) (by decide +kernel) ⟨Nat.le_of_ble_eq_true rfl, Nat.le_of_ble_eq_true rfl⟩, hts (.static yX2_at) (List.mem_of_getElem? (i := 4) rfl), trivial⟩ (zPr_pre hK (hP.sub (ws' := [(a 6, .inl (cI, nM, .inl (zA vn)))]) [3] rfl)) rfl rfl hl.1 rfl (lv_room (Nat.le_of_ble_eq_true rfl)) dX0_nameValleys_52 ⟨Nat.zero_le _, Nat.zero_le _⟩) (fun r hr_ => ?_)
            subst hr_
            refine lv_iload_n hx hb dX0_nameValleys_55 rfl (lv_at hl 0 rfl) ?_
            refine lv_iconst (v := zI 1) hx hb dX0_nameValleys_56 (by first | rfl | decide) ?_
            refine z_isub hx hb dX0_nameValleys_57 ?_
            refine z_cw (wc := [(np, .inl (cI, nP, .inl (zA nmq)))]) (wr := [(a 0, .inr (0, so a ts lp len sg vc)), (lp, .inl (cI, nl, .inl (zA lt))), (a 5, .inl (cI, nV, .inl (zA vl))), (a 6, .inl (cI, nM, .inl (zA vn))), (a 7, .inl (cI, nW, .inl (zA sv)))]) (Wt := (fun _ : Unit => [(a 0, .inr (0, so a ts lp len sg vc)), (lp, .inl (cI, nl, .inl (zA lt))), (a 5, .inl (cI, nV, .inl (zA vl))), (a 6, .inl (cI, nM, .inl (zA vn))), (a 7, .inl (cI, nW, .inl (zA sv))), (np, .inl (cI, nP, .inl (zA (zput nP nmq (zat nM vn (zat nW sv i)) ((ct + 1) - 1)))))])) [5] [0, 1, 2, 3, 4] [0, 1, 2, 3, 4, 5] hP hD hS hA rfl rfl (by decide) (by decide) (by decide) (by decide) (fun _ => rfl) (fun _ => rfl) (fun hPc hDc => va_runSN (As := [.ref np, .int (zI (zat nM vn (zat nW sv i))), .int (zI ((ct + 1) - 1))]) (rest := []) ⟨hx, hb, hml, hown, hts⟩ (kX2_put l D cI cZ cL np nP nmq (zat nM vn (zat nW sv i)) ((ct + 1) - 1) _ (by omega) (by omega)) ⟨va_cnB 3 hts gX0_nameValleys_X2_put_n127 rfl rfl rfl hK.2.1 (hts (.initialized RX2) (List.mem_of_getElem? (i := 5) rfl)) (by decide +kernel) ⟨Nat.le_of_ble_eq_true rfl, Nat.le_of_ble_eq_true rfl⟩, hts (.static yX2_put) (List.mem_of_getElem? (i := 23) rfl), trivial⟩ (zPw_pre hK hPc hDc) rfl rfl hl.1 rfl (lv_room (Nat.le_of_ble_eq_true rfl)) dX0_nameValleys_58 ⟨Nat.zero_le _, Nat.zero_le _⟩) rfl (fun u H locs hp_ hP hD hS => ?_)
            have hP : va_P D vwCl [(a 0, .inr (0, so a ts lp len sg vc)), (lp, .inl (cI, nl, .inl (zA lt))), (a 5, .inl (cI, nV, .inl (zA vl))), (a 6, .inl (cI, nM, .inl (zA vn))), (a 7, .inl (cI, nW, .inl (zA sv))), (np, .inl (cI, nP, .inl (zA (zput nP nmq (zat nM vn (zat nW sv i)) ((ct + 1) - 1)))))] H := hP
            have hD : va_D A [(a 0, .inr (0, so a ts lp len sg vc)), (lp, .inl (cI, nl, .inl (zA lt))), (a 5, .inl (cI, nV, .inl (zA vl))), (a 6, .inl (cI, nM, .inl (zA vn))), (a 7, .inl (cI, nW, .inl (zA sv))), (np, .inl (cI, nP, .inl (zA (zput nP nmq (zat nM vn (zat nW sv i)) ((ct + 1) - 1)))))] := hD
            refine lv_iload hx hb dX0_nameValleys_61 (lv_at hl 1 rfl) ?_
            refine lv_istore_n (lv' := [(3, .int (zI (zat nW sv i))), (2, .int (zI (ct + 1))), (5, .int (zI (zat nW sv i))), (0, .ref (a 0)), (1, .ref np), (4, .int (zI i))]) hx hb dX0_nameValleys_63 rfl hl (by decide) rfl (fun ls hl => ?_)
            refine lv_iinc (v := zI (i + 1)) (lv' := [(4, .int (zI (i + 1))), (3, .int (zI (zat nW sv i))), (2, .int (zI (ct + 1))), (5, .int (zI (zat nW sv i))), (0, .ref (a 0)), (1, .ref np)]) hx hb dX0_nameValleys_64 hl (k := 5) rfl (zI_add _ _) (by decide) rfl (fun ls hl => ?_)
            refine lv_goto (tgt := 7) hx hb dX0_nameValleys_67 (by decide) ?_
            exact ih7 (i + 1) (ct + 1) (zat nW sv i) (zput nP nmq (zat nM vn (zat nW sv i)) ((ct + 1) - 1)) _ _ ls (by omega) (by omega) (by omega) (by omega) (by first | exact stN_a hq h0 (by with_reducible assumption) (bi_ne (by with_reducible assumption)) | exact stN_b hq h0 (bi_eq (by with_reducible assumption)) | exact stN_c hq h0 (by with_reducible assumption)) (by omega) (hP) (hD) hS (lv_sub hl [4, 5, 2, 1, 0] rfl)
  exact loop7 _ 0 0 (-1) nm _ _ ls (by omega) (by omega) (by omega) (by omega) (rfl) (Nat.lt_succ_self _) hP hD hS (lv_sub hl [3, 4, 2, 1, 0] rfl)
set_option maxHeartbeats 4000000 in
set_option maxRecDepth 100000 in
/-- takeOrderFromBelow() -/
theorem kX0_takeOrderFromBelow (l : Launch) (D : va_G) (cI cZ cL : ClassId) (a : Nat → Nat) (ts : Int) (lp : Nat) (len sg vc : Int) (nO nV nW : Nat) (od vl sv : Int → Int) (szz : Nat) (hvc : 0 ≤ vc ∧ vc ≤ 1000000) (bnO : (nO : Int) < 1073741824) (bnV : (nV : Int) < 1073741824) (bnW : (nW : Int) < 1073741824) (hod : zS od) : Met l yX0_takeOrderFromBelow wsX0_takeOrderFromBelow ({ frames := 1, cells := 0, slots := 0, locals := 22 }) (zPw D cI cZ cL szz [.ref (a 0)] [(a 0, .inr (0, so a ts lp len sg vc)), (a 2, .inl (cI, nO, .inl (zA od))), (a 5, .inl (cI, nV, .inl (zA vl))), (a 7, .inl (cI, nW, .inl (zA sv)))]) (zQw D (va_A [(a 0, .inr (0, so a ts lp len sg vc)), (a 2, .inl (cI, nO, .inl (zA od))), (a 5, .inl (cI, nV, .inl (zA vl))), (a 7, .inl (cI, nW, .inl (zA sv)))] szz) (fun _ : Unit => True) (fun _ : Unit => [(a 0, .inr (0, so a ts lp len sg vc)), (a 2, .inl (cI, nO, .inl (zA od))), (a 5, .inl (cI, nV, .inl (zA vl))), (a 7, .inl (cI, nW, .inl (zA (zit (stT nO nV nW od vl) vc.toNat sv))))])) 0 0 (va_A [(a 0, .inr (0, so a ts lp len sg vc)), (a 2, .inl (cI, nO, .inl (zA od))), (a 5, .inl (cI, nV, .inl (zA vl))), (a 7, .inl (cI, nW, .inl (zA sv)))] szz) := by
  refine Met.ofW (cc := cX0_takeOrderFromBelow) (maxL := 2) (ret := none) (by decide) rfl ?_
  intro p e s m args below meth c s₁ B hml hv
  obtain ⟨rfl, hsz, hP, hK, hD0⟩ := hv
  have hx := B.exec
  have hb := B.bytes
  have hr := B.returns
  have hts := atoms_spec (ws := wsX0_takeOrderFromBelow) B.pre
  have hown : s.vm.findClass RX0 = some m.cls := findClass_of_methodNamed B.named
  have hlocks := B.notSynchronized
  subst hsz
  have hD := hD0.self (sz := s.heap.size)
  generalize hAe : va_A [(a 0, .inr (0, so a ts lp len sg vc)), (a 2, .inl (cI, nO, .inl (zA od))), (a 5, .inl (cI, nV, .inl (zA vl))), (a 7, .inl (cI, nW, .inl (zA sv)))] s.heap.size = A at hD ⊢
  have hA : ∀ q : Nat, s.heap.size ≤ q → A q := fun q h => by rw [← hAe]; exact Or.inr h
  have hS : va_S A s.heap s.heap [] := va_S.rf
  clear hD0
  have hP : va_P D vwCl [(a 0, .inr (0, so a ts lp len sg vc)), (a 2, .inl (cI, nO, .inl (zA od))), (a 5, .inl (cI, nV, .inl (zA vl))), (a 7, .inl (cI, nW, .inl (zA sv)))] s.heap := hP
  have hl := lv_entry ([.ref (a 0)]) (n := 2) (Nat.le_of_ble_eq_true rfl)
  rw [lg_entry_eq]
  generalize (lg_sl ([.ref (a 0)]) ++ List.replicate (2 - (lg_sl ([.ref (a 0)])).length) Slot.unset).toArray = ls at hl ⊢
  have hl : lv_has ls 2 [(0, .ref (a 0))] := hl
  refine lv_iconst (v := zI 0) hx hb dX0_takeOrderFromBelow_0 (by first | rfl | decide) ?_
  refine lv_istore_n (lv' := [(1, .int (zI 0)), (0, .ref (a 0))]) hx hb dX0_takeOrderFromBelow_1 rfl hl (by decide) rfl (fun ls hl => ?_)
  have loop2 : ∀ (nn : Nat) (i : Int) (svq : Int → Int) (H : Heap) (locs : List Loc) (ls : Array Slot), (0 ≤ i) → (i ≤ vc) → (svq = zit (stT nO nV nW od vl) i.toNat sv) → ((vc - i).toNat) < nn → va_P D vwCl [(a 0, .inr (0, so a ts lp len sg vc)), (a 2, .inl (cI, nO, .inl (zA od))), (a 5, .inl (cI, nV, .inl (zA vl))), (a 7, .inl (cI, nW, .inl (zA svq)))] H → va_D A [(a 0, .inr (0, so a ts lp len sg vc)), (a 2, .inl (cI, nO, .inl (zA od))), (a 5, .inl (cI, nV, .inl (zA vl))), (a 7, .inl (cI, nW, .inl (zA svq)))] → va_S A s.heap H locs → lv_has ls 2 [(0, .ref (a 0)), (1, .int (zI i))] → W p l e (headSpec wsX0_takeOrderFromBelow ({ frames := 1, cells := 0, slots := 0, locals := 22 })).room s m ([.ref (a 0)] : List Value).toArray below meth c H locs 0 0 (MQ below (zQw D A (fun _ : Unit => True) (fun _ : Unit => [(a 0, .inr (0, so a ts lp len sg vc)), (a 2, .inl (cI, nO, .inl (zA od))), (a 5, .inl (cI, nV, .inl (zA vl))), (a 7, .inl (cI, nW, .inl (zA (zit (stT nO nV nW od vl) vc.toNat sv))))])) ([.ref (a 0)] : List Value).toArray s 0 0 A) (F0 m 2 ls []) := by
    intro nn
    induction nn with
    | zero =>
      intros
      exact absurd (by assumption : _ < 0) (Nat.not_lt_zero _)
    | succ nn ih2 =>
      intro i svq H locs ls h0 h1 hq hmu hP hD hS hl
      refine lv_iload_n hx hb dX0_takeOrderFromBelow_2 rfl (lv_at hl 1 rfl) ?_
      refine lv_aload_n hx hb dX0_takeOrderFromBelow_3 rfl (lv_at hl 0 rfl) ?_
      refine va_get (D := D) (ci := 0) (v := .int (zI vc)) (C := RX0) (T := TX0) (N := 15) hx hb hts inX0_takeOrderFromBelow_X0 hown hK.1 hP 0 rfl rfl 14 (by decide) (hts (.fieldLink RX0 97 "TextEnds$EndSorter" "valleyCount" "I") (List.mem_of_getElem? (i := 1) rfl)) (fun _ h9 => h9) rfl dX0_takeOrderFromBelow_4 ?_
      refine z_icmp_ge (tgt := 39) hx hb dX0_takeOrderFromBelow_7 (by decide) (by omega) (by omega) (fun h_1 => ?_) (fun h_1 => ?_)
      · skip
        have hwe : svq = (zit (stT nO nV nW od vl) vc.toNat sv) := by rw [hq, show i = vc by omega]
        rw [hwe] at hP hD
        clear hwe
        exact W.vret hx hb hr (fun t ht_ hW_ => ⟨⟨(), rfl, trivial, by rw [ht_]; exact hP, hD⟩, hS.F ht_⟩) hS.2.2 dX0_takeOrderFromBelow_39
      · skip
        have hk1 := zat_S hod nO i
        refine lv_aload_n hx hb dX0_takeOrderFromBelow_10 rfl (lv_at hl 0 rfl) ?_
        refine va_get (D := D) (ci := 0) (v := .ref (a 7)) (C := RX0) (T := TX0) (N := 15) hx hb hts inX0_takeOrderFromBelow_X0 hown hK.1 hP 0 rfl rfl 6 (by decide) (hts (.fieldLink RX0 55 "TextEnds$EndSorter" "sortedValleys" "[I") (List.mem_of_getElem? (i := 2) rfl)) (fun _ h9 => h9) rfl dX0_takeOrderFromBelow_11 ?_
        refine lv_iload_n hx hb dX0_takeOrderFromBelow_14 rfl (lv_at hl 1 rfl) ?_
        refine lv_aload_n hx hb dX0_takeOrderFromBelow_15 rfl (lv_at hl 0 rfl) ?_
        refine va_get (D := D) (ci := 0) (v := .ref (a 5)) (C := RX0) (T := TX0) (N := 15) hx hb hts inX0_takeOrderFromBelow_X0 hown hK.1 hP 0 rfl rfl 4 (by decide) (hts (.fieldLink RX0 52 "TextEnds$EndSorter" "valleys" "[I") (List.mem_of_getElem? (i := 3) rfl)) (fun _ h9 => h9) rfl dX0_takeOrderFromBelow_16 ?_
        refine lv_aload_n hx hb dX0_takeOrderFromBelow_19 rfl (lv_at hl 0 rfl) ?_
        refine va_get (D := D) (ci := 0) (v := .ref (a 2)) (C := RX0) (T := TX0) (N := 15) hx hb hts inX0_takeOrderFromBelow_X0 hown hK.1 hP 0 rfl rfl 1 (by decide) (hts (.fieldLink RX0 42 "TextEnds$EndSorter" "order" "[I") (List.mem_of_getElem? (i := 4) rfl)) (fun _ h9 => h9) rfl dX0_takeOrderFromBelow_20 ?_
        refine lv_iload_n hx hb dX0_takeOrderFromBelow_23 rfl (lv_at hl 1 rfl) ?_
        refine z_cr (va_runSN (As := [.ref (a 2), .int (zI i)]) (rest := [.ref (a 5), .int (zI i), .ref (a 7)]) ⟨hx, hb, hml, hown, hts⟩ (kX2_at l D cI cZ cL (a 2) nO od i (by omega) (by omega)) ⟨va_cnB 2 hts gX0_takeOrderFromBelow_X2_at_n131 rfl rfl rfl hK.2.2 (hts (.initialized RX2) (List.mem_of_getElem? (i := 6) rfl)) (by decide +kernel) ⟨Nat.le_of_ble_eq_true rfl, Nat.le_of_ble_eq_true rfl⟩, hts (.static yX2_at) (List.mem_of_getElem? (i := 5) rfl), trivial⟩ (zPr_pre hK (hP.sub (ws' := [(a 2, .inl (cI, nO, .inl (zA od)))]) [1] rfl)) rfl rfl hl.1 rfl (lv_room (Nat.le_of_ble_eq_true rfl)) dX0_takeOrderFromBelow_24 ⟨Nat.zero_le _, Nat.zero_le _⟩) (fun r hr_ => ?_)
        subst hr_
        refine z_cr (va_runSN (As := [.ref (a 5), .int (zI (zat nO od i))]) (rest := [.int (zI i), .ref (a 7)]) ⟨hx, hb, hml, hown, hts⟩ (kX2_at l D cI cZ cL (a 5) nV vl (zat nO od i) (by omega) (by omega)) ⟨va_cnB 2 hts gX0_takeOrderFromBelow_X2_at_n131 rfl rfl rfl hK.2.2 (hts (.initialized RX2) (List.mem_of_getElem? (i := 6) rfl)) (by decide +kernel) ⟨Nat.le_of_ble_eq_true rfl, Nat.le_of_ble_eq_true rfl⟩, hts (.static yX2_at) (List.mem_of_getElem? (i := 5) rfl), trivial⟩ (zPr_pre hK (hP.sub (ws' := [(a 5, .inl (cI, nV, .inl (zA vl)))]) [2] rfl)) rfl rfl hl.1 rfl (lv_room (Nat.le_of_ble_eq_true rfl)) dX0_takeOrderFromBelow_27 ⟨Nat.zero_le _, Nat.zero_le _⟩) (fun r hr_ => ?_)
        subst hr_
        refine z_cw (wc := [(a 7, .inl (cI, nW, .inl (zA svq)))]) (wr := [(a 0, .inr (0, so a ts lp len sg vc)), (a 2, .inl (cI, nO, .inl (zA od))), (a 5, .inl (cI, nV, .inl (zA vl)))]) (Wt := (fun _ : Unit => [(a 0, .inr (0, so a ts lp len sg vc)), (a 2, .inl (cI, nO, .inl (zA od))), (a 5, .inl (cI, nV, .inl (zA vl))), (a 7, .inl (cI, nW, .inl (zA (zput nW svq i (zat nV vl (zat nO od i))))))])) [3] [0, 1, 2] [0, 1, 2, 3] hP hD hS hA rfl rfl (by decide) (by decide) (by decide) (by decide) (fun _ => rfl) (fun _ => rfl) (fun hPc hDc => va_runSN (As := [.ref (a 7), .int (zI i), .int (zI (zat nV vl (zat nO od i)))]) (rest := []) ⟨hx, hb, hml, hown, hts⟩ (kX2_put l D cI cZ cL (a 7) nW svq i (zat nV vl (zat nO od i)) _ (by omega) (by omega)) ⟨va_cnB 3 hts gX0_takeOrderFromBelow_X2_put_n127 rfl rfl rfl hK.2.1 (hts (.initialized RX2) (List.mem_of_getElem? (i := 6) rfl)) (by decide +kernel) ⟨Nat.le_of_ble_eq_true rfl, Nat.le_of_ble_eq_true rfl⟩, hts (.static yX2_put) (List.mem_of_getElem? (i := 8) rfl), trivial⟩ (zPw_pre hK hPc hDc) rfl rfl hl.1 rfl (lv_room (Nat.le_of_ble_eq_true rfl)) dX0_takeOrderFromBelow_30 ⟨Nat.zero_le _, Nat.zero_le _⟩) rfl (fun u H locs hp_ hP hD hS => ?_)
        have hP : va_P D vwCl [(a 0, .inr (0, so a ts lp len sg vc)), (a 2, .inl (cI, nO, .inl (zA od))), (a 5, .inl (cI, nV, .inl (zA vl))), (a 7, .inl (cI, nW, .inl (zA (zput nW svq i (zat nV vl (zat nO od i))))))] H := hP
        have hD : va_D A [(a 0, .inr (0, so a ts lp len sg vc)), (a 2, .inl (cI, nO, .inl (zA od))), (a 5, .inl (cI, nV, .inl (zA vl))), (a 7, .inl (cI, nW, .inl (zA (zput nW svq i (zat nV vl (zat nO od i))))))] := hD
        refine lv_iinc (v := zI (i + 1)) (lv' := [(1, .int (zI (i + 1))), (0, .ref (a 0))]) hx hb dX0_takeOrderFromBelow_33 hl (k := 1) rfl (zI_add _ _) (by decide) rfl (fun ls hl => ?_)
        refine lv_goto (tgt := 2) hx hb dX0_takeOrderFromBelow_36 (by decide) ?_
        exact ih2 (i + 1) (zput nW svq i (zat nV vl (zat nO od i))) _ _ ls (by omega) (by omega) (stT_s hq h0) (by omega) (hP) (hD) hS (lv_sub hl [1, 0] rfl)
  exact loop2 _ 0 sv _ _ ls (by omega) (by omega) (rfl) (Nat.lt_succ_self _) hP hD hS (lv_sub hl [1, 0] rfl)
set_option maxHeartbeats 4000000 in
set_option maxRecDepth 100000 in
/-- hold(length, sigma) -/
theorem kX1_hold (l : Launch) (D : va_G) (cI cZ cL : ClassId) (h lp : Nat) (len sg : Int) (nl : Nat) (lt : Int → Int) (x y : Int) (szz : Nat) (bnl : (nl : Int) < 1073741824) (hx1 : zR x) : Met l yX1_hold wsX1_hold ({ frames := 1, cells := 0, slots := 0, locals := 30 }) (zPw D cI cZ cL szz [.ref h, .int (zI x), .int (zI y)] [(h, .inr (1, lo lp len sg)), (lp, .inl (cI, nl, .inl (zA lt)))]) (zQw D (va_A [(h, .inr (1, lo lp len sg)), (lp, .inl (cI, nl, .inl (zA lt)))] szz) (fun _ : Unit => True) (fun _ : Unit => [(h, .inr (1, lo lp (zmin x (nl : Int)) y)), (lp, .inl (cI, nl, .inl (zA lt)))])) 0 0 (va_A [(h, .inr (1, lo lp len sg)), (lp, .inl (cI, nl, .inl (zA lt)))] szz) := by
  refine Met.ofW (cc := cX1_hold) (maxL := 3) (ret := none) (by decide) rfl ?_
  intro p e s m args below meth c s₁ B hml hv
  obtain ⟨rfl, hsz, hP, hK, hD0⟩ := hv
  have hx := B.exec
  have hb := B.bytes
  have hr := B.returns
  have hts := atoms_spec (ws := wsX1_hold) B.pre
  have hown : s.vm.findClass RX1 = some m.cls := findClass_of_methodNamed B.named
  have hlocks := B.notSynchronized
  subst hsz
  have hD := hD0.self (sz := s.heap.size)
  generalize hAe : va_A [(h, .inr (1, lo lp len sg)), (lp, .inl (cI, nl, .inl (zA lt)))] s.heap.size = A at hD ⊢
  have hA : ∀ q : Nat, s.heap.size ≤ q → A q := fun q h => by rw [← hAe]; exact Or.inr h
  have hS : va_S A s.heap s.heap [] := va_S.rf
  clear hD0
  have hP : va_P D vwCl [(h, .inr (1, lo lp len sg)), (lp, .inl (cI, nl, .inl (zA lt)))] s.heap := hP
  have hl := lv_entry ([.ref h, .int (zI x), .int (zI y)]) (n := 3) (Nat.le_of_ble_eq_true rfl)
  rw [lg_entry_eq]
  generalize (lg_sl ([.ref h, .int (zI x), .int (zI y)]) ++ List.replicate (3 - (lg_sl ([.ref h, .int (zI x), .int (zI y)])).length) Slot.unset).toArray = ls at hl ⊢
  have hl : lv_has ls 3 [(0, .ref h), (1, .int (zI x)), (2, .int (zI y))] := hl
  refine lv_aload_n hx hb dX1_hold_0 rfl (lv_at hl 0 rfl) ?_
  refine lv_iload_n hx hb dX1_hold_1 rfl (lv_at hl 1 rfl) ?_
  refine lv_aload_n hx hb dX1_hold_2 rfl (lv_at hl 0 rfl) ?_
  refine va_get (D := D) (ci := 1) (v := .ref lp) (C := RX1) (T := TX1) (N := 3) hx hb hts inX1_hold_X1 hown hK.1 hP 0 rfl rfl 0 (by decide) (hts (.fieldLink RX1 13 "TextEnds$Level" "letters" "[I") (List.mem_of_getElem? (i := 1) rfl)) (fun _ h9 => h9) rfl dX1_hold_3 ?_
  refine z_alen hx hb hK.1 hP 1 0 rfl rfl dX1_hold_6 ?_
  refine va_mmin hx hb (hml.trans hl.1.symm) hown (hts (.methodLink RX1 19 Lib.Math.min.name) (List.mem_of_getElem? (i := 2) rfl)) (hts (.static Lib.Math.min.name) (List.mem_of_getElem? (i := 3) rfl)) (hts (.initialized "java/lang/Math") (List.mem_of_getElem? (i := 4) rfl)) (hts (.code Lib.Math.min.name Lib.Math.min.code 2 (some .int)) (List.mem_of_getElem? (i := 5) rfl)) (Nat.le_of_ble_eq_true rfl) (Nat.le_of_ble_eq_true rfl) (Nat.zero_le _) (Nat.zero_le _) dX1_hold_7 ?_
  refine z_topx (b := zmin x (nl : Int)) (zmin_I (by omega) (by omega)) ?_
  refine va_put (D := D) (ci := 1) (v := .int (zI (zmin x (nl : Int)))) (ty := .int) (C := RX1) (T := TX1) (N := 3) hx hb hts inX1_hold_X1 tyX1 tyX1_ok nmX1 hown hK.1 hP hD hS 0 rfl rfl 1 (by decide) (hts (.fieldLink RX1 22 "TextEnds$Level" "length" "I") (List.mem_of_getElem? (i := 6) rfl)) (fun _ h9 => h9) rfl (by decide +kernel) rfl rfl (Nat.le_of_ble_eq_true rfl) dX1_hold_10 (fun H locs hP hD hS => ?_)
  have hP : va_P D vwCl [(h, .inr (1, lo lp (zmin x (nl : Int)) sg)), (lp, .inl (cI, nl, .inl (zA lt)))] H := hP
  have hD : va_D A [(h, .inr (1, lo lp (zmin x (nl : Int)) sg)), (lp, .inl (cI, nl, .inl (zA lt)))] := hD
  refine lv_aload_n hx hb dX1_hold_13 rfl (lv_at hl 0 rfl) ?_
  refine lv_iload_n hx hb dX1_hold_14 rfl (lv_at hl 2 rfl) ?_
  refine va_put (D := D) (ci := 1) (v := .int (zI y)) (ty := .int) (C := RX1) (T := TX1) (N := 3) hx hb hts inX1_hold_X1 tyX1 tyX1_ok nmX1 hown hK.1 hP hD hS 0 rfl rfl 2 (by decide) (hts (.fieldLink RX1 26 "TextEnds$Level" "sigma" "I") (List.mem_of_getElem? (i := 7) rfl)) (fun _ h9 => h9) rfl (by decide +kernel) rfl rfl (Nat.le_of_ble_eq_true rfl) dX1_hold_15 (fun H locs hP hD hS => ?_)
  have hP : va_P D vwCl [(h, .inr (1, lo lp (zmin x (nl : Int)) y)), (lp, .inl (cI, nl, .inl (zA lt)))] H := hP
  have hD : va_D A [(h, .inr (1, lo lp (zmin x (nl : Int)) y)), (lp, .inl (cI, nl, .inl (zA lt)))] := hD
  exact W.vret hx hb hr (fun t ht_ hW_ => ⟨⟨(), rfl, trivial, by rw [ht_]; exact hP, hD⟩, hS.F ht_⟩) hS.2.2 dX1_hold_18
end
section
set_option maxRecDepth 20000 in
theorem inX3_commonOf_X3 : ∀ w ∈ wsX30, w ∈ wsX3_commonOf := by decide +kernel
set_option maxRecDepth 20000 in
theorem inX3_isBefore_X3 : ∀ w ∈ wsX30, w ∈ wsX3_isBefore := by decide +kernel
set_option maxRecDepth 20000 in
theorem inX3_isEnd_X3 : ∀ w ∈ wsX30, w ∈ wsX3_isEnd := by decide +kernel
set_option maxRecDepth 20000 in
theorem inX3_sa_X3 : ∀ w ∈ wsX30, w ∈ wsX3_sa := by decide +kernel
set_option maxRecDepth 20000 in
theorem inX3_lcp_X3 : ∀ w ∈ wsX30, w ∈ wsX3_lcp := by decide +kernel
set_option maxRecDepth 20000 in
theorem inX3_rank_X3 : ∀ w ∈ wsX30, w ∈ wsX3_rank := by decide +kernel
set_option maxRecDepth 20000 in
theorem inX3_common_X3 : ∀ w ∈ wsX30, w ∈ wsX3_common := by decide +kernel
set_option maxHeartbeats 4000000 in
set_option maxRecDepth 100000 in
/-- commonOf(a, b) -/
theorem kX3_commonOf (l : Launch) (D : va_G) (cI cZ cL : ClassId) (d : Nat → Nat) (rm sg pr sz bt ps fi ht fo : Int) (nT : Nat) (T : Int → Int) (x y : Int) (hsz : 0 ≤ sz ∧ sz ≤ 1000000) (hsT : sz ≤ (nT : Int)) (bnT : (nT : Int) < 1073741824) (hT : zS T) (hx1 : 0 ≤ x ∧ x ≤ sz) (hy1 : 0 ≤ y ∧ y ≤ sz) : Met l yX3_commonOf wsX3_commonOf ({ frames := 0, cells := 0, slots := 0, locals := 0 }) (zPr D cI cZ cL [.ref (d 0), .int (zI x), .int (zI y)] [(d 0, .inr (3, mo d rm sg pr sz bt ps fi ht fo)), (d 1, .inl (cI, nT, .inl (zA T)))]) (zQi (fun r => r = zcm sz T x y 0)) 0 0 (fun _ => False) := by
  refine Met.ofW (cc := cX3_commonOf) (maxL := 4) (ret := (some .int)) (by decide) rfl ?_
  intro p e s m args below meth c s₁ B hml hv
  obtain ⟨rfl, hP, hK⟩ := hv
  have hx := B.exec
  have hb := B.bytes
  have hr := B.returns
  have hts := atoms_spec (ws := wsX3_commonOf) B.pre
  have hown : s.vm.findClass RX3 = some m.cls := findClass_of_methodNamed B.named
  have hlocks := B.notSynchronized
  have hP : va_P D vwCl [(d 0, .inr (3, mo d rm sg pr sz bt ps fi ht fo)), (d 1, .inl (cI, nT, .inl (zA T)))] s.heap := hP
  have hl := lv_entry ([.ref (d 0), .int (zI x), .int (zI y)]) (n := 4) (Nat.le_of_ble_eq_true rfl)
  rw [lg_entry_eq]
  generalize (lg_sl ([.ref (d 0), .int (zI x), .int (zI y)]) ++ List.replicate (4 - (lg_sl ([.ref (d 0), .int (zI x), .int (zI y)])).length) Slot.unset).toArray = ls at hl ⊢
  have hl : lv_has ls 4 [(0, .ref (d 0)), (1, .int (zI x)), (2, .int (zI y))] := hl
  refine lv_iconst (v := zI 0) hx hb dX3_commonOf_0 (by first | rfl | decide) ?_
  refine lv_istore_n (lv' := [(3, .int (zI 0)), (0, .ref (d 0)), (1, .int (zI x)), (2, .int (zI y))]) hx hb dX3_commonOf_1 rfl hl (by decide) rfl (fun ls hl => ?_)
  have loop2 : ∀ (nn : Nat) (k : Int) (ls : Array Slot), (0 ≤ k ∧ x + k ≤ sz ∧ y + k ≤ sz) → (zcm sz T x y k = zcm sz T x y 0) → ((sz - x - k).toNat) < nn → lv_has ls 4 [(0, .ref (d 0)), (1, .int (zI x)), (2, .int (zI y)), (3, .int (zI k))] → W p l e (headSpec wsX3_commonOf ({ frames := 0, cells := 0, slots := 0, locals := 0 })).room s m ([.ref (d 0), .int (zI x), .int (zI y)] : List Value).toArray below meth c s.heap [] 0 0 (MQ below (zQi (fun r => r = zcm sz T x y 0)) ([.ref (d 0), .int (zI x), .int (zI y)] : List Value).toArray s 0 0 (fun _ => False)) (F0 m 2 ls []) := by
    intro nn
    induction nn with
    | zero =>
      intros
      exact absurd (by assumption : _ < 0) (Nat.not_lt_zero _)
    | succ nn ih2 =>
      intro k ls h0 hq hmu hl
      refine lv_iload_n hx hb dX3_commonOf_2 rfl (lv_at hl 1 rfl) ?_
      refine lv_iload_n hx hb dX3_commonOf_3 rfl (lv_at hl 3 rfl) ?_
      refine z_iadd hx hb dX3_commonOf_4 ?_
      refine lv_aload_n hx hb dX3_commonOf_5 rfl (lv_at hl 0 rfl) ?_
      refine va_get (D := D) (ci := 3) (v := .int (zI sz)) (C := RX3) (T := TX3) (N := 13) hx hb hts inX3_commonOf_X3 hown hK.1 hP 0 rfl rfl 4 (by decide) (hts (.fieldLink RX3 32 "TextEndsModel" "size" "I") (List.mem_of_getElem? (i := 1) rfl)) (fun _ h9 => h9) rfl dX3_commonOf_6 ?_
      refine z_icmp_ge (tgt := 47) hx hb dX3_commonOf_9 (by decide) (by omega) (by omega) (fun h_1 => ?_) (fun h_1 => ?_)
      · skip
        refine lv_iload_n hx hb dX3_commonOf_47 rfl (lv_at hl 3 rfl) ?_
        exact W.iret (v := zI k) hx hb hr (fun t ht_ hW_ => ⟨k, rfl, by first | exact (zcm_ne (by with_reducible assumption)).symm.trans hq | exact (zcm_stop (by have := zmax_ge (a := x) (b := y); omega)).symm.trans hq, ht_⟩) (fun q h => by cases h) dX3_commonOf_48
      · skip
        refine lv_iload_n hx hb dX3_commonOf_12 rfl (lv_at hl 2 rfl) ?_
        refine lv_iload_n hx hb dX3_commonOf_13 rfl (lv_at hl 3 rfl) ?_
        refine z_iadd hx hb dX3_commonOf_14 ?_
        refine lv_aload_n hx hb dX3_commonOf_15 rfl (lv_at hl 0 rfl) ?_
        refine va_get (D := D) (ci := 3) (v := .int (zI sz)) (C := RX3) (T := TX3) (N := 13) hx hb hts inX3_commonOf_X3 hown hK.1 hP 0 rfl rfl 4 (by decide) (hts (.fieldLink RX3 32 "TextEndsModel" "size" "I") (List.mem_of_getElem? (i := 1) rfl)) (fun _ h9 => h9) rfl dX3_commonOf_16 ?_
        refine z_icmp_ge (tgt := 47) hx hb dX3_commonOf_19 (by decide) (by omega) (by omega) (fun h_2 => ?_) (fun h_2 => ?_)
        · skip
          refine lv_iload_n hx hb dX3_commonOf_47 rfl (lv_at hl 3 rfl) ?_
          exact W.iret (v := zI k) hx hb hr (fun t ht_ hW_ => ⟨k, rfl, by first | exact (zcm_ne (by with_reducible assumption)).symm.trans hq | exact (zcm_stop (by have := zmax_ge (a := x) (b := y); omega)).symm.trans hq, ht_⟩) (fun q h => by cases h) dX3_commonOf_48
        · skip
          have hk1 := hT (x + k)
          have hk2 := hT (y + k)
          refine lv_aload_n hx hb dX3_commonOf_22 rfl (lv_at hl 0 rfl) ?_
          refine va_get (D := D) (ci := 3) (v := .ref (d 1)) (C := RX3) (T := TX3) (N := 13) hx hb hts inX3_commonOf_X3 hown hK.1 hP 0 rfl rfl 3 (by decide) (hts (.fieldLink RX3 7 "TextEndsModel" "text" "[I") (List.mem_of_getElem? (i := 2) rfl)) (fun _ h9 => h9) rfl dX3_commonOf_23 ?_
          refine lv_iload_n hx hb dX3_commonOf_26 rfl (lv_at hl 1 rfl) ?_
          refine lv_iload_n hx hb dX3_commonOf_27 rfl (lv_at hl 3 rfl) ?_
          refine z_iadd hx hb dX3_commonOf_28 ?_
          refine z_iald hx hb hK.1 hP 1 0 rfl rfl dX3_commonOf_29 (by omega) (by omega) (by omega) ?_
          refine lv_aload_n hx hb dX3_commonOf_30 rfl (lv_at hl 0 rfl) ?_
          refine va_get (D := D) (ci := 3) (v := .ref (d 1)) (C := RX3) (T := TX3) (N := 13) hx hb hts inX3_commonOf_X3 hown hK.1 hP 0 rfl rfl 3 (by decide) (hts (.fieldLink RX3 7 "TextEndsModel" "text" "[I") (List.mem_of_getElem? (i := 2) rfl)) (fun _ h9 => h9) rfl dX3_commonOf_31 ?_
          refine lv_iload_n hx hb dX3_commonOf_34 rfl (lv_at hl 2 rfl) ?_
          refine lv_iload_n hx hb dX3_commonOf_35 rfl (lv_at hl 3 rfl) ?_
          refine z_iadd hx hb dX3_commonOf_36 ?_
          refine z_iald hx hb hK.1 hP 1 0 rfl rfl dX3_commonOf_37 (by omega) (by omega) (by omega) ?_
          refine z_icmp_ne (tgt := 47) hx hb dX3_commonOf_38 (by decide) (by omega) (by omega) (fun h_3 => ?_) (fun h_3 => ?_)
          · skip
            refine lv_iload_n hx hb dX3_commonOf_47 rfl (lv_at hl 3 rfl) ?_
            exact W.iret (v := zI k) hx hb hr (fun t ht_ hW_ => ⟨k, rfl, by first | exact (zcm_ne (by with_reducible assumption)).symm.trans hq | exact (zcm_stop (by have := zmax_ge (a := x) (b := y); omega)).symm.trans hq, ht_⟩) (fun q h => by cases h) dX3_commonOf_48
          · skip
            refine lv_iinc (v := zI (k + 1)) (lv' := [(3, .int (zI (k + 1))), (0, .ref (d 0)), (1, .int (zI x)), (2, .int (zI y))]) hx hb dX3_commonOf_41 hl (k := 3) rfl (zI_add _ _) (by decide) rfl (fun ls hl => ?_)
            refine lv_goto (tgt := 2) hx hb dX3_commonOf_44 (by decide) ?_
            exact ih2 (k + 1) ls (by omega) (by rw [← hq]; exact zcm_eq (by have := zmax_or (a := x) (b := y); omega) (by with_reducible assumption)) (by omega) (lv_sub hl [1, 2, 3, 0] rfl)
  exact loop2 _ 0 ls (by omega) (rfl) (Nat.lt_succ_self _) (lv_sub hl [1, 2, 3, 0] rfl)
set_option maxHeartbeats 4000000 in
set_option maxRecDepth 100000 in
/-- isBefore(a, b) -/
theorem kX3_isBefore (l : Launch) (D : va_G) (cI cZ cL : ClassId) (d : Nat → Nat) (rm sg pr sz bt ps fi ht fo : Int) (nT : Nat) (T : Int → Int) (x y : Int) (hsz : 0 ≤ sz ∧ sz ≤ 1000000) (hsT : sz ≤ (nT : Int)) (bnT : (nT : Int) < 1073741824) (hT : zS T) (hx1 : 0 ≤ x ∧ x ≤ sz) (hy1 : 0 ≤ y ∧ y ≤ sz) : Met l yX3_isBefore wsX3_isBefore ({ frames := 1, cells := 0, slots := 0, locals := 23 }) (zPr D cI cZ cL [.ref (d 0), .int (zI x), .int (zI y)] [(d 0, .inr (3, mo d rm sg pr sz bt ps fi ht fo)), (d 1, .inl (cI, nT, .inl (zA T)))]) (zQi (fun r => r = bi (zbf sz T x y))) 0 0 (fun _ => False) := by
  refine Met.ofW (cc := cX3_isBefore) (maxL := 4) (ret := (some .boolean)) (by decide) rfl ?_
  intro p e s m args below meth c s₁ B hml hv
  obtain ⟨rfl, hP, hK⟩ := hv
  have hx := B.exec
  have hb := B.bytes
  have hr := B.returns
  have hts := atoms_spec (ws := wsX3_isBefore) B.pre
  have hown : s.vm.findClass RX3 = some m.cls := findClass_of_methodNamed B.named
  have hlocks := B.notSynchronized
  have hP : va_P D vwCl [(d 0, .inr (3, mo d rm sg pr sz bt ps fi ht fo)), (d 1, .inl (cI, nT, .inl (zA T)))] s.heap := hP
  have hl := lv_entry ([.ref (d 0), .int (zI x), .int (zI y)]) (n := 4) (Nat.le_of_ble_eq_true rfl)
  rw [lg_entry_eq]
  generalize (lg_sl ([.ref (d 0), .int (zI x), .int (zI y)]) ++ List.replicate (4 - (lg_sl ([.ref (d 0), .int (zI x), .int (zI y)])).length) Slot.unset).toArray = ls at hl ⊢
  have hl : lv_has ls 4 [(0, .ref (d 0)), (1, .int (zI x)), (2, .int (zI y))] := hl
  have hq1 := zcm_le (len := sz) (T := T) (a := x) (b := y) (k := 0) (by omega) (by omega)
  have hq2 := hT (x + zcm sz T x y 0)
  have hq3 := hT (y + zcm sz T x y 0)
  refine lv_aload_n hx hb dX3_isBefore_0 rfl (lv_at hl 0 rfl) ?_
  refine lv_iload_n hx hb dX3_isBefore_1 rfl (lv_at hl 1 rfl) ?_
  refine lv_iload_n hx hb dX3_isBefore_2 rfl (lv_at hl 2 rfl) ?_
  refine z_cr (va_runV (As := [.int (zI x), .int (zI y)]) (rest := []) ⟨hx, hb, hml, hown, hts⟩ (kX3_commonOf l D cI cZ cL d rm sg pr sz bt ps fi ht fo nT T x y (by omega) (by omega) (by omega) (hT) (by omega) (by omega)) (cwV 2 hts gX3_isBefore_X3_commonOf rfl rfl rfl (by decide +kernel) ⟨Nat.le_of_ble_eq_true rfl, Nat.le_of_ble_eq_true rfl⟩) (zPr_preV (ci := 3) (q0 := 0) hK (hP.sub (ws' := [(d 0, .inr (3, mo d rm sg pr sz bt ps fi ht fo)), (d 1, .inl (cI, nT, .inl (zA T)))]) [0, 1] rfl) rfl rfl) rfl rfl hl.1 rfl (lv_room (Nat.le_of_ble_eq_true rfl)) dX3_isBefore_3 ⟨Nat.zero_le _, Nat.zero_le _⟩) (fun r hr_ => ?_)
  subst hr_
  refine lv_istore_n (lv' := [(3, .int (zI (zcm sz T x y 0))), (0, .ref (d 0)), (1, .int (zI x)), (2, .int (zI y))]) hx hb dX3_isBefore_6 rfl hl (by decide) rfl (fun ls hl => ?_)
  refine lv_iload_n hx hb dX3_isBefore_7 rfl (lv_at hl 2 rfl) ?_
  refine lv_iload_n hx hb dX3_isBefore_8 rfl (lv_at hl 0 rfl) ?_
  refine z_iadd hx hb dX3_isBefore_9 ?_
  refine lv_aload_n hx hb dX3_isBefore_10 rfl (lv_at hl 1 rfl) ?_
  refine va_get (D := D) (ci := 3) (v := .int (zI sz)) (C := RX3) (T := TX3) (N := 13) hx hb hts inX3_isBefore_X3 hown hK.1 hP 0 rfl rfl 4 (by decide) (hts (.fieldLink RX3 32 "TextEndsModel" "size" "I") (List.mem_of_getElem? (i := 1) rfl)) (fun _ h9 => h9) rfl dX3_isBefore_11 ?_
  refine z_icmp_ne (tgt := 35) hx hb dX3_isBefore_14 (by decide) (by omega) (by omega) (fun h_1 => ?_) (fun h_1 => ?_)
  · skip
    have c1 := h_1
    refine lv_iload_n hx hb dX3_isBefore_35 rfl (lv_at hl 3 rfl) ?_
    refine lv_iload_n hx hb dX3_isBefore_36 rfl (lv_at hl 0 rfl) ?_
    refine z_iadd hx hb dX3_isBefore_37 ?_
    refine lv_aload_n hx hb dX3_isBefore_38 rfl (lv_at hl 1 rfl) ?_
    refine va_get (D := D) (ci := 3) (v := .int (zI sz)) (C := RX3) (T := TX3) (N := 13) hx hb hts inX3_isBefore_X3 hown hK.1 hP 0 rfl rfl 4 (by decide) (hts (.fieldLink RX3 32 "TextEndsModel" "size" "I") (List.mem_of_getElem? (i := 1) rfl)) (fun _ h9 => h9) rfl dX3_isBefore_39 ?_
    refine z_icmp_ge (tgt := 68) hx hb dX3_isBefore_42 (by decide) (by omega) (by omega) (fun h_2 => ?_) (fun h_2 => ?_)
    · skip
      have c2 := h_2
      refine lv_iconst (v := zI 0) hx hb dX3_isBefore_68 (by first | rfl | decide) ?_
      exact W.zret (ty := .boolean) (v := zI 0) hx hb hr (znar_b2 (by first | exact Or.inl rfl | exact Or.inr rfl | exact bi_01 _ | with_reducible assumption | omega)) (fun t ht_ hW_ => ⟨0, rfl, by show _ = bi (zbf sz T x y); unfold zbf; first | (rw [if_pos c1, decide_eq_true c2]; rfl) | (rw [if_pos c1, decide_eq_false (by omega)]; rfl) | (rw [if_neg c1, decide_eq_true c2, decide_eq_true c3]; rfl) | (rw [if_neg c1, decide_eq_true c2, decide_eq_false (by omega)]; rfl) | (rw [if_neg c1, decide_eq_false (p := y + zcm sz T x y 0 < sz) (by omega)]; rfl), ht_⟩) (fun q h => by cases h) dX3_isBefore_69
    · skip
      have c2 := h_2
      refine lv_aload_n hx hb dX3_isBefore_45 rfl (lv_at hl 1 rfl) ?_
      refine va_get (D := D) (ci := 3) (v := .ref (d 1)) (C := RX3) (T := TX3) (N := 13) hx hb hts inX3_isBefore_X3 hown hK.1 hP 0 rfl rfl 3 (by decide) (hts (.fieldLink RX3 7 "TextEndsModel" "text" "[I") (List.mem_of_getElem? (i := 2) rfl)) (fun _ h9 => h9) rfl dX3_isBefore_46 ?_
      refine lv_iload_n hx hb dX3_isBefore_49 rfl (lv_at hl 2 rfl) ?_
      refine lv_iload_n hx hb dX3_isBefore_50 rfl (lv_at hl 0 rfl) ?_
      refine z_iadd hx hb dX3_isBefore_51 ?_
      refine z_iald hx hb hK.1 hP 1 0 rfl rfl dX3_isBefore_52 (by omega) (by omega) (by omega) ?_
      refine lv_aload_n hx hb dX3_isBefore_53 rfl (lv_at hl 1 rfl) ?_
      refine va_get (D := D) (ci := 3) (v := .ref (d 1)) (C := RX3) (T := TX3) (N := 13) hx hb hts inX3_isBefore_X3 hown hK.1 hP 0 rfl rfl 3 (by decide) (hts (.fieldLink RX3 7 "TextEndsModel" "text" "[I") (List.mem_of_getElem? (i := 2) rfl)) (fun _ h9 => h9) rfl dX3_isBefore_54 ?_
      refine lv_iload_n hx hb dX3_isBefore_57 rfl (lv_at hl 3 rfl) ?_
      refine lv_iload_n hx hb dX3_isBefore_58 rfl (lv_at hl 0 rfl) ?_
      refine z_iadd hx hb dX3_isBefore_59 ?_
      refine z_iald hx hb hK.1 hP 1 0 rfl rfl dX3_isBefore_60 (by omega) (by omega) (by omega) ?_
      refine z_icmp_ge (tgt := 68) hx hb dX3_isBefore_61 (by decide) (by omega) (by omega) (fun h_3 => ?_) (fun h_3 => ?_)
      · skip
        have c3 := h_3
        refine lv_iconst (v := zI 0) hx hb dX3_isBefore_68 (by first | rfl | decide) ?_
        exact W.zret (ty := .boolean) (v := zI 0) hx hb hr (znar_b2 (by first | exact Or.inl rfl | exact Or.inr rfl | exact bi_01 _ | with_reducible assumption | omega)) (fun t ht_ hW_ => ⟨0, rfl, by show _ = bi (zbf sz T x y); unfold zbf; first | (rw [if_pos c1, decide_eq_true c2]; rfl) | (rw [if_pos c1, decide_eq_false (by omega)]; rfl) | (rw [if_neg c1, decide_eq_true c2, decide_eq_true c3]; rfl) | (rw [if_neg c1, decide_eq_true c2, decide_eq_false (by omega)]; rfl) | (rw [if_neg c1, decide_eq_false (p := y + zcm sz T x y 0 < sz) (by omega)]; rfl), ht_⟩) (fun q h => by cases h) dX3_isBefore_69
      · skip
        have c3 := h_3
        refine lv_iconst (v := zI 1) hx hb dX3_isBefore_64 (by first | rfl | decide) ?_
        refine lv_goto (tgt := 69) hx hb dX3_isBefore_65 (by decide) ?_
        exact W.zret (ty := .boolean) (v := zI 1) hx hb hr (znar_b2 (by first | exact Or.inl rfl | exact Or.inr rfl | exact bi_01 _ | with_reducible assumption | omega)) (fun t ht_ hW_ => ⟨1, rfl, by show _ = bi (zbf sz T x y); unfold zbf; first | (rw [if_pos c1, decide_eq_true c2]; rfl) | (rw [if_pos c1, decide_eq_false (by omega)]; rfl) | (rw [if_neg c1, decide_eq_true c2, decide_eq_true c3]; rfl) | (rw [if_neg c1, decide_eq_true c2, decide_eq_false (by omega)]; rfl) | (rw [if_neg c1, decide_eq_false (p := y + zcm sz T x y 0 < sz) (by omega)]; rfl), ht_⟩) (fun q h => by cases h) dX3_isBefore_69
  · skip
    have c1 := h_1
    refine lv_iload_n hx hb dX3_isBefore_17 rfl (lv_at hl 3 rfl) ?_
    refine lv_iload_n hx hb dX3_isBefore_18 rfl (lv_at hl 0 rfl) ?_
    refine z_iadd hx hb dX3_isBefore_19 ?_
    refine lv_aload_n hx hb dX3_isBefore_20 rfl (lv_at hl 1 rfl) ?_
    refine va_get (D := D) (ci := 3) (v := .int (zI sz)) (C := RX3) (T := TX3) (N := 13) hx hb hts inX3_isBefore_X3 hown hK.1 hP 0 rfl rfl 4 (by decide) (hts (.fieldLink RX3 32 "TextEndsModel" "size" "I") (List.mem_of_getElem? (i := 1) rfl)) (fun _ h9 => h9) rfl dX3_isBefore_21 ?_
    refine z_icmp_ge (tgt := 31) hx hb dX3_isBefore_24 (by decide) (by omega) (by omega) (fun h_4 => ?_) (fun h_4 => ?_)
    · skip
      have c2 := h_4
      refine lv_iconst (v := zI 0) hx hb dX3_isBefore_31 (by first | rfl | decide) ?_
      refine lv_goto (tgt := 69) hx hb dX3_isBefore_32 (by decide) ?_
      exact W.zret (ty := .boolean) (v := zI 0) hx hb hr (znar_b2 (by first | exact Or.inl rfl | exact Or.inr rfl | exact bi_01 _ | with_reducible assumption | omega)) (fun t ht_ hW_ => ⟨0, rfl, by show _ = bi (zbf sz T x y); unfold zbf; first | (rw [if_pos c1, decide_eq_true c2]; rfl) | (rw [if_pos c1, decide_eq_false (by omega)]; rfl) | (rw [if_neg c1, decide_eq_true c2, decide_eq_true c3]; rfl) | (rw [if_neg c1, decide_eq_true c2, decide_eq_false (by omega)]; rfl) | (rw [if_neg c1, decide_eq_false (p := y + zcm sz T x y 0 < sz) (by omega)]; rfl), ht_⟩) (fun q h => by cases h) dX3_isBefore_69
    · skip
      have c2 := h_4
      refine lv_iconst (v := zI 1) hx hb dX3_isBefore_27 (by first | rfl | decide) ?_
      refine lv_goto (tgt := 69) hx hb dX3_isBefore_28 (by decide) ?_
      exact W.zret (ty := .boolean) (v := zI 1) hx hb hr (znar_b2 (by first | exact Or.inl rfl | exact Or.inr rfl | exact bi_01 _ | with_reducible assumption | omega)) (fun t ht_ hW_ => ⟨1, rfl, by show _ = bi (zbf sz T x y); unfold zbf; first | (rw [if_pos c1, decide_eq_true c2]; rfl) | (rw [if_pos c1, decide_eq_false (by omega)]; rfl) | (rw [if_neg c1, decide_eq_true c2, decide_eq_true c3]; rfl) | (rw [if_neg c1, decide_eq_true c2, decide_eq_false (by omega)]; rfl) | (rw [if_neg c1, decide_eq_false (p := y + zcm sz T x y 0 < sz) (by omega)]; rfl), ht_⟩) (fun q h => by cases h) dX3_isBefore_69
set_option maxHeartbeats 4000000 in
set_option maxRecDepth 100000 in
/-- isEnd(k) -/
theorem kX3_isEnd (l : Launch) (D : va_G) (cI cZ cL : ClassId) (d : Nat → Nat) (rm sg pr sz bt ps fi ht fo : Int) (k : Int) (hsz : 0 ≤ sz ∧ sz ≤ 1000000) (hbt : bt = 0 ∨ bt = 1) (hk : zR k) : Met l yX3_isEnd wsX3_isEnd ({ frames := 0, cells := 0, slots := 0, locals := 0 }) (zPr D cI cZ cL [.ref (d 0), .int (zI k)] [(d 0, .inr (3, mo d rm sg pr sz bt ps fi ht fo))]) (zQi (fun r => r = bi (zie bt sz k))) 0 0 (fun _ => False) := by
  refine Met.ofW (cc := cX3_isEnd) (maxL := 2) (ret := (some .boolean)) (by decide) rfl ?_
  intro p e s m args below meth c s₁ B hml hv
  obtain ⟨rfl, hP, hK⟩ := hv
  have hx := B.exec
  have hb := B.bytes
  have hr := B.returns
  have hts := atoms_spec (ws := wsX3_isEnd) B.pre
  have hown : s.vm.findClass RX3 = some m.cls := findClass_of_methodNamed B.named
  have hlocks := B.notSynchronized
  have hP : va_P D vwCl [(d 0, .inr (3, mo d rm sg pr sz bt ps fi ht fo))] s.heap := hP
  have hl := lv_entry ([.ref (d 0), .int (zI k)]) (n := 2) (Nat.le_of_ble_eq_true rfl)
  rw [lg_entry_eq]
  generalize (lg_sl ([.ref (d 0), .int (zI k)]) ++ List.replicate (2 - (lg_sl ([.ref (d 0), .int (zI k)])).length) Slot.unset).toArray = ls at hl ⊢
  have hl : lv_has ls 2 [(0, .ref (d 0)), (1, .int (zI k))] := hl
  refine lv_aload_n hx hb dX3_isEnd_0 rfl (lv_at hl 0 rfl) ?_
  refine va_get (D := D) (ci := 3) (v := .int (zI bt)) (C := RX3) (T := TX3) (N := 13) hx hb hts inX3_isEnd_X3 hown hK.1 hP 0 rfl rfl 5 (by decide) (hts (.fieldLink RX3 35 "TextEndsModel" "built" "Z") (List.mem_of_getElem? (i := 1) rfl)) (fun _ h9 => h9) rfl dX3_isEnd_1 ?_
  refine z_if_eq (tgt := 23) hx hb dX3_isEnd_4 (by decide) (by omega) (fun h_1 => ?_) (fun h_1 => ?_)
  · skip
    refine lv_iconst (v := zI 0) hx hb dX3_isEnd_23 (by first | rfl | decide) ?_
    exact W.zret (ty := .boolean) (v := zI 0) hx hb hr (znar_b2 (by first | exact Or.inl rfl | exact Or.inr rfl | exact bi_01 _ | with_reducible assumption | omega)) (fun t ht_ hW_ => ⟨0, rfl, by first | exact zie_t (by with_reducible assumption) (by omega) (by omega) | exact zie_f (by omega), ht_⟩) (fun q h => by cases h) dX3_isEnd_24
  · skip
    refine lv_iload_n hx hb dX3_isEnd_7 rfl (lv_at hl 1 rfl) ?_
    refine z_if_lt (tgt := 23) hx hb dX3_isEnd_8 (by decide) (by omega) (fun h_2 => ?_) (fun h_2 => ?_)
    · skip
      refine lv_iconst (v := zI 0) hx hb dX3_isEnd_23 (by first | rfl | decide) ?_
      exact W.zret (ty := .boolean) (v := zI 0) hx hb hr (znar_b2 (by first | exact Or.inl rfl | exact Or.inr rfl | exact bi_01 _ | with_reducible assumption | omega)) (fun t ht_ hW_ => ⟨0, rfl, by first | exact zie_t (by with_reducible assumption) (by omega) (by omega) | exact zie_f (by omega), ht_⟩) (fun q h => by cases h) dX3_isEnd_24
    · skip
      refine lv_iload_n hx hb dX3_isEnd_11 rfl (lv_at hl 1 rfl) ?_
      refine lv_aload_n hx hb dX3_isEnd_12 rfl (lv_at hl 0 rfl) ?_
      refine va_get (D := D) (ci := 3) (v := .int (zI sz)) (C := RX3) (T := TX3) (N := 13) hx hb hts inX3_isEnd_X3 hown hK.1 hP 0 rfl rfl 4 (by decide) (hts (.fieldLink RX3 32 "TextEndsModel" "size" "I") (List.mem_of_getElem? (i := 2) rfl)) (fun _ h9 => h9) rfl dX3_isEnd_13 ?_
      refine z_icmp_ge (tgt := 23) hx hb dX3_isEnd_16 (by decide) (by omega) (by omega) (fun h_3 => ?_) (fun h_3 => ?_)
      · skip
        refine lv_iconst (v := zI 0) hx hb dX3_isEnd_23 (by first | rfl | decide) ?_
        exact W.zret (ty := .boolean) (v := zI 0) hx hb hr (znar_b2 (by first | exact Or.inl rfl | exact Or.inr rfl | exact bi_01 _ | with_reducible assumption | omega)) (fun t ht_ hW_ => ⟨0, rfl, by first | exact zie_t (by with_reducible assumption) (by omega) (by omega) | exact zie_f (by omega), ht_⟩) (fun q h => by cases h) dX3_isEnd_24
      · skip
        refine lv_iconst (v := zI 1) hx hb dX3_isEnd_19 (by first | rfl | decide) ?_
        refine lv_goto (tgt := 24) hx hb dX3_isEnd_20 (by decide) ?_
        exact W.zret (ty := .boolean) (v := zI 1) hx hb hr (znar_b2 (by first | exact Or.inl rfl | exact Or.inr rfl | exact bi_01 _ | with_reducible assumption | omega)) (fun t ht_ hW_ => ⟨1, rfl, by first | exact zie_t (by with_reducible assumption) (by omega) (by omega) | exact zie_f (by omega), ht_⟩) (fun q h => by cases h) dX3_isEnd_24
set_option maxHeartbeats 4000000 in
set_option maxRecDepth 100000 in
/-- sa(i) -/
theorem kX3_sa (l : Launch) (D : va_G) (cI cZ cL : ClassId) (d : Nat → Nat) (rm sg pr sz bt ps fi ht fo : Int) (nO : Nat) (od : Int → Int) (i : Int) (hsz : 0 ≤ sz ∧ sz ≤ 1000000) (hbt : bt = 0 ∨ bt = 1) (hsO : sz ≤ (nO : Int)) (bnO : (nO : Int) < 1073741824) (hi : zR i) : Met l yX3_sa wsX3_sa ({ frames := 1, cells := 0, slots := 0, locals := 21 }) (zPr D cI cZ cL [.ref (d 0), .int (zI i)] [(d 0, .inr (3, mo d rm sg pr sz bt ps fi ht fo)), (d 2, .inl (cI, nO, .inl (zA od)))]) (zQi (fun r => r = zsa bt sz od i)) 0 0 (fun _ => False) := by
  refine Met.ofW (cc := cX3_sa) (maxL := 2) (ret := (some .int)) (by decide) rfl ?_
  intro p e s m args below meth c s₁ B hml hv
  obtain ⟨rfl, hP, hK⟩ := hv
  have hx := B.exec
  have hb := B.bytes
  have hr := B.returns
  have hts := atoms_spec (ws := wsX3_sa) B.pre
  have hown : s.vm.findClass RX3 = some m.cls := findClass_of_methodNamed B.named
  have hlocks := B.notSynchronized
  have hP : va_P D vwCl [(d 0, .inr (3, mo d rm sg pr sz bt ps fi ht fo)), (d 2, .inl (cI, nO, .inl (zA od)))] s.heap := hP
  have hl := lv_entry ([.ref (d 0), .int (zI i)]) (n := 2) (Nat.le_of_ble_eq_true rfl)
  rw [lg_entry_eq]
  generalize (lg_sl ([.ref (d 0), .int (zI i)]) ++ List.replicate (2 - (lg_sl ([.ref (d 0), .int (zI i)])).length) Slot.unset).toArray = ls at hl ⊢
  have hl : lv_has ls 2 [(0, .ref (d 0)), (1, .int (zI i))] := hl
  refine lv_aload_n hx hb dX3_sa_0 rfl (lv_at hl 0 rfl) ?_
  refine lv_iload_n hx hb dX3_sa_1 rfl (lv_at hl 1 rfl) ?_
  refine z_cr (va_runV (As := [.int (zI i)]) (rest := []) ⟨hx, hb, hml, hown, hts⟩ (kX3_isEnd l D cI cZ cL d rm sg pr sz bt ps fi ht fo i (by omega) (by omega) (by omega)) (cwV 1 hts gX3_sa_X3_isEnd rfl rfl rfl (by decide +kernel) ⟨Nat.le_of_ble_eq_true rfl, Nat.le_of_ble_eq_true rfl⟩) (zPr_preV (ci := 3) (q0 := 0) hK (hP.sub (ws' := [(d 0, .inr (3, mo d rm sg pr sz bt ps fi ht fo))]) [0] rfl) rfl rfl) rfl rfl hl.1 rfl (lv_room (Nat.le_of_ble_eq_true rfl)) dX3_sa_2 ⟨Nat.zero_le _, Nat.zero_le _⟩) (fun r hr_ => ?_)
  subst hr_
  refine z_if_eq (tgt := 17) hx hb dX3_sa_5 (by decide) (bi_R _) (fun h_1 => ?_) (fun h_1 => ?_)
  · skip
    have he5 := bi_eq h_1
    refine lv_iconst (v := zI (-1)) hx hb dX3_sa_17 (by first | rfl | decide) ?_
    exact W.iret (v := zI (-1)) hx hb hr (fun t ht_ hW_ => ⟨(-1), rfl, by show _ = zsa bt sz od i; unfold zsa; first | rw [if_pos he5] | rw [he5, if_neg (by decide)], ht_⟩) (fun q h => by cases h) dX3_sa_18
  · skip
    have he5 := bi_ne h_1
    have hf5 := zie_iff.mp he5
    refine lv_aload_n hx hb dX3_sa_8 rfl (lv_at hl 0 rfl) ?_
    refine va_get (D := D) (ci := 3) (v := .ref (d 2)) (C := RX3) (T := TX3) (N := 13) hx hb hts inX3_sa_X3 hown hK.1 hP 0 rfl rfl 6 (by decide) (hts (.fieldLink RX3 13 "TextEndsModel" "order" "[I") (List.mem_of_getElem? (i := 1) rfl)) (fun _ h9 => h9) rfl dX3_sa_9 ?_
    refine lv_iload_n hx hb dX3_sa_12 rfl (lv_at hl 1 rfl) ?_
    refine z_iald hx hb hK.1 hP 1 0 rfl rfl dX3_sa_13 (by omega) (by omega) (by omega) ?_
    refine lv_goto (tgt := 18) hx hb dX3_sa_14 (by decide) ?_
    exact W.iret (v := zI (od i)) hx hb hr (fun t ht_ hW_ => ⟨od i, rfl, by show _ = zsa bt sz od i; unfold zsa; first | rw [if_pos he5] | rw [he5, if_neg (by decide)], ht_⟩) (fun q h => by cases h) dX3_sa_18
set_option maxHeartbeats 4000000 in
set_option maxRecDepth 100000 in
/-- lcp(i) -/
theorem kX3_lcp (l : Launch) (D : va_G) (cI cZ cL : ClassId) (d : Nat → Nat) (rm sg pr sz bt ps fi ht fo : Int) (nT nO : Nat) (T od : Int → Int) (i : Int) (hsz : 0 ≤ sz ∧ sz ≤ 1000000) (hsT : sz ≤ (nT : Int)) (bnT : (nT : Int) < 1073741824) (hT : zS T) (hbt : bt = 0 ∨ bt = 1) (hsO : sz ≤ (nO : Int)) (bnO : (nO : Int) < 1073741824) (hod : bt ≠ 0 → ∀ i, 0 ≤ i → i < sz → 0 ≤ od i ∧ od i < sz) (hi : zR i) : Met l yX3_lcp wsX3_lcp ({ frames := 1, cells := 0, slots := 0, locals := 23 }) (zPr D cI cZ cL [.ref (d 0), .int (zI i)] [(d 0, .inr (3, mo d rm sg pr sz bt ps fi ht fo)), (d 1, .inl (cI, nT, .inl (zA T))), (d 2, .inl (cI, nO, .inl (zA od)))]) (zQi (fun r => r = zlc bt sz (zcc sz T od) i)) 0 0 (fun _ => False) := by
  refine Met.ofW (cc := cX3_lcp) (maxL := 2) (ret := (some .int)) (by decide) rfl ?_
  intro p e s m args below meth c s₁ B hml hv
  obtain ⟨rfl, hP, hK⟩ := hv
  have hx := B.exec
  have hb := B.bytes
  have hr := B.returns
  have hts := atoms_spec (ws := wsX3_lcp) B.pre
  have hown : s.vm.findClass RX3 = some m.cls := findClass_of_methodNamed B.named
  have hlocks := B.notSynchronized
  have hP : va_P D vwCl [(d 0, .inr (3, mo d rm sg pr sz bt ps fi ht fo)), (d 1, .inl (cI, nT, .inl (zA T))), (d 2, .inl (cI, nO, .inl (zA od)))] s.heap := hP
  have hl := lv_entry ([.ref (d 0), .int (zI i)]) (n := 2) (Nat.le_of_ble_eq_true rfl)
  rw [lg_entry_eq]
  generalize (lg_sl ([.ref (d 0), .int (zI i)]) ++ List.replicate (2 - (lg_sl ([.ref (d 0), .int (zI i)])).length) Slot.unset).toArray = ls at hl ⊢
  have hl : lv_has ls 2 [(0, .ref (d 0)), (1, .int (zI i))] := hl
  refine lv_aload_n hx hb dX3_lcp_0 rfl (lv_at hl 0 rfl) ?_
  refine lv_iload_n hx hb dX3_lcp_1 rfl (lv_at hl 1 rfl) ?_
  refine z_cr (va_runV (As := [.int (zI i)]) (rest := []) ⟨hx, hb, hml, hown, hts⟩ (kX3_isEnd l D cI cZ cL d rm sg pr sz bt ps fi ht fo i (by omega) (by omega) (by omega)) (cwV 1 hts gX3_lcp_X3_isEnd rfl rfl rfl (by decide +kernel) ⟨Nat.le_of_ble_eq_true rfl, Nat.le_of_ble_eq_true rfl⟩) (zPr_preV (ci := 3) (q0 := 0) hK (hP.sub (ws' := [(d 0, .inr (3, mo d rm sg pr sz bt ps fi ht fo))]) [0] rfl) rfl rfl) rfl rfl hl.1 rfl (lv_room (Nat.le_of_ble_eq_true rfl)) dX3_lcp_2 ⟨Nat.zero_le _, Nat.zero_le _⟩) (fun r hr_ => ?_)
  subst hr_
  refine z_if_eq (tgt := 33) hx hb dX3_lcp_5 (by decide) (bi_R _) (fun h_1 => ?_) (fun h_1 => ?_)
  · skip
    have he5 := bi_eq h_1
    refine lv_iconst (v := zI (-1)) hx hb dX3_lcp_33 (by first | rfl | decide) ?_
    exact W.iret (v := zI (-1)) hx hb hr (fun t ht_ hW_ => ⟨(-1), rfl, by show _ = zlc bt sz (zcc sz T od) i; unfold zlc; first | (rw [if_pos ⟨he5, by omega⟩]; rfl) | rw [if_neg (by omega)] | rw [he5, if_neg (fun z => absurd z.1 (by decide))], ht_⟩) (fun q h => by cases h) dX3_lcp_34
  · skip
    have he5 := bi_ne h_1
    have hf5 := zie_iff.mp he5
    refine lv_iload_n hx hb dX3_lcp_8 rfl (lv_at hl 1 rfl) ?_
    refine z_if_le (tgt := 33) hx hb dX3_lcp_9 (by decide) (by omega) (fun h_2 => ?_) (fun h_2 => ?_)
    · skip
      refine lv_iconst (v := zI (-1)) hx hb dX3_lcp_33 (by first | rfl | decide) ?_
      exact W.iret (v := zI (-1)) hx hb hr (fun t ht_ hW_ => ⟨(-1), rfl, by show _ = zlc bt sz (zcc sz T od) i; unfold zlc; first | (rw [if_pos ⟨he5, by omega⟩]; rfl) | rw [if_neg (by omega)] | rw [he5, if_neg (fun z => absurd z.1 (by decide))], ht_⟩) (fun q h => by cases h) dX3_lcp_34
    · skip
      have h9 := h_2
      have hk1 := hod hf5.1 i (by omega) (by omega)
      have hk2 := hod hf5.1 (i - 1) (by omega) (by omega)
      refine lv_aload_n hx hb dX3_lcp_12 rfl (lv_at hl 0 rfl) ?_
      refine lv_aload_n hx hb dX3_lcp_13 rfl (lv_at hl 0 rfl) ?_
      refine va_get (D := D) (ci := 3) (v := .ref (d 2)) (C := RX3) (T := TX3) (N := 13) hx hb hts inX3_lcp_X3 hown hK.1 hP 0 rfl rfl 6 (by decide) (hts (.fieldLink RX3 13 "TextEndsModel" "order" "[I") (List.mem_of_getElem? (i := 1) rfl)) (fun _ h9 => h9) rfl dX3_lcp_14 ?_
      refine lv_iload_n hx hb dX3_lcp_17 rfl (lv_at hl 1 rfl) ?_
      refine lv_iconst (v := zI 1) hx hb dX3_lcp_18 (by first | rfl | decide) ?_
      refine z_isub hx hb dX3_lcp_19 ?_
      refine z_iald hx hb hK.1 hP 2 0 rfl rfl dX3_lcp_20 (by omega) (by omega) (by omega) ?_
      refine lv_aload_n hx hb dX3_lcp_21 rfl (lv_at hl 0 rfl) ?_
      refine va_get (D := D) (ci := 3) (v := .ref (d 2)) (C := RX3) (T := TX3) (N := 13) hx hb hts inX3_lcp_X3 hown hK.1 hP 0 rfl rfl 6 (by decide) (hts (.fieldLink RX3 13 "TextEndsModel" "order" "[I") (List.mem_of_getElem? (i := 1) rfl)) (fun _ h9 => h9) rfl dX3_lcp_22 ?_
      refine lv_iload_n hx hb dX3_lcp_25 rfl (lv_at hl 1 rfl) ?_
      refine z_iald hx hb hK.1 hP 2 0 rfl rfl dX3_lcp_26 (by omega) (by omega) (by omega) ?_
      refine z_cr (va_runV (As := [.int (zI (od (i - 1))), .int (zI (od i))]) (rest := []) ⟨hx, hb, hml, hown, hts⟩ (kX3_commonOf l D cI cZ cL d rm sg pr sz bt ps fi ht fo nT T (od (i - 1)) (od i) (by omega) (by omega) (by omega) (hT) (by omega) (by omega)) (cwV 2 hts gX3_lcp_X3_commonOf rfl rfl rfl (by decide +kernel) ⟨Nat.le_of_ble_eq_true rfl, Nat.le_of_ble_eq_true rfl⟩) (zPr_preV (ci := 3) (q0 := 0) hK (hP.sub (ws' := [(d 0, .inr (3, mo d rm sg pr sz bt ps fi ht fo)), (d 1, .inl (cI, nT, .inl (zA T)))]) [0, 1] rfl) rfl rfl) rfl rfl hl.1 rfl (lv_room (Nat.le_of_ble_eq_true rfl)) dX3_lcp_27 ⟨Nat.zero_le _, Nat.zero_le _⟩) (fun r hr_ => ?_)
      subst hr_
      refine lv_goto (tgt := 34) hx hb dX3_lcp_30 (by decide) ?_
      exact W.iret (v := zI (zcm sz T (od (i - 1)) (od i) 0)) hx hb hr (fun t ht_ hW_ => ⟨zcm sz T (od (i - 1)) (od i) 0, rfl, by show _ = zlc bt sz (zcc sz T od) i; unfold zlc; first | (rw [if_pos ⟨he5, by omega⟩]; rfl) | rw [if_neg (by omega)] | rw [he5, if_neg (fun z => absurd z.1 (by decide))], ht_⟩) (fun q h => by cases h) dX3_lcp_34
set_option maxHeartbeats 4000000 in
set_option maxRecDepth 100000 in
/-- rank(place) -/
theorem kX3_rank (l : Launch) (D : va_G) (cI cZ cL : ClassId) (d : Nat → Nat) (rm sg pr sz bt ps fi ht fo : Int) (nO : Nat) (od : Int → Int) (pl : Int) (hsz : 0 ≤ sz ∧ sz ≤ 1000000) (hbt : bt = 0 ∨ bt = 1) (hsO : sz ≤ (nO : Int)) (bnO : (nO : Int) < 1073741824) (hod : bt ≠ 0 → ∀ i, 0 ≤ i → i < sz → 0 ≤ od i ∧ od i < sz) (hex : bt ≠ 0 → ∀ q, 0 ≤ q → q < sz → ∃ j, 0 ≤ j ∧ j < sz ∧ od j = q) (hi : zR pl) : Met l yX3_rank wsX3_rank ({ frames := 1, cells := 0, slots := 0, locals := 21 }) (zPr D cI cZ cL [.ref (d 0), .int (zI pl)] [(d 0, .inr (3, mo d rm sg pr sz bt ps fi ht fo)), (d 2, .inl (cI, nO, .inl (zA od)))]) (zQi (fun r => r = zrn bt sz od pl)) 0 0 (fun _ => False) := by
  refine Met.ofW (cc := cX3_rank) (maxL := 3) (ret := (some .int)) (by decide) rfl ?_
  intro p e s m args below meth c s₁ B hml hv
  obtain ⟨rfl, hP, hK⟩ := hv
  have hx := B.exec
  have hb := B.bytes
  have hr := B.returns
  have hts := atoms_spec (ws := wsX3_rank) B.pre
  have hown : s.vm.findClass RX3 = some m.cls := findClass_of_methodNamed B.named
  have hlocks := B.notSynchronized
  have hP : va_P D vwCl [(d 0, .inr (3, mo d rm sg pr sz bt ps fi ht fo)), (d 2, .inl (cI, nO, .inl (zA od)))] s.heap := hP
  have hl := lv_entry ([.ref (d 0), .int (zI pl)]) (n := 3) (Nat.le_of_ble_eq_true rfl)
  rw [lg_entry_eq]
  generalize (lg_sl ([.ref (d 0), .int (zI pl)]) ++ List.replicate (3 - (lg_sl ([.ref (d 0), .int (zI pl)])).length) Slot.unset).toArray = ls at hl ⊢
  have hl : lv_has ls 3 [(0, .ref (d 0)), (1, .int (zI pl))] := hl
  refine lv_aload_n hx hb dX3_rank_0 rfl (lv_at hl 0 rfl) ?_
  refine lv_iload_n hx hb dX3_rank_1 rfl (lv_at hl 1 rfl) ?_
  refine z_cr (va_runV (As := [.int (zI pl)]) (rest := []) ⟨hx, hb, hml, hown, hts⟩ (kX3_isEnd l D cI cZ cL d rm sg pr sz bt ps fi ht fo pl (by omega) (by omega) (by omega)) (cwV 1 hts gX3_rank_X3_isEnd rfl rfl rfl (by decide +kernel) ⟨Nat.le_of_ble_eq_true rfl, Nat.le_of_ble_eq_true rfl⟩) (zPr_preV (ci := 3) (q0 := 0) hK (hP.sub (ws' := [(d 0, .inr (3, mo d rm sg pr sz bt ps fi ht fo))]) [0] rfl) rfl rfl) rfl rfl hl.1 rfl (lv_room (Nat.le_of_ble_eq_true rfl)) dX3_rank_2 ⟨Nat.zero_le _, Nat.zero_le _⟩) (fun r hr_ => ?_)
  subst hr_
  refine z_if_ne (tgt := 10) hx hb dX3_rank_5 (by decide) (bi_R _) (fun h_1 => ?_) (fun h_1 => ?_)
  · skip
    have he5 := bi_ne h_1
    have hf5 := zie_iff.mp he5
    obtain ⟨jj, hj0, hj1, hj2⟩ := hex hf5.1 pl (by omega) (by omega)
    refine lv_iconst (v := zI 0) hx hb dX3_rank_10 (by first | rfl | decide) ?_
    refine lv_istore_n (lv' := [(2, .int (zI 0)), (0, .ref (d 0)), (1, .int (zI pl))]) hx hb dX3_rank_11 rfl hl (by decide) rfl (fun ls hl => ?_)
    have loop12 : ∀ (nn : Nat) (k : Int) (ls : Array Slot), (0 ≤ k ∧ k ≤ jj) → (zrk od pl (sz - k).toNat k = zrk od pl sz.toNat 0) → ((sz - k).toNat) < nn → lv_has ls 3 [(0, .ref (d 0)), (1, .int (zI pl)), (2, .int (zI k))] → W p l e (headSpec wsX3_rank ({ frames := 1, cells := 0, slots := 0, locals := 21 })).room s m ([.ref (d 0), .int (zI pl)] : List Value).toArray below meth c s.heap [] 0 0 (MQ below (zQi (fun r => r = zrn bt sz od pl)) ([.ref (d 0), .int (zI pl)] : List Value).toArray s 0 0 (fun _ => False)) (F0 m 12 ls []) := by
      intro nn
      induction nn with
      | zero =>
        intros
        exact absurd (by assumption : _ < 0) (Nat.not_lt_zero _)
      | succ nn ih12 =>
        intro k ls h0 hq hmu hl
        have hk1 := hod hf5.1 k (by omega) (by omega)
        refine lv_aload_n hx hb dX3_rank_12 rfl (lv_at hl 0 rfl) ?_
        refine va_get (D := D) (ci := 3) (v := .ref (d 2)) (C := RX3) (T := TX3) (N := 13) hx hb hts inX3_rank_X3 hown hK.1 hP 0 rfl rfl 6 (by decide) (hts (.fieldLink RX3 13 "TextEndsModel" "order" "[I") (List.mem_of_getElem? (i := 1) rfl)) (fun _ h9 => h9) rfl dX3_rank_13 ?_
        refine lv_iload_n hx hb dX3_rank_16 rfl (lv_at hl 2 rfl) ?_
        refine z_iald hx hb hK.1 hP 1 0 rfl rfl dX3_rank_17 (by omega) (by omega) (by omega) ?_
        refine lv_iload_n hx hb dX3_rank_18 rfl (lv_at hl 1 rfl) ?_
        refine z_icmp_eq (tgt := 28) hx hb dX3_rank_19 (by decide) (by omega) (by omega) (fun h_2 => ?_) (fun h_2 => ?_)
        · skip
          refine lv_iload_n hx hb dX3_rank_28 rfl (lv_at hl 2 rfl) ?_
          exact W.iret (v := zI k) hx hb hr (fun t ht_ hW_ => ⟨k, rfl, by show _ = zrn bt sz od pl; unfold zrn; rw [if_pos he5, ← hq]; exact (zrk_at (by with_reducible assumption)).symm, ht_⟩) (fun q h => by cases h) dX3_rank_29
        · skip
          refine lv_iinc (v := zI (k + 1)) (lv' := [(2, .int (zI (k + 1))), (0, .ref (d 0)), (1, .int (zI pl))]) hx hb dX3_rank_22 hl (k := 2) rfl (zI_add _ _) (by decide) rfl (fun ls hl => ?_)
          refine lv_goto (tgt := 12) hx hb dX3_rank_25 (by decide) ?_
          exact ih12 (k + 1) ls (by refine ⟨by omega, ?_⟩; rcases Int.lt_or_eq_of_le h0.2 with q | q; omega; exact absurd (show od k = pl by rw [q]; exact hj2) (by with_reducible assumption)) (by rw [← hq, show (sz - k).toNat = (sz - (k + 1)).toNat + 1 by omega, zrk_nx (by with_reducible assumption)]) (by omega) (lv_sub hl [1, 2, 0] rfl)
    exact loop12 _ 0 ls (by omega) (by rw [show sz - 0 = sz by omega]) (Nat.lt_succ_self _) (lv_sub hl [1, 2, 0] rfl)
  · skip
    have he5 := bi_eq h_1
    refine lv_iconst (v := zI (-1)) hx hb dX3_rank_8 (by first | rfl | decide) ?_
    exact W.iret (v := zI (-1)) hx hb hr (fun t ht_ hW_ => ⟨(-1), rfl, by show _ = zrn bt sz od pl; unfold zrn; rw [he5, if_neg (by decide)], ht_⟩) (fun q h => by cases h) dX3_rank_9
set_option maxHeartbeats 4000000 in
set_option maxRecDepth 100000 in
/-- common(place, other) -/
theorem kX3_common (l : Launch) (D : va_G) (cI cZ cL : ClassId) (d : Nat → Nat) (rm sg pr sz bt ps fi ht fo : Int) (nT : Nat) (T : Int → Int) (x y : Int) (hsz : 0 ≤ sz ∧ sz ≤ 1000000) (hsT : sz ≤ (nT : Int)) (bnT : (nT : Int) < 1073741824) (hT : zS T) (hbt : bt = 0 ∨ bt = 1) (hx1 : zR x) (hy1 : zR y) : Met l yX3_common wsX3_common ({ frames := 1, cells := 0, slots := 0, locals := 23 }) (zPr D cI cZ cL [.ref (d 0), .int (zI x), .int (zI y)] [(d 0, .inr (3, mo d rm sg pr sz bt ps fi ht fo)), (d 1, .inl (cI, nT, .inl (zA T)))]) (zQi (fun r => r = zcn2 bt sz T x y)) 0 0 (fun _ => False) := by
  refine Met.ofW (cc := cX3_common) (maxL := 3) (ret := (some .int)) (by decide) rfl ?_
  intro p e s m args below meth c s₁ B hml hv
  obtain ⟨rfl, hP, hK⟩ := hv
  have hx := B.exec
  have hb := B.bytes
  have hr := B.returns
  have hts := atoms_spec (ws := wsX3_common) B.pre
  have hown : s.vm.findClass RX3 = some m.cls := findClass_of_methodNamed B.named
  have hlocks := B.notSynchronized
  have hP : va_P D vwCl [(d 0, .inr (3, mo d rm sg pr sz bt ps fi ht fo)), (d 1, .inl (cI, nT, .inl (zA T)))] s.heap := hP
  have hl := lv_entry ([.ref (d 0), .int (zI x), .int (zI y)]) (n := 3) (Nat.le_of_ble_eq_true rfl)
  rw [lg_entry_eq]
  generalize (lg_sl ([.ref (d 0), .int (zI x), .int (zI y)]) ++ List.replicate (3 - (lg_sl ([.ref (d 0), .int (zI x), .int (zI y)])).length) Slot.unset).toArray = ls at hl ⊢
  have hl : lv_has ls 3 [(0, .ref (d 0)), (1, .int (zI x)), (2, .int (zI y))] := hl
  refine lv_aload_n hx hb dX3_common_0 rfl (lv_at hl 0 rfl) ?_
  refine lv_iload_n hx hb dX3_common_1 rfl (lv_at hl 1 rfl) ?_
  refine z_cr (va_runV (As := [.int (zI x)]) (rest := []) ⟨hx, hb, hml, hown, hts⟩ (kX3_isEnd l D cI cZ cL d rm sg pr sz bt ps fi ht fo x (by omega) (by omega) (by omega)) (cwV 1 hts gX3_common_X3_isEnd rfl rfl rfl (by decide +kernel) ⟨Nat.le_of_ble_eq_true rfl, Nat.le_of_ble_eq_true rfl⟩) (zPr_preV (ci := 3) (q0 := 0) hK (hP.sub (ws' := [(d 0, .inr (3, mo d rm sg pr sz bt ps fi ht fo))]) [0] rfl) rfl rfl) rfl rfl hl.1 rfl (lv_room (Nat.le_of_ble_eq_true rfl)) dX3_common_2 ⟨Nat.zero_le _, Nat.zero_le _⟩) (fun r hr_ => ?_)
  subst hr_
  refine z_if_eq (tgt := 25) hx hb dX3_common_5 (by decide) (bi_R _) (fun h_1 => ?_) (fun h_1 => ?_)
  · skip
    have he5 := bi_eq h_1
    refine lv_iconst (v := zI (-1)) hx hb dX3_common_25 (by first | rfl | decide) ?_
    exact W.iret (v := zI (-1)) hx hb hr (fun t ht_ hW_ => ⟨(-1), rfl, by first | exact zcn2_t he5 he13 | exact zcn2_a he5 | exact zcn2_b he13, ht_⟩) (fun q h => by cases h) dX3_common_26
  · skip
    have he5 := bi_ne h_1
    have hf5 := zie_iff.mp he5
    refine lv_aload_n hx hb dX3_common_8 rfl (lv_at hl 0 rfl) ?_
    refine lv_iload_n hx hb dX3_common_9 rfl (lv_at hl 2 rfl) ?_
    refine z_cr (va_runV (As := [.int (zI y)]) (rest := []) ⟨hx, hb, hml, hown, hts⟩ (kX3_isEnd l D cI cZ cL d rm sg pr sz bt ps fi ht fo y (by omega) (by omega) (by omega)) (cwV 1 hts gX3_common_X3_isEnd rfl rfl rfl (by decide +kernel) ⟨Nat.le_of_ble_eq_true rfl, Nat.le_of_ble_eq_true rfl⟩) (zPr_preV (ci := 3) (q0 := 0) hK (hP.sub (ws' := [(d 0, .inr (3, mo d rm sg pr sz bt ps fi ht fo))]) [0] rfl) rfl rfl) rfl rfl hl.1 rfl (lv_room (Nat.le_of_ble_eq_true rfl)) dX3_common_10 ⟨Nat.zero_le _, Nat.zero_le _⟩) (fun r hr_ => ?_)
    subst hr_
    refine z_if_eq (tgt := 25) hx hb dX3_common_13 (by decide) (bi_R _) (fun h_2 => ?_) (fun h_2 => ?_)
    · skip
      have he13 := bi_eq h_2
      refine lv_iconst (v := zI (-1)) hx hb dX3_common_25 (by first | rfl | decide) ?_
      exact W.iret (v := zI (-1)) hx hb hr (fun t ht_ hW_ => ⟨(-1), rfl, by first | exact zcn2_t he5 he13 | exact zcn2_a he5 | exact zcn2_b he13, ht_⟩) (fun q h => by cases h) dX3_common_26
    · skip
      have he13 := bi_ne h_2
      have hf13 := zie_iff.mp he13
      refine lv_aload_n hx hb dX3_common_16 rfl (lv_at hl 0 rfl) ?_
      refine lv_iload_n hx hb dX3_common_17 rfl (lv_at hl 1 rfl) ?_
      refine lv_iload_n hx hb dX3_common_18 rfl (lv_at hl 2 rfl) ?_
      refine z_cr (va_runV (As := [.int (zI x), .int (zI y)]) (rest := []) ⟨hx, hb, hml, hown, hts⟩ (kX3_commonOf l D cI cZ cL d rm sg pr sz bt ps fi ht fo nT T x y (by omega) (by omega) (by omega) (hT) (by omega) (by omega)) (cwV 2 hts gX3_common_X3_commonOf rfl rfl rfl (by decide +kernel) ⟨Nat.le_of_ble_eq_true rfl, Nat.le_of_ble_eq_true rfl⟩) (zPr_preV (ci := 3) (q0 := 0) hK (hP.sub (ws' := [(d 0, .inr (3, mo d rm sg pr sz bt ps fi ht fo)), (d 1, .inl (cI, nT, .inl (zA T)))]) [0, 1] rfl) rfl rfl) rfl rfl hl.1 rfl (lv_room (Nat.le_of_ble_eq_true rfl)) dX3_common_19 ⟨Nat.zero_le _, Nat.zero_le _⟩) (fun r hr_ => ?_)
      subst hr_
      refine lv_goto (tgt := 26) hx hb dX3_common_22 (by decide) ?_
      exact W.iret (v := zI (zcm sz T x y 0)) hx hb hr (fun t ht_ hW_ => ⟨zcm sz T x y 0, rfl, by first | exact zcn2_t he5 he13 | exact zcn2_a he5 | exact zcn2_b he13, ht_⟩) (fun q h => by cases h) dX3_common_26
end
section
set_option maxRecDepth 20000 in
theorem inX3_feed_X3 : ∀ w ∈ wsX30, w ∈ wsX3_feed := by decide +kernel
set_option maxRecDepth 20000 in
theorem inX3_patFeed_X3 : ∀ w ∈ wsX30, w ∈ wsX3_patFeed := by decide +kernel
set_option maxRecDepth 20000 in
theorem inX3_patClear_X3 : ∀ w ∈ wsX30, w ∈ wsX3_patClear := by decide +kernel
set_option maxRecDepth 20000 in
theorem inX3_clear_X3 : ∀ w ∈ wsX30, w ∈ wsX3_clear := by decide +kernel
set_option maxRecDepth 20000 in
theorem inX3_begins_X3 : ∀ w ∈ wsX30, w ∈ wsX3_begins := by decide +kernel
set_option maxRecDepth 20000 in
theorem inX3_search_X3 : ∀ w ∈ wsX30, w ∈ wsX3_search := by decide +kernel
set_option maxRecDepth 20000 in
theorem inX3_hit_X3 : ∀ w ∈ wsX30, w ∈ wsX3_hit := by decide +kernel
set_option maxRecDepth 20000 in
theorem inX3_repeated_X3 : ∀ w ∈ wsX30, w ∈ wsX3_repeated := by decide +kernel
set_option maxRecDepth 20000 in
theorem inX3_different_X3 : ∀ w ∈ wsX30, w ∈ wsX3_different := by decide +kernel
set_option maxHeartbeats 4000000 in
set_option maxRecDepth 100000 in
/-- feed(letter) -/
theorem kX3_feed (l : Launch) (D : va_G) (cI cZ cL : ClassId) (d : Nat → Nat) (rm sg pr sz bt ps fi ht fo : Int) (nT : Nat) (T : Int → Int) (x : Int) (szz : Nat) (hsz : 0 ≤ sz ∧ sz ≤ rm) (hrm : rm ≤ (nT : Int)) (hsg : zR sg) (bnT : (nT : Int) < 1073741824) (hx1 : zR x) : Met l yX3_feed wsX3_feed ({ frames := 0, cells := 0, slots := 0, locals := 0 }) (zPw D cI cZ cL szz [.ref (d 0), .int (zI x)] [(d 0, .inr (3, mo d rm sg pr sz bt ps fi ht fo)), (d 1, .inl (cI, nT, .inl (zA T)))]) (zQwi D (va_A [(d 0, .inr (3, mo d rm sg pr sz bt ps fi ht fo)), (d 1, .inl (cI, nT, .inl (zA T)))] szz) (fun (r : Int) (_ : Unit) => r = bi (fok sg rm sz x) ∧ True) (fun _ : Unit => [(d 0, .inr (3, mo d rm sg pr (if fok sg rm sz x = true then sz + 1 else sz) (if fok sg rm sz x = true then 0 else bt) ps fi ht (if fok sg rm sz x = true then 0 else fo))), (d 1, .inl (cI, nT, .inl (zA (if fok sg rm sz x = true then zup T sz x else T))))])) 0 0 (va_A [(d 0, .inr (3, mo d rm sg pr sz bt ps fi ht fo)), (d 1, .inl (cI, nT, .inl (zA T)))] szz) := by
  refine Met.ofW (cc := cX3_feed) (maxL := 2) (ret := (some .boolean)) (by decide) rfl ?_
  intro p e s m args below meth c s₁ B hml hv
  obtain ⟨rfl, hsz, hP, hK, hD0⟩ := hv
  have hx := B.exec
  have hb := B.bytes
  have hr := B.returns
  have hts := atoms_spec (ws := wsX3_feed) B.pre
  have hown : s.vm.findClass RX3 = some m.cls := findClass_of_methodNamed B.named
  have hlocks := B.notSynchronized
  subst hsz
  have hD := hD0.self (sz := s.heap.size)
  generalize hAe : va_A [(d 0, .inr (3, mo d rm sg pr sz bt ps fi ht fo)), (d 1, .inl (cI, nT, .inl (zA T)))] s.heap.size = A at hD ⊢
  have hA : ∀ q : Nat, s.heap.size ≤ q → A q := fun q h => by rw [← hAe]; exact Or.inr h
  have hS : va_S A s.heap s.heap [] := va_S.rf
  clear hD0
  have hP : va_P D vwCl [(d 0, .inr (3, mo d rm sg pr sz bt ps fi ht fo)), (d 1, .inl (cI, nT, .inl (zA T)))] s.heap := hP
  have hl := lv_entry ([.ref (d 0), .int (zI x)]) (n := 2) (Nat.le_of_ble_eq_true rfl)
  rw [lg_entry_eq]
  generalize (lg_sl ([.ref (d 0), .int (zI x)]) ++ List.replicate (2 - (lg_sl ([.ref (d 0), .int (zI x)])).length) Slot.unset).toArray = ls at hl ⊢
  have hl : lv_has ls 2 [(0, .ref (d 0)), (1, .int (zI x))] := hl
  refine lv_iload_n hx hb dX3_feed_0 rfl (lv_at hl 1 rfl) ?_
  refine z_if_lt (tgt := 23) hx hb dX3_feed_1 (by decide) (by omega) (fun h_1 => ?_) (fun h_1 => ?_)
  · skip
    refine lv_iconst (v := zI 0) hx hb dX3_feed_23 (by first | rfl | decide) ?_
    have hfk : fok sg rm sz x = false := fok_f (by omega)
    have hP : va_P D vwCl [(d 0, .inr (3, mo d rm sg pr (if fok sg rm sz x = true then sz + 1 else sz) (if fok sg rm sz x = true then 0 else bt) ps fi ht (if fok sg rm sz x = true then 0 else fo))), (d 1, .inl (cI, nT, .inl (zA (if fok sg rm sz x = true then zup T sz x else T))))] s.heap := by (simp only [hfk, Bool.false_eq_true, if_false]; exact hP)
    have hD : va_D A [(d 0, .inr (3, mo d rm sg pr (if fok sg rm sz x = true then sz + 1 else sz) (if fok sg rm sz x = true then 0 else bt) ps fi ht (if fok sg rm sz x = true then 0 else fo))), (d 1, .inl (cI, nT, .inl (zA (if fok sg rm sz x = true then zup T sz x else T))))] := by (simp only [hfk, Bool.false_eq_true, if_false]; exact hD)
    exact W.zret (ty := .boolean) (v := zI 0) hx hb hr (znar_b2 (by first | exact Or.inl rfl | exact Or.inr rfl | exact bi_01 _ | with_reducible assumption | omega)) (fun t ht_ hW_ => ⟨⟨0, (), rfl, ⟨by rw [hfk]; rfl, trivial⟩, by rw [ht_]; exact hP, hD⟩, hS.F ht_⟩) hS.2.2 dX3_feed_24
  · skip
    refine lv_iload_n hx hb dX3_feed_4 rfl (lv_at hl 1 rfl) ?_
    refine lv_aload_n hx hb dX3_feed_5 rfl (lv_at hl 0 rfl) ?_
    refine va_get (D := D) (ci := 3) (v := .int (zI sg)) (C := RX3) (T := TX3) (N := 13) hx hb hts inX3_feed_X3 hown hK.1 hP 0 rfl rfl 1 (by decide) (hts (.fieldLink RX3 26 "TextEndsModel" "sigma" "I") (List.mem_of_getElem? (i := 1) rfl)) (fun _ h9 => h9) rfl dX3_feed_6 ?_
    refine z_icmp_ge (tgt := 23) hx hb dX3_feed_9 (by decide) (by omega) (by omega) (fun h_2 => ?_) (fun h_2 => ?_)
    · skip
      refine lv_iconst (v := zI 0) hx hb dX3_feed_23 (by first | rfl | decide) ?_
      have hfk : fok sg rm sz x = false := fok_f (by omega)
      have hP : va_P D vwCl [(d 0, .inr (3, mo d rm sg pr (if fok sg rm sz x = true then sz + 1 else sz) (if fok sg rm sz x = true then 0 else bt) ps fi ht (if fok sg rm sz x = true then 0 else fo))), (d 1, .inl (cI, nT, .inl (zA (if fok sg rm sz x = true then zup T sz x else T))))] s.heap := by (simp only [hfk, Bool.false_eq_true, if_false]; exact hP)
      have hD : va_D A [(d 0, .inr (3, mo d rm sg pr (if fok sg rm sz x = true then sz + 1 else sz) (if fok sg rm sz x = true then 0 else bt) ps fi ht (if fok sg rm sz x = true then 0 else fo))), (d 1, .inl (cI, nT, .inl (zA (if fok sg rm sz x = true then zup T sz x else T))))] := by (simp only [hfk, Bool.false_eq_true, if_false]; exact hD)
      exact W.zret (ty := .boolean) (v := zI 0) hx hb hr (znar_b2 (by first | exact Or.inl rfl | exact Or.inr rfl | exact bi_01 _ | with_reducible assumption | omega)) (fun t ht_ hW_ => ⟨⟨0, (), rfl, ⟨by rw [hfk]; rfl, trivial⟩, by rw [ht_]; exact hP, hD⟩, hS.F ht_⟩) hS.2.2 dX3_feed_24
    · skip
      refine lv_aload_n hx hb dX3_feed_12 rfl (lv_at hl 0 rfl) ?_
      refine va_get (D := D) (ci := 3) (v := .int (zI sz)) (C := RX3) (T := TX3) (N := 13) hx hb hts inX3_feed_X3 hown hK.1 hP 0 rfl rfl 4 (by decide) (hts (.fieldLink RX3 32 "TextEndsModel" "size" "I") (List.mem_of_getElem? (i := 2) rfl)) (fun _ h9 => h9) rfl dX3_feed_13 ?_
      refine lv_aload_n hx hb dX3_feed_16 rfl (lv_at hl 0 rfl) ?_
      refine va_get (D := D) (ci := 3) (v := .int (zI rm)) (C := RX3) (T := TX3) (N := 13) hx hb hts inX3_feed_X3 hown hK.1 hP 0 rfl rfl 0 (by decide) (hts (.fieldLink RX3 22 "TextEndsModel" "room" "I") (List.mem_of_getElem? (i := 3) rfl)) (fun _ h9 => h9) rfl dX3_feed_17 ?_
      refine z_icmp_ne (tgt := 25) hx hb dX3_feed_20 (by decide) (by omega) (by omega) (fun h_3 => ?_) (fun h_3 => ?_)
      · skip
        refine lv_aload_n hx hb dX3_feed_25 rfl (lv_at hl 0 rfl) ?_
        refine va_get (D := D) (ci := 3) (v := .ref (d 1)) (C := RX3) (T := TX3) (N := 13) hx hb hts inX3_feed_X3 hown hK.1 hP 0 rfl rfl 3 (by decide) (hts (.fieldLink RX3 7 "TextEndsModel" "text" "[I") (List.mem_of_getElem? (i := 4) rfl)) (fun _ h9 => h9) rfl dX3_feed_26 ?_
        refine lv_aload_n hx hb dX3_feed_29 rfl (lv_at hl 0 rfl) ?_
        refine va_get (D := D) (ci := 3) (v := .int (zI sz)) (C := RX3) (T := TX3) (N := 13) hx hb hts inX3_feed_X3 hown hK.1 hP 0 rfl rfl 4 (by decide) (hts (.fieldLink RX3 32 "TextEndsModel" "size" "I") (List.mem_of_getElem? (i := 2) rfl)) (fun _ h9 => h9) rfl dX3_feed_30 ?_
        refine lv_iload_n hx hb dX3_feed_33 rfl (lv_at hl 1 rfl) ?_
        refine z_iast hx hb hK.1 hP hD hS 1 0 rfl rfl dX3_feed_34 (by omega) (by omega) (by omega) (fun H locs hP hD hS => ?_)
        have hP : va_P D vwCl [(d 0, .inr (3, mo d rm sg pr sz bt ps fi ht fo)), (d 1, .inl (cI, nT, .inl (zA (zup T sz x))))] H := hP
        have hD : va_D A [(d 0, .inr (3, mo d rm sg pr sz bt ps fi ht fo)), (d 1, .inl (cI, nT, .inl (zA (zup T sz x))))] := hD
        refine lv_aload_n hx hb dX3_feed_35 rfl (lv_at hl 0 rfl) ?_
        refine lv_dup hx hb dX3_feed_36 rfl ?_
        refine va_get (D := D) (ci := 3) (v := .int (zI sz)) (C := RX3) (T := TX3) (N := 13) hx hb hts inX3_feed_X3 hown hK.1 hP 0 rfl rfl 4 (by decide) (hts (.fieldLink RX3 32 "TextEndsModel" "size" "I") (List.mem_of_getElem? (i := 2) rfl)) (fun _ h9 => h9) rfl dX3_feed_37 ?_
        refine lv_iconst (v := zI 1) hx hb dX3_feed_40 (by first | rfl | decide) ?_
        refine z_iadd hx hb dX3_feed_41 ?_
        refine va_put (D := D) (ci := 3) (v := .int (zI (sz + 1))) (ty := .int) (C := RX3) (T := TX3) (N := 13) hx hb hts inX3_feed_X3 tyX3 tyX3_ok nmX3 hown hK.1 hP hD hS 0 rfl rfl 4 (by decide) (hts (.fieldLink RX3 32 "TextEndsModel" "size" "I") (List.mem_of_getElem? (i := 2) rfl)) (fun _ h9 => h9) rfl (by decide +kernel) rfl rfl (Nat.le_of_ble_eq_true rfl) dX3_feed_42 (fun H locs hP hD hS => ?_)
        have hP : va_P D vwCl [(d 0, .inr (3, mo d rm sg pr (sz + 1) bt ps fi ht fo)), (d 1, .inl (cI, nT, .inl (zA (zup T sz x))))] H := hP
        have hD : va_D A [(d 0, .inr (3, mo d rm sg pr (sz + 1) bt ps fi ht fo)), (d 1, .inl (cI, nT, .inl (zA (zup T sz x))))] := hD
        refine lv_aload_n hx hb dX3_feed_45 rfl (lv_at hl 0 rfl) ?_
        refine lv_iconst (v := zI 0) hx hb dX3_feed_46 (by first | rfl | decide) ?_
        refine va_put (D := D) (ci := 3) (v := .int (zI 0)) (ty := .boolean) (C := RX3) (T := TX3) (N := 13) hx hb hts inX3_feed_X3 tyX3 tyX3_ok nmX3 hown hK.1 hP hD hS 0 rfl rfl 5 (by decide) (hts (.fieldLink RX3 35 "TextEndsModel" "built" "Z") (List.mem_of_getElem? (i := 5) rfl)) (fun _ h9 => h9) rfl (by decide +kernel) (znar_b2 (by first | exact Or.inl rfl | exact Or.inr rfl | exact bi_01 _ | with_reducible assumption | omega)) (zfit_b (by first | exact Or.inl rfl | exact Or.inr rfl | exact bi_01 _ | with_reducible assumption | omega)) (Nat.le_of_ble_eq_true rfl) dX3_feed_47 (fun H locs hP hD hS => ?_)
        have hP : va_P D vwCl [(d 0, .inr (3, mo d rm sg pr (sz + 1) 0 ps fi ht fo)), (d 1, .inl (cI, nT, .inl (zA (zup T sz x))))] H := hP
        have hD : va_D A [(d 0, .inr (3, mo d rm sg pr (sz + 1) 0 ps fi ht fo)), (d 1, .inl (cI, nT, .inl (zA (zup T sz x))))] := hD
        refine lv_aload_n hx hb dX3_feed_50 rfl (lv_at hl 0 rfl) ?_
        refine lv_iconst (v := zI 0) hx hb dX3_feed_51 (by first | rfl | decide) ?_
        refine va_put (D := D) (ci := 3) (v := .int (zI 0)) (ty := .boolean) (C := RX3) (T := TX3) (N := 13) hx hb hts inX3_feed_X3 tyX3 tyX3_ok nmX3 hown hK.1 hP hD hS 0 rfl rfl 12 (by decide) (hts (.fieldLink RX3 39 "TextEndsModel" "found" "Z") (List.mem_of_getElem? (i := 6) rfl)) (fun _ h9 => h9) rfl (by decide +kernel) (znar_b2 (by first | exact Or.inl rfl | exact Or.inr rfl | exact bi_01 _ | with_reducible assumption | omega)) (zfit_b (by first | exact Or.inl rfl | exact Or.inr rfl | exact bi_01 _ | with_reducible assumption | omega)) (Nat.le_of_ble_eq_true rfl) dX3_feed_52 (fun H locs hP hD hS => ?_)
        have hP : va_P D vwCl [(d 0, .inr (3, mo d rm sg pr (sz + 1) 0 ps fi ht 0)), (d 1, .inl (cI, nT, .inl (zA (zup T sz x))))] H := hP
        have hD : va_D A [(d 0, .inr (3, mo d rm sg pr (sz + 1) 0 ps fi ht 0)), (d 1, .inl (cI, nT, .inl (zA (zup T sz x))))] := hD
        refine lv_iconst (v := zI 1) hx hb dX3_feed_55 (by first | rfl | decide) ?_
        have hfk : fok sg rm sz x = true := fok_t (by omega) (by omega) (by omega)
        have hP : va_P D vwCl [(d 0, .inr (3, mo d rm sg pr (if fok sg rm sz x = true then sz + 1 else sz) (if fok sg rm sz x = true then 0 else bt) ps fi ht (if fok sg rm sz x = true then 0 else fo))), (d 1, .inl (cI, nT, .inl (zA (if fok sg rm sz x = true then zup T sz x else T))))] H := by (simp only [hfk, if_true]; exact hP)
        have hD : va_D A [(d 0, .inr (3, mo d rm sg pr (if fok sg rm sz x = true then sz + 1 else sz) (if fok sg rm sz x = true then 0 else bt) ps fi ht (if fok sg rm sz x = true then 0 else fo))), (d 1, .inl (cI, nT, .inl (zA (if fok sg rm sz x = true then zup T sz x else T))))] := by (simp only [hfk, if_true]; exact hD)
        exact W.zret (ty := .boolean) (v := zI 1) hx hb hr (znar_b2 (by first | exact Or.inl rfl | exact Or.inr rfl | exact bi_01 _ | with_reducible assumption | omega)) (fun t ht_ hW_ => ⟨⟨1, (), rfl, ⟨by rw [hfk]; rfl, trivial⟩, by rw [ht_]; exact hP, hD⟩, hS.F ht_⟩) hS.2.2 dX3_feed_56
      · skip
        refine lv_iconst (v := zI 0) hx hb dX3_feed_23 (by first | rfl | decide) ?_
        have hfk : fok sg rm sz x = false := fok_f (by omega)
        have hP : va_P D vwCl [(d 0, .inr (3, mo d rm sg pr (if fok sg rm sz x = true then sz + 1 else sz) (if fok sg rm sz x = true then 0 else bt) ps fi ht (if fok sg rm sz x = true then 0 else fo))), (d 1, .inl (cI, nT, .inl (zA (if fok sg rm sz x = true then zup T sz x else T))))] s.heap := by (simp only [hfk, Bool.false_eq_true, if_false]; exact hP)
        have hD : va_D A [(d 0, .inr (3, mo d rm sg pr (if fok sg rm sz x = true then sz + 1 else sz) (if fok sg rm sz x = true then 0 else bt) ps fi ht (if fok sg rm sz x = true then 0 else fo))), (d 1, .inl (cI, nT, .inl (zA (if fok sg rm sz x = true then zup T sz x else T))))] := by (simp only [hfk, Bool.false_eq_true, if_false]; exact hD)
        exact W.zret (ty := .boolean) (v := zI 0) hx hb hr (znar_b2 (by first | exact Or.inl rfl | exact Or.inr rfl | exact bi_01 _ | with_reducible assumption | omega)) (fun t ht_ hW_ => ⟨⟨0, (), rfl, ⟨by rw [hfk]; rfl, trivial⟩, by rw [ht_]; exact hP, hD⟩, hS.F ht_⟩) hS.2.2 dX3_feed_24
set_option maxHeartbeats 4000000 in
set_option maxRecDepth 100000 in
/-- patFeed(letter) -/
theorem kX3_patFeed (l : Launch) (D : va_G) (cI cZ cL : ClassId) (d : Nat → Nat) (rm sg pr sz bt ps fi ht fo : Int) (nP : Nat) (pt : Int → Int) (x : Int) (szz : Nat) (hps : 0 ≤ ps ∧ ps ≤ pr) (hpr : pr ≤ (nP : Int)) (hsg : zR sg) (bnP : (nP : Int) < 1073741824) (hx1 : zR x) : Met l yX3_patFeed wsX3_patFeed ({ frames := 0, cells := 0, slots := 0, locals := 0 }) (zPw D cI cZ cL szz [.ref (d 0), .int (zI x)] [(d 0, .inr (3, mo d rm sg pr sz bt ps fi ht fo)), (d 4, .inl (cI, nP, .inl (zA pt)))]) (zQwi D (va_A [(d 0, .inr (3, mo d rm sg pr sz bt ps fi ht fo)), (d 4, .inl (cI, nP, .inl (zA pt)))] szz) (fun (r : Int) (_ : Unit) => r = bi (fok sg pr ps x) ∧ True) (fun _ : Unit => [(d 0, .inr (3, mo d rm sg pr sz bt (if fok sg pr ps x = true then ps + 1 else ps) fi ht (if fok sg pr ps x = true then 0 else fo))), (d 4, .inl (cI, nP, .inl (zA (if fok sg pr ps x = true then zup pt ps x else pt))))])) 0 0 (va_A [(d 0, .inr (3, mo d rm sg pr sz bt ps fi ht fo)), (d 4, .inl (cI, nP, .inl (zA pt)))] szz) := by
  refine Met.ofW (cc := cX3_patFeed) (maxL := 2) (ret := (some .boolean)) (by decide) rfl ?_
  intro p e s m args below meth c s₁ B hml hv
  obtain ⟨rfl, hsz, hP, hK, hD0⟩ := hv
  have hx := B.exec
  have hb := B.bytes
  have hr := B.returns
  have hts := atoms_spec (ws := wsX3_patFeed) B.pre
  have hown : s.vm.findClass RX3 = some m.cls := findClass_of_methodNamed B.named
  have hlocks := B.notSynchronized
  subst hsz
  have hD := hD0.self (sz := s.heap.size)
  generalize hAe : va_A [(d 0, .inr (3, mo d rm sg pr sz bt ps fi ht fo)), (d 4, .inl (cI, nP, .inl (zA pt)))] s.heap.size = A at hD ⊢
  have hA : ∀ q : Nat, s.heap.size ≤ q → A q := fun q h => by rw [← hAe]; exact Or.inr h
  have hS : va_S A s.heap s.heap [] := va_S.rf
  clear hD0
  have hP : va_P D vwCl [(d 0, .inr (3, mo d rm sg pr sz bt ps fi ht fo)), (d 4, .inl (cI, nP, .inl (zA pt)))] s.heap := hP
  have hl := lv_entry ([.ref (d 0), .int (zI x)]) (n := 2) (Nat.le_of_ble_eq_true rfl)
  rw [lg_entry_eq]
  generalize (lg_sl ([.ref (d 0), .int (zI x)]) ++ List.replicate (2 - (lg_sl ([.ref (d 0), .int (zI x)])).length) Slot.unset).toArray = ls at hl ⊢
  have hl : lv_has ls 2 [(0, .ref (d 0)), (1, .int (zI x))] := hl
  refine lv_iload_n hx hb dX3_patFeed_0 rfl (lv_at hl 1 rfl) ?_
  refine z_if_lt (tgt := 23) hx hb dX3_patFeed_1 (by decide) (by omega) (fun h_1 => ?_) (fun h_1 => ?_)
  · skip
    refine lv_iconst (v := zI 0) hx hb dX3_patFeed_23 (by first | rfl | decide) ?_
    have hfk : fok sg pr ps x = false := fok_f (by omega)
    have hP : va_P D vwCl [(d 0, .inr (3, mo d rm sg pr sz bt (if fok sg pr ps x = true then ps + 1 else ps) fi ht (if fok sg pr ps x = true then 0 else fo))), (d 4, .inl (cI, nP, .inl (zA (if fok sg pr ps x = true then zup pt ps x else pt))))] s.heap := by (simp only [hfk, Bool.false_eq_true, if_false]; exact hP)
    have hD : va_D A [(d 0, .inr (3, mo d rm sg pr sz bt (if fok sg pr ps x = true then ps + 1 else ps) fi ht (if fok sg pr ps x = true then 0 else fo))), (d 4, .inl (cI, nP, .inl (zA (if fok sg pr ps x = true then zup pt ps x else pt))))] := by (simp only [hfk, Bool.false_eq_true, if_false]; exact hD)
    exact W.zret (ty := .boolean) (v := zI 0) hx hb hr (znar_b2 (by first | exact Or.inl rfl | exact Or.inr rfl | exact bi_01 _ | with_reducible assumption | omega)) (fun t ht_ hW_ => ⟨⟨0, (), rfl, ⟨by rw [hfk]; rfl, trivial⟩, by rw [ht_]; exact hP, hD⟩, hS.F ht_⟩) hS.2.2 dX3_patFeed_24
  · skip
    refine lv_iload_n hx hb dX3_patFeed_4 rfl (lv_at hl 1 rfl) ?_
    refine lv_aload_n hx hb dX3_patFeed_5 rfl (lv_at hl 0 rfl) ?_
    refine va_get (D := D) (ci := 3) (v := .int (zI sg)) (C := RX3) (T := TX3) (N := 13) hx hb hts inX3_patFeed_X3 hown hK.1 hP 0 rfl rfl 1 (by decide) (hts (.fieldLink RX3 26 "TextEndsModel" "sigma" "I") (List.mem_of_getElem? (i := 1) rfl)) (fun _ h9 => h9) rfl dX3_patFeed_6 ?_
    refine z_icmp_ge (tgt := 23) hx hb dX3_patFeed_9 (by decide) (by omega) (by omega) (fun h_2 => ?_) (fun h_2 => ?_)
    · skip
      refine lv_iconst (v := zI 0) hx hb dX3_patFeed_23 (by first | rfl | decide) ?_
      have hfk : fok sg pr ps x = false := fok_f (by omega)
      have hP : va_P D vwCl [(d 0, .inr (3, mo d rm sg pr sz bt (if fok sg pr ps x = true then ps + 1 else ps) fi ht (if fok sg pr ps x = true then 0 else fo))), (d 4, .inl (cI, nP, .inl (zA (if fok sg pr ps x = true then zup pt ps x else pt))))] s.heap := by (simp only [hfk, Bool.false_eq_true, if_false]; exact hP)
      have hD : va_D A [(d 0, .inr (3, mo d rm sg pr sz bt (if fok sg pr ps x = true then ps + 1 else ps) fi ht (if fok sg pr ps x = true then 0 else fo))), (d 4, .inl (cI, nP, .inl (zA (if fok sg pr ps x = true then zup pt ps x else pt))))] := by (simp only [hfk, Bool.false_eq_true, if_false]; exact hD)
      exact W.zret (ty := .boolean) (v := zI 0) hx hb hr (znar_b2 (by first | exact Or.inl rfl | exact Or.inr rfl | exact bi_01 _ | with_reducible assumption | omega)) (fun t ht_ hW_ => ⟨⟨0, (), rfl, ⟨by rw [hfk]; rfl, trivial⟩, by rw [ht_]; exact hP, hD⟩, hS.F ht_⟩) hS.2.2 dX3_patFeed_24
    · skip
      refine lv_aload_n hx hb dX3_patFeed_12 rfl (lv_at hl 0 rfl) ?_
      refine va_get (D := D) (ci := 3) (v := .int (zI ps)) (C := RX3) (T := TX3) (N := 13) hx hb hts inX3_patFeed_X3 hown hK.1 hP 0 rfl rfl 9 (by decide) (hts (.fieldLink RX3 57 "TextEndsModel" "patternSize" "I") (List.mem_of_getElem? (i := 2) rfl)) (fun _ h9 => h9) rfl dX3_patFeed_13 ?_
      refine lv_aload_n hx hb dX3_patFeed_16 rfl (lv_at hl 0 rfl) ?_
      refine va_get (D := D) (ci := 3) (v := .int (zI pr)) (C := RX3) (T := TX3) (N := 13) hx hb hts inX3_patFeed_X3 hown hK.1 hP 0 rfl rfl 2 (by decide) (hts (.fieldLink RX3 29 "TextEndsModel" "patternRoom" "I") (List.mem_of_getElem? (i := 3) rfl)) (fun _ h9 => h9) rfl dX3_patFeed_17 ?_
      refine z_icmp_ne (tgt := 25) hx hb dX3_patFeed_20 (by decide) (by omega) (by omega) (fun h_3 => ?_) (fun h_3 => ?_)
      · skip
        refine lv_aload_n hx hb dX3_patFeed_25 rfl (lv_at hl 0 rfl) ?_
        refine va_get (D := D) (ci := 3) (v := .ref (d 4)) (C := RX3) (T := TX3) (N := 13) hx hb hts inX3_patFeed_X3 hown hK.1 hP 0 rfl rfl 8 (by decide) (hts (.fieldLink RX3 19 "TextEndsModel" "pattern" "[I") (List.mem_of_getElem? (i := 4) rfl)) (fun _ h9 => h9) rfl dX3_patFeed_26 ?_
        refine lv_aload_n hx hb dX3_patFeed_29 rfl (lv_at hl 0 rfl) ?_
        refine va_get (D := D) (ci := 3) (v := .int (zI ps)) (C := RX3) (T := TX3) (N := 13) hx hb hts inX3_patFeed_X3 hown hK.1 hP 0 rfl rfl 9 (by decide) (hts (.fieldLink RX3 57 "TextEndsModel" "patternSize" "I") (List.mem_of_getElem? (i := 2) rfl)) (fun _ h9 => h9) rfl dX3_patFeed_30 ?_
        refine lv_iload_n hx hb dX3_patFeed_33 rfl (lv_at hl 1 rfl) ?_
        refine z_iast hx hb hK.1 hP hD hS 1 0 rfl rfl dX3_patFeed_34 (by omega) (by omega) (by omega) (fun H locs hP hD hS => ?_)
        have hP : va_P D vwCl [(d 0, .inr (3, mo d rm sg pr sz bt ps fi ht fo)), (d 4, .inl (cI, nP, .inl (zA (zup pt ps x))))] H := hP
        have hD : va_D A [(d 0, .inr (3, mo d rm sg pr sz bt ps fi ht fo)), (d 4, .inl (cI, nP, .inl (zA (zup pt ps x))))] := hD
        refine lv_aload_n hx hb dX3_patFeed_35 rfl (lv_at hl 0 rfl) ?_
        refine lv_dup hx hb dX3_patFeed_36 rfl ?_
        refine va_get (D := D) (ci := 3) (v := .int (zI ps)) (C := RX3) (T := TX3) (N := 13) hx hb hts inX3_patFeed_X3 hown hK.1 hP 0 rfl rfl 9 (by decide) (hts (.fieldLink RX3 57 "TextEndsModel" "patternSize" "I") (List.mem_of_getElem? (i := 2) rfl)) (fun _ h9 => h9) rfl dX3_patFeed_37 ?_
        refine lv_iconst (v := zI 1) hx hb dX3_patFeed_40 (by first | rfl | decide) ?_
        refine z_iadd hx hb dX3_patFeed_41 ?_
        refine va_put (D := D) (ci := 3) (v := .int (zI (ps + 1))) (ty := .int) (C := RX3) (T := TX3) (N := 13) hx hb hts inX3_patFeed_X3 tyX3 tyX3_ok nmX3 hown hK.1 hP hD hS 0 rfl rfl 9 (by decide) (hts (.fieldLink RX3 57 "TextEndsModel" "patternSize" "I") (List.mem_of_getElem? (i := 2) rfl)) (fun _ h9 => h9) rfl (by decide +kernel) rfl rfl (Nat.le_of_ble_eq_true rfl) dX3_patFeed_42 (fun H locs hP hD hS => ?_)
        have hP : va_P D vwCl [(d 0, .inr (3, mo d rm sg pr sz bt (ps + 1) fi ht fo)), (d 4, .inl (cI, nP, .inl (zA (zup pt ps x))))] H := hP
        have hD : va_D A [(d 0, .inr (3, mo d rm sg pr sz bt (ps + 1) fi ht fo)), (d 4, .inl (cI, nP, .inl (zA (zup pt ps x))))] := hD
        refine lv_aload_n hx hb dX3_patFeed_45 rfl (lv_at hl 0 rfl) ?_
        refine lv_iconst (v := zI 0) hx hb dX3_patFeed_46 (by first | rfl | decide) ?_
        refine va_put (D := D) (ci := 3) (v := .int (zI 0)) (ty := .boolean) (C := RX3) (T := TX3) (N := 13) hx hb hts inX3_patFeed_X3 tyX3 tyX3_ok nmX3 hown hK.1 hP hD hS 0 rfl rfl 12 (by decide) (hts (.fieldLink RX3 39 "TextEndsModel" "found" "Z") (List.mem_of_getElem? (i := 5) rfl)) (fun _ h9 => h9) rfl (by decide +kernel) (znar_b2 (by first | exact Or.inl rfl | exact Or.inr rfl | exact bi_01 _ | with_reducible assumption | omega)) (zfit_b (by first | exact Or.inl rfl | exact Or.inr rfl | exact bi_01 _ | with_reducible assumption | omega)) (Nat.le_of_ble_eq_true rfl) dX3_patFeed_47 (fun H locs hP hD hS => ?_)
        have hP : va_P D vwCl [(d 0, .inr (3, mo d rm sg pr sz bt (ps + 1) fi ht 0)), (d 4, .inl (cI, nP, .inl (zA (zup pt ps x))))] H := hP
        have hD : va_D A [(d 0, .inr (3, mo d rm sg pr sz bt (ps + 1) fi ht 0)), (d 4, .inl (cI, nP, .inl (zA (zup pt ps x))))] := hD
        refine lv_iconst (v := zI 1) hx hb dX3_patFeed_50 (by first | rfl | decide) ?_
        have hfk : fok sg pr ps x = true := fok_t (by omega) (by omega) (by omega)
        have hP : va_P D vwCl [(d 0, .inr (3, mo d rm sg pr sz bt (if fok sg pr ps x = true then ps + 1 else ps) fi ht (if fok sg pr ps x = true then 0 else fo))), (d 4, .inl (cI, nP, .inl (zA (if fok sg pr ps x = true then zup pt ps x else pt))))] H := by (simp only [hfk, if_true]; exact hP)
        have hD : va_D A [(d 0, .inr (3, mo d rm sg pr sz bt (if fok sg pr ps x = true then ps + 1 else ps) fi ht (if fok sg pr ps x = true then 0 else fo))), (d 4, .inl (cI, nP, .inl (zA (if fok sg pr ps x = true then zup pt ps x else pt))))] := by (simp only [hfk, if_true]; exact hD)
        exact W.zret (ty := .boolean) (v := zI 1) hx hb hr (znar_b2 (by first | exact Or.inl rfl | exact Or.inr rfl | exact bi_01 _ | with_reducible assumption | omega)) (fun t ht_ hW_ => ⟨⟨1, (), rfl, ⟨by rw [hfk]; rfl, trivial⟩, by rw [ht_]; exact hP, hD⟩, hS.F ht_⟩) hS.2.2 dX3_patFeed_51
      · skip
        refine lv_iconst (v := zI 0) hx hb dX3_patFeed_23 (by first | rfl | decide) ?_
        have hfk : fok sg pr ps x = false := fok_f (by omega)
        have hP : va_P D vwCl [(d 0, .inr (3, mo d rm sg pr sz bt (if fok sg pr ps x = true then ps + 1 else ps) fi ht (if fok sg pr ps x = true then 0 else fo))), (d 4, .inl (cI, nP, .inl (zA (if fok sg pr ps x = true then zup pt ps x else pt))))] s.heap := by (simp only [hfk, Bool.false_eq_true, if_false]; exact hP)
        have hD : va_D A [(d 0, .inr (3, mo d rm sg pr sz bt (if fok sg pr ps x = true then ps + 1 else ps) fi ht (if fok sg pr ps x = true then 0 else fo))), (d 4, .inl (cI, nP, .inl (zA (if fok sg pr ps x = true then zup pt ps x else pt))))] := by (simp only [hfk, Bool.false_eq_true, if_false]; exact hD)
        exact W.zret (ty := .boolean) (v := zI 0) hx hb hr (znar_b2 (by first | exact Or.inl rfl | exact Or.inr rfl | exact bi_01 _ | with_reducible assumption | omega)) (fun t ht_ hW_ => ⟨⟨0, (), rfl, ⟨by rw [hfk]; rfl, trivial⟩, by rw [ht_]; exact hP, hD⟩, hS.F ht_⟩) hS.2.2 dX3_patFeed_24
set_option maxHeartbeats 4000000 in
set_option maxRecDepth 100000 in
/-- patClear() -/
theorem kX3_patClear (l : Launch) (D : va_G) (cI cZ cL : ClassId) (d : Nat → Nat) (rm sg pr sz bt ps fi ht fo : Int) (szz : Nat) : Met l yX3_patClear wsX3_patClear ({ frames := 0, cells := 0, slots := 0, locals := 0 }) (zPw D cI cZ cL szz [.ref (d 0)] [(d 0, .inr (3, mo d rm sg pr sz bt ps fi ht fo))]) (zQw D (va_A [(d 0, .inr (3, mo d rm sg pr sz bt ps fi ht fo))] szz) (fun _ : Unit => True) (fun _ : Unit => [(d 0, .inr (3, mo d rm sg pr sz bt 0 fi ht 0))])) 0 0 (va_A [(d 0, .inr (3, mo d rm sg pr sz bt ps fi ht fo))] szz) := by
  refine Met.ofW (cc := cX3_patClear) (maxL := 1) (ret := none) (by decide) rfl ?_
  intro p e s m args below meth c s₁ B hml hv
  obtain ⟨rfl, hsz, hP, hK, hD0⟩ := hv
  have hx := B.exec
  have hb := B.bytes
  have hr := B.returns
  have hts := atoms_spec (ws := wsX3_patClear) B.pre
  have hown : s.vm.findClass RX3 = some m.cls := findClass_of_methodNamed B.named
  have hlocks := B.notSynchronized
  subst hsz
  have hD := hD0.self (sz := s.heap.size)
  generalize hAe : va_A [(d 0, .inr (3, mo d rm sg pr sz bt ps fi ht fo))] s.heap.size = A at hD ⊢
  have hA : ∀ q : Nat, s.heap.size ≤ q → A q := fun q h => by rw [← hAe]; exact Or.inr h
  have hS : va_S A s.heap s.heap [] := va_S.rf
  clear hD0
  have hP : va_P D vwCl [(d 0, .inr (3, mo d rm sg pr sz bt ps fi ht fo))] s.heap := hP
  have hl := lv_entry ([.ref (d 0)]) (n := 1) (Nat.le_of_ble_eq_true rfl)
  rw [lg_entry_eq]
  generalize (lg_sl ([.ref (d 0)]) ++ List.replicate (1 - (lg_sl ([.ref (d 0)])).length) Slot.unset).toArray = ls at hl ⊢
  have hl : lv_has ls 1 [(0, .ref (d 0))] := hl
  refine lv_aload_n hx hb dX3_patClear_0 rfl (lv_at hl 0 rfl) ?_
  refine lv_iconst (v := zI 0) hx hb dX3_patClear_1 (by first | rfl | decide) ?_
  refine va_put (D := D) (ci := 3) (v := .int (zI 0)) (ty := .int) (C := RX3) (T := TX3) (N := 13) hx hb hts inX3_patClear_X3 tyX3 tyX3_ok nmX3 hown hK.1 hP hD hS 0 rfl rfl 9 (by decide) (hts (.fieldLink RX3 57 "TextEndsModel" "patternSize" "I") (List.mem_of_getElem? (i := 1) rfl)) (fun _ h9 => h9) rfl (by decide +kernel) rfl rfl (Nat.le_of_ble_eq_true rfl) dX3_patClear_2 (fun H locs hP hD hS => ?_)
  have hP : va_P D vwCl [(d 0, .inr (3, mo d rm sg pr sz bt 0 fi ht fo))] H := hP
  have hD : va_D A [(d 0, .inr (3, mo d rm sg pr sz bt 0 fi ht fo))] := hD
  refine lv_aload_n hx hb dX3_patClear_5 rfl (lv_at hl 0 rfl) ?_
  refine lv_iconst (v := zI 0) hx hb dX3_patClear_6 (by first | rfl | decide) ?_
  refine va_put (D := D) (ci := 3) (v := .int (zI 0)) (ty := .boolean) (C := RX3) (T := TX3) (N := 13) hx hb hts inX3_patClear_X3 tyX3 tyX3_ok nmX3 hown hK.1 hP hD hS 0 rfl rfl 12 (by decide) (hts (.fieldLink RX3 39 "TextEndsModel" "found" "Z") (List.mem_of_getElem? (i := 2) rfl)) (fun _ h9 => h9) rfl (by decide +kernel) (znar_b2 (by first | exact Or.inl rfl | exact Or.inr rfl | exact bi_01 _ | with_reducible assumption | omega)) (zfit_b (by first | exact Or.inl rfl | exact Or.inr rfl | exact bi_01 _ | with_reducible assumption | omega)) (Nat.le_of_ble_eq_true rfl) dX3_patClear_7 (fun H locs hP hD hS => ?_)
  have hP : va_P D vwCl [(d 0, .inr (3, mo d rm sg pr sz bt 0 fi ht 0))] H := hP
  have hD : va_D A [(d 0, .inr (3, mo d rm sg pr sz bt 0 fi ht 0))] := hD
  exact W.vret hx hb hr (fun t ht_ hW_ => ⟨⟨(), rfl, trivial, by rw [ht_]; exact hP, hD⟩, hS.F ht_⟩) hS.2.2 dX3_patClear_10
set_option maxHeartbeats 4000000 in
set_option maxRecDepth 100000 in
/-- clear() -/
theorem kX3_clear (l : Launch) (D : va_G) (cI cZ cL : ClassId) (d : Nat → Nat) (rm sg pr sz bt ps fi ht fo : Int) (szz : Nat) : Met l yX3_clear wsX3_clear ({ frames := 0, cells := 0, slots := 0, locals := 0 }) (zPw D cI cZ cL szz [.ref (d 0)] [(d 0, .inr (3, mo d rm sg pr sz bt ps fi ht fo))]) (zQw D (va_A [(d 0, .inr (3, mo d rm sg pr sz bt ps fi ht fo))] szz) (fun _ : Unit => True) (fun _ : Unit => [(d 0, .inr (3, mo d rm sg pr 0 0 0 fi ht 0))])) 0 0 (va_A [(d 0, .inr (3, mo d rm sg pr sz bt ps fi ht fo))] szz) := by
  refine Met.ofW (cc := cX3_clear) (maxL := 1) (ret := none) (by decide) rfl ?_
  intro p e s m args below meth c s₁ B hml hv
  obtain ⟨rfl, hsz, hP, hK, hD0⟩ := hv
  have hx := B.exec
  have hb := B.bytes
  have hr := B.returns
  have hts := atoms_spec (ws := wsX3_clear) B.pre
  have hown : s.vm.findClass RX3 = some m.cls := findClass_of_methodNamed B.named
  have hlocks := B.notSynchronized
  subst hsz
  have hD := hD0.self (sz := s.heap.size)
  generalize hAe : va_A [(d 0, .inr (3, mo d rm sg pr sz bt ps fi ht fo))] s.heap.size = A at hD ⊢
  have hA : ∀ q : Nat, s.heap.size ≤ q → A q := fun q h => by rw [← hAe]; exact Or.inr h
  have hS : va_S A s.heap s.heap [] := va_S.rf
  clear hD0
  have hP : va_P D vwCl [(d 0, .inr (3, mo d rm sg pr sz bt ps fi ht fo))] s.heap := hP
  have hl := lv_entry ([.ref (d 0)]) (n := 1) (Nat.le_of_ble_eq_true rfl)
  rw [lg_entry_eq]
  generalize (lg_sl ([.ref (d 0)]) ++ List.replicate (1 - (lg_sl ([.ref (d 0)])).length) Slot.unset).toArray = ls at hl ⊢
  have hl : lv_has ls 1 [(0, .ref (d 0))] := hl
  refine lv_aload_n hx hb dX3_clear_0 rfl (lv_at hl 0 rfl) ?_
  refine lv_iconst (v := zI 0) hx hb dX3_clear_1 (by first | rfl | decide) ?_
  refine va_put (D := D) (ci := 3) (v := .int (zI 0)) (ty := .int) (C := RX3) (T := TX3) (N := 13) hx hb hts inX3_clear_X3 tyX3 tyX3_ok nmX3 hown hK.1 hP hD hS 0 rfl rfl 4 (by decide) (hts (.fieldLink RX3 32 "TextEndsModel" "size" "I") (List.mem_of_getElem? (i := 1) rfl)) (fun _ h9 => h9) rfl (by decide +kernel) rfl rfl (Nat.le_of_ble_eq_true rfl) dX3_clear_2 (fun H locs hP hD hS => ?_)
  have hP : va_P D vwCl [(d 0, .inr (3, mo d rm sg pr 0 bt ps fi ht fo))] H := hP
  have hD : va_D A [(d 0, .inr (3, mo d rm sg pr 0 bt ps fi ht fo))] := hD
  refine lv_aload_n hx hb dX3_clear_5 rfl (lv_at hl 0 rfl) ?_
  refine lv_iconst (v := zI 0) hx hb dX3_clear_6 (by first | rfl | decide) ?_
  refine va_put (D := D) (ci := 3) (v := .int (zI 0)) (ty := .int) (C := RX3) (T := TX3) (N := 13) hx hb hts inX3_clear_X3 tyX3 tyX3_ok nmX3 hown hK.1 hP hD hS 0 rfl rfl 9 (by decide) (hts (.fieldLink RX3 57 "TextEndsModel" "patternSize" "I") (List.mem_of_getElem? (i := 2) rfl)) (fun _ h9 => h9) rfl (by decide +kernel) rfl rfl (Nat.le_of_ble_eq_true rfl) dX3_clear_7 (fun H locs hP hD hS => ?_)
  have hP : va_P D vwCl [(d 0, .inr (3, mo d rm sg pr 0 bt 0 fi ht fo))] H := hP
  have hD : va_D A [(d 0, .inr (3, mo d rm sg pr 0 bt 0 fi ht fo))] := hD
  refine lv_aload_n hx hb dX3_clear_10 rfl (lv_at hl 0 rfl) ?_
  refine lv_iconst (v := zI 0) hx hb dX3_clear_11 (by first | rfl | decide) ?_
  refine va_put (D := D) (ci := 3) (v := .int (zI 0)) (ty := .boolean) (C := RX3) (T := TX3) (N := 13) hx hb hts inX3_clear_X3 tyX3 tyX3_ok nmX3 hown hK.1 hP hD hS 0 rfl rfl 5 (by decide) (hts (.fieldLink RX3 35 "TextEndsModel" "built" "Z") (List.mem_of_getElem? (i := 3) rfl)) (fun _ h9 => h9) rfl (by decide +kernel) (znar_b2 (by first | exact Or.inl rfl | exact Or.inr rfl | exact bi_01 _ | with_reducible assumption | omega)) (zfit_b (by first | exact Or.inl rfl | exact Or.inr rfl | exact bi_01 _ | with_reducible assumption | omega)) (Nat.le_of_ble_eq_true rfl) dX3_clear_12 (fun H locs hP hD hS => ?_)
  have hP : va_P D vwCl [(d 0, .inr (3, mo d rm sg pr 0 0 0 fi ht fo))] H := hP
  have hD : va_D A [(d 0, .inr (3, mo d rm sg pr 0 0 0 fi ht fo))] := hD
  refine lv_aload_n hx hb dX3_clear_15 rfl (lv_at hl 0 rfl) ?_
  refine lv_iconst (v := zI 0) hx hb dX3_clear_16 (by first | rfl | decide) ?_
  refine va_put (D := D) (ci := 3) (v := .int (zI 0)) (ty := .boolean) (C := RX3) (T := TX3) (N := 13) hx hb hts inX3_clear_X3 tyX3 tyX3_ok nmX3 hown hK.1 hP hD hS 0 rfl rfl 12 (by decide) (hts (.fieldLink RX3 39 "TextEndsModel" "found" "Z") (List.mem_of_getElem? (i := 4) rfl)) (fun _ h9 => h9) rfl (by decide +kernel) (znar_b2 (by first | exact Or.inl rfl | exact Or.inr rfl | exact bi_01 _ | with_reducible assumption | omega)) (zfit_b (by first | exact Or.inl rfl | exact Or.inr rfl | exact bi_01 _ | with_reducible assumption | omega)) (Nat.le_of_ble_eq_true rfl) dX3_clear_17 (fun H locs hP hD hS => ?_)
  have hP : va_P D vwCl [(d 0, .inr (3, mo d rm sg pr 0 0 0 fi ht 0))] H := hP
  have hD : va_D A [(d 0, .inr (3, mo d rm sg pr 0 0 0 fi ht 0))] := hD
  exact W.vret hx hb hr (fun t ht_ hW_ => ⟨⟨(), rfl, trivial, by rw [ht_]; exact hP, hD⟩, hS.F ht_⟩) hS.2.2 dX3_clear_20
set_option maxHeartbeats 4000000 in
set_option maxRecDepth 100000 in
/-- begins(place) -/
theorem kX3_begins (l : Launch) (D : va_G) (cI cZ cL : ClassId) (d : Nat → Nat) (rm sg pr sz bt ps fi ht fo : Int) (nT nP : Nat) (T pt : Int → Int) (pl : Int) (hsz : 0 ≤ sz ∧ sz ≤ 1000000) (hsT : sz ≤ (nT : Int)) (bnT : (nT : Int) < 1073741824) (hT : zS T) (hps : 0 ≤ ps ∧ ps ≤ 1000000) (hpP : ps ≤ (nP : Int)) (bnP : (nP : Int) < 1073741824) (hpt : zS pt) (hpl : 0 ≤ pl ∧ pl ≤ sz) : Met l yX3_begins wsX3_begins ({ frames := 0, cells := 0, slots := 0, locals := 0 }) (zPr D cI cZ cL [.ref (d 0), .int (zI pl)] [(d 0, .inr (3, mo d rm sg pr sz bt ps fi ht fo)), (d 1, .inl (cI, nT, .inl (zA T))), (d 4, .inl (cI, nP, .inl (zA pt)))]) (zQi (fun r => r = bi (zbg ps sz T pt pl))) 0 0 (fun _ => False) := by
  refine Met.ofW (cc := cX3_begins) (maxL := 3) (ret := (some .boolean)) (by decide) rfl ?_
  intro p e s m args below meth c s₁ B hml hv
  obtain ⟨rfl, hP, hK⟩ := hv
  have hx := B.exec
  have hb := B.bytes
  have hr := B.returns
  have hts := atoms_spec (ws := wsX3_begins) B.pre
  have hown : s.vm.findClass RX3 = some m.cls := findClass_of_methodNamed B.named
  have hlocks := B.notSynchronized
  have hP : va_P D vwCl [(d 0, .inr (3, mo d rm sg pr sz bt ps fi ht fo)), (d 1, .inl (cI, nT, .inl (zA T))), (d 4, .inl (cI, nP, .inl (zA pt)))] s.heap := hP
  have hl := lv_entry ([.ref (d 0), .int (zI pl)]) (n := 3) (Nat.le_of_ble_eq_true rfl)
  rw [lg_entry_eq]
  generalize (lg_sl ([.ref (d 0), .int (zI pl)]) ++ List.replicate (3 - (lg_sl ([.ref (d 0), .int (zI pl)])).length) Slot.unset).toArray = ls at hl ⊢
  have hl : lv_has ls 3 [(0, .ref (d 0)), (1, .int (zI pl))] := hl
  refine lv_iconst (v := zI 0) hx hb dX3_begins_0 (by first | rfl | decide) ?_
  refine lv_istore_n (lv' := [(2, .int (zI 0)), (0, .ref (d 0)), (1, .int (zI pl))]) hx hb dX3_begins_1 rfl hl (by decide) rfl (fun ls hl => ?_)
  have loop2 : ∀ (nn : Nat) (k : Int) (ls : Array Slot), (0 ≤ k ∧ k ≤ ps) → (∀ j, 0 ≤ j → j < k → pl + j < sz ∧ T (pl + j) = pt j) → ((ps - k).toNat) < nn → lv_has ls 3 [(0, .ref (d 0)), (1, .int (zI pl)), (2, .int (zI k))] → W p l e (headSpec wsX3_begins ({ frames := 0, cells := 0, slots := 0, locals := 0 })).room s m ([.ref (d 0), .int (zI pl)] : List Value).toArray below meth c s.heap [] 0 0 (MQ below (zQi (fun r => r = bi (zbg ps sz T pt pl))) ([.ref (d 0), .int (zI pl)] : List Value).toArray s 0 0 (fun _ => False)) (F0 m 2 ls []) := by
    intro nn
    induction nn with
    | zero =>
      intros
      exact absurd (by assumption : _ < 0) (Nat.not_lt_zero _)
    | succ nn ih2 =>
      intro k ls h0 hq hmu hl
      refine lv_iload_n hx hb dX3_begins_2 rfl (lv_at hl 2 rfl) ?_
      refine lv_aload_n hx hb dX3_begins_3 rfl (lv_at hl 0 rfl) ?_
      refine va_get (D := D) (ci := 3) (v := .int (zI ps)) (C := RX3) (T := TX3) (N := 13) hx hb hts inX3_begins_X3 hown hK.1 hP 0 rfl rfl 9 (by decide) (hts (.fieldLink RX3 57 "TextEndsModel" "patternSize" "I") (List.mem_of_getElem? (i := 1) rfl)) (fun _ h9 => h9) rfl dX3_begins_4 ?_
      refine z_icmp_ge (tgt := 45) hx hb dX3_begins_7 (by decide) (by omega) (by omega) (fun h_1 => ?_) (fun h_1 => ?_)
      · skip
        refine lv_iconst (v := zI 1) hx hb dX3_begins_45 (by first | rfl | decide) ?_
        exact W.zret (ty := .boolean) (v := zI 1) hx hb hr (znar_b2 (by first | exact Or.inl rfl | exact Or.inr rfl | exact bi_01 _ | with_reducible assumption | omega)) (fun t ht_ hW_ => ⟨1, rfl, zbg_t (fun j a b => hq j a (by omega)), ht_⟩) (fun q h => by cases h) dX3_begins_46
      · skip
        refine lv_iload_n hx hb dX3_begins_10 rfl (lv_at hl 1 rfl) ?_
        refine lv_iload_n hx hb dX3_begins_11 rfl (lv_at hl 2 rfl) ?_
        refine z_iadd hx hb dX3_begins_12 ?_
        refine lv_aload_n hx hb dX3_begins_13 rfl (lv_at hl 0 rfl) ?_
        refine va_get (D := D) (ci := 3) (v := .int (zI sz)) (C := RX3) (T := TX3) (N := 13) hx hb hts inX3_begins_X3 hown hK.1 hP 0 rfl rfl 4 (by decide) (hts (.fieldLink RX3 32 "TextEndsModel" "size" "I") (List.mem_of_getElem? (i := 2) rfl)) (fun _ h9 => h9) rfl dX3_begins_14 ?_
        refine z_icmp_ge (tgt := 37) hx hb dX3_begins_17 (by decide) (by omega) (by omega) (fun h_2 => ?_) (fun h_2 => ?_)
        · skip
          have c1 := h_2
          refine lv_iconst (v := zI 0) hx hb dX3_begins_37 (by first | rfl | decide) ?_
          exact W.zret (ty := .boolean) (v := zI 0) hx hb hr (znar_b2 (by first | exact Or.inl rfl | exact Or.inr rfl | exact bi_01 _ | with_reducible assumption | omega)) (fun t ht_ hW_ => ⟨0, rfl, by first | exact zbg_f (fun z => c2 (z k (by omega) (by omega)).2) | exact zbg_f (fun z => by have := (z k (by omega) (by omega)).1; omega), ht_⟩) (fun q h => by cases h) dX3_begins_38
        · skip
          have hk1 := hT (pl + k)
          have hk2 := hpt k
          refine lv_aload_n hx hb dX3_begins_20 rfl (lv_at hl 0 rfl) ?_
          refine va_get (D := D) (ci := 3) (v := .ref (d 1)) (C := RX3) (T := TX3) (N := 13) hx hb hts inX3_begins_X3 hown hK.1 hP 0 rfl rfl 3 (by decide) (hts (.fieldLink RX3 7 "TextEndsModel" "text" "[I") (List.mem_of_getElem? (i := 3) rfl)) (fun _ h9 => h9) rfl dX3_begins_21 ?_
          refine lv_iload_n hx hb dX3_begins_24 rfl (lv_at hl 1 rfl) ?_
          refine lv_iload_n hx hb dX3_begins_25 rfl (lv_at hl 2 rfl) ?_
          refine z_iadd hx hb dX3_begins_26 ?_
          refine z_iald hx hb hK.1 hP 1 0 rfl rfl dX3_begins_27 (by omega) (by omega) (by omega) ?_
          refine lv_aload_n hx hb dX3_begins_28 rfl (lv_at hl 0 rfl) ?_
          refine va_get (D := D) (ci := 3) (v := .ref (d 4)) (C := RX3) (T := TX3) (N := 13) hx hb hts inX3_begins_X3 hown hK.1 hP 0 rfl rfl 8 (by decide) (hts (.fieldLink RX3 19 "TextEndsModel" "pattern" "[I") (List.mem_of_getElem? (i := 4) rfl)) (fun _ h9 => h9) rfl dX3_begins_29 ?_
          refine lv_iload_n hx hb dX3_begins_32 rfl (lv_at hl 2 rfl) ?_
          refine z_iald hx hb hK.1 hP 2 0 rfl rfl dX3_begins_33 (by omega) (by omega) (by omega) ?_
          refine z_icmp_eq (tgt := 39) hx hb dX3_begins_34 (by decide) (by omega) (by omega) (fun h_3 => ?_) (fun h_3 => ?_)
          · skip
            refine lv_iinc (v := zI (k + 1)) (lv' := [(2, .int (zI (k + 1))), (0, .ref (d 0)), (1, .int (zI pl))]) hx hb dX3_begins_39 hl (k := 2) rfl (zI_add _ _) (by decide) rfl (fun ls hl => ?_)
            refine lv_goto (tgt := 2) hx hb dX3_begins_42 (by decide) ?_
            exact ih2 (k + 1) ls (by omega) (fun j a b => by rcases Int.lt_or_eq_of_le (show j ≤ k by omega) with q | q; exact hq j a q; rw [q]; exact ⟨by omega, by with_reducible assumption⟩) (by omega) (lv_sub hl [1, 2, 0] rfl)
          · skip
            have c2 := h_3
            refine lv_iconst (v := zI 0) hx hb dX3_begins_37 (by first | rfl | decide) ?_
            exact W.zret (ty := .boolean) (v := zI 0) hx hb hr (znar_b2 (by first | exact Or.inl rfl | exact Or.inr rfl | exact bi_01 _ | with_reducible assumption | omega)) (fun t ht_ hW_ => ⟨0, rfl, by first | exact zbg_f (fun z => c2 (z k (by omega) (by omega)).2) | exact zbg_f (fun z => by have := (z k (by omega) (by omega)).1; omega), ht_⟩) (fun q h => by cases h) dX3_begins_38
  exact loop2 _ 0 ls (by omega) (fun j a b => absurd b (by omega)) (Nat.lt_succ_self _) (lv_sub hl [1, 2, 0] rfl)
set_option maxHeartbeats 4000000 in
set_option maxRecDepth 100000 in
/-- search() -/
theorem kX3_search (l : Launch) (D : va_G) (cI cZ cL : ClassId) (d : Nat → Nat) (rm sg pr sz bt ps fi ht fo : Int) (nT nO nP : Nat) (T od pt : Int → Int) (szz : Nat) (hsz : 0 ≤ sz ∧ sz ≤ 1000000) (hsT : sz ≤ (nT : Int)) (bnT : (nT : Int) < 1073741824) (hT : zS T) (hbt : bt = 0 ∨ bt = 1) (hsO : sz ≤ (nO : Int)) (bnO : (nO : Int) < 1073741824) (hod : bt ≠ 0 → ∀ i, 0 ≤ i → i < sz → 0 ≤ od i ∧ od i < sz) (hps : 0 ≤ ps ∧ ps ≤ 1000000) (hpP : ps ≤ (nP : Int)) (bnP : (nP : Int) < 1073741824) (hpt : zS pt) : Met l yX3_search wsX3_search ({ frames := 1, cells := 0, slots := 0, locals := 22 }) (zPw D cI cZ cL szz [.ref (d 0)] [(d 0, .inr (3, mo d rm sg pr sz bt ps fi ht fo)), (d 1, .inl (cI, nT, .inl (zA T))), (d 2, .inl (cI, nO, .inl (zA od))), (d 4, .inl (cI, nP, .inl (zA pt)))]) (zQwi D (va_A [(d 0, .inr (3, mo d rm sg pr sz bt ps fi ht fo)), (d 1, .inl (cI, nT, .inl (zA T))), (d 2, .inl (cI, nO, .inl (zA od))), (d 4, .inl (cI, nP, .inl (zA pt)))] szz) (fun (r : Int) (_ : Unit) => r = (if bt = 0 then -1 else (zit (stH ps sz T pt od) sz.toNat (fi, 0)).2) ∧ True) (fun _ : Unit => [(d 0, .inr (3, mo d rm sg pr sz bt ps (if bt = 0 then fi else (zit (stH ps sz T pt od) sz.toNat (fi, 0)).1) (if bt = 0 then ht else (zit (stH ps sz T pt od) sz.toNat (fi, 0)).2) bt)), (d 1, .inl (cI, nT, .inl (zA T))), (d 2, .inl (cI, nO, .inl (zA od))), (d 4, .inl (cI, nP, .inl (zA pt)))])) 0 0 (va_A [(d 0, .inr (3, mo d rm sg pr sz bt ps fi ht fo)), (d 1, .inl (cI, nT, .inl (zA T))), (d 2, .inl (cI, nO, .inl (zA od))), (d 4, .inl (cI, nP, .inl (zA pt)))] szz) := by
  refine Met.ofW (cc := cX3_search) (maxL := 2) (ret := (some .int)) (by decide) rfl ?_
  intro p e s m args below meth c s₁ B hml hv
  obtain ⟨rfl, hsz, hP, hK, hD0⟩ := hv
  have hx := B.exec
  have hb := B.bytes
  have hr := B.returns
  have hts := atoms_spec (ws := wsX3_search) B.pre
  have hown : s.vm.findClass RX3 = some m.cls := findClass_of_methodNamed B.named
  have hlocks := B.notSynchronized
  subst hsz
  have hD := hD0.self (sz := s.heap.size)
  generalize hAe : va_A [(d 0, .inr (3, mo d rm sg pr sz bt ps fi ht fo)), (d 1, .inl (cI, nT, .inl (zA T))), (d 2, .inl (cI, nO, .inl (zA od))), (d 4, .inl (cI, nP, .inl (zA pt)))] s.heap.size = A at hD ⊢
  have hA : ∀ q : Nat, s.heap.size ≤ q → A q := fun q h => by rw [← hAe]; exact Or.inr h
  have hS : va_S A s.heap s.heap [] := va_S.rf
  clear hD0
  have hP : va_P D vwCl [(d 0, .inr (3, mo d rm sg pr sz bt ps fi ht fo)), (d 1, .inl (cI, nT, .inl (zA T))), (d 2, .inl (cI, nO, .inl (zA od))), (d 4, .inl (cI, nP, .inl (zA pt)))] s.heap := hP
  have hl := lv_entry ([.ref (d 0)]) (n := 2) (Nat.le_of_ble_eq_true rfl)
  rw [lg_entry_eq]
  generalize (lg_sl ([.ref (d 0)]) ++ List.replicate (2 - (lg_sl ([.ref (d 0)])).length) Slot.unset).toArray = ls at hl ⊢
  have hl : lv_has ls 2 [(0, .ref (d 0))] := hl
  refine lv_aload_n hx hb dX3_search_0 rfl (lv_at hl 0 rfl) ?_
  refine lv_aload_n hx hb dX3_search_1 rfl (lv_at hl 0 rfl) ?_
  refine va_get (D := D) (ci := 3) (v := .int (zI bt)) (C := RX3) (T := TX3) (N := 13) hx hb hts inX3_search_X3 hown hK.1 hP 0 rfl rfl 5 (by decide) (hts (.fieldLink RX3 35 "TextEndsModel" "built" "Z") (List.mem_of_getElem? (i := 1) rfl)) (fun _ h9 => h9) rfl dX3_search_2 ?_
  refine va_put (D := D) (ci := 3) (v := .int (zI bt)) (ty := .boolean) (C := RX3) (T := TX3) (N := 13) hx hb hts inX3_search_X3 tyX3 tyX3_ok nmX3 hown hK.1 hP hD hS 0 rfl rfl 12 (by decide) (hts (.fieldLink RX3 39 "TextEndsModel" "found" "Z") (List.mem_of_getElem? (i := 2) rfl)) (fun _ h9 => h9) rfl (by decide +kernel) (znar_b2 (hbt)) (zfit_b (hbt)) (Nat.le_of_ble_eq_true rfl) dX3_search_5 (fun H locs hP hD hS => ?_)
  have hP : va_P D vwCl [(d 0, .inr (3, mo d rm sg pr sz bt ps fi ht bt)), (d 1, .inl (cI, nT, .inl (zA T))), (d 2, .inl (cI, nO, .inl (zA od))), (d 4, .inl (cI, nP, .inl (zA pt)))] H := hP
  have hD : va_D A [(d 0, .inr (3, mo d rm sg pr sz bt ps fi ht bt)), (d 1, .inl (cI, nT, .inl (zA T))), (d 2, .inl (cI, nO, .inl (zA od))), (d 4, .inl (cI, nP, .inl (zA pt)))] := hD
  refine lv_aload_n hx hb dX3_search_8 rfl (lv_at hl 0 rfl) ?_
  refine va_get (D := D) (ci := 3) (v := .int (zI bt)) (C := RX3) (T := TX3) (N := 13) hx hb hts inX3_search_X3 hown hK.1 hP 0 rfl rfl 5 (by decide) (hts (.fieldLink RX3 35 "TextEndsModel" "built" "Z") (List.mem_of_getElem? (i := 1) rfl)) (fun _ h9 => h9) rfl dX3_search_9 ?_
  refine z_if_ne (tgt := 17) hx hb dX3_search_12 (by decide) (by omega) (fun h_1 => ?_) (fun h_1 => ?_)
  · skip
    have hz := h_1
    refine lv_aload_n hx hb dX3_search_17 rfl (lv_at hl 0 rfl) ?_
    refine lv_iconst (v := zI 0) hx hb dX3_search_18 (by first | rfl | decide) ?_
    refine va_put (D := D) (ci := 3) (v := .int (zI 0)) (ty := .int) (C := RX3) (T := TX3) (N := 13) hx hb hts inX3_search_X3 tyX3 tyX3_ok nmX3 hown hK.1 hP hD hS 0 rfl rfl 11 (by decide) (hts (.fieldLink RX3 60 "TextEndsModel" "hits" "I") (List.mem_of_getElem? (i := 3) rfl)) (fun _ h9 => h9) rfl (by decide +kernel) rfl rfl (Nat.le_of_ble_eq_true rfl) dX3_search_19 (fun H locs hP hD hS => ?_)
    have hP : va_P D vwCl [(d 0, .inr (3, mo d rm sg pr sz bt ps fi 0 bt)), (d 1, .inl (cI, nT, .inl (zA T))), (d 2, .inl (cI, nO, .inl (zA od))), (d 4, .inl (cI, nP, .inl (zA pt)))] H := hP
    have hD : va_D A [(d 0, .inr (3, mo d rm sg pr sz bt ps fi 0 bt)), (d 1, .inl (cI, nT, .inl (zA T))), (d 2, .inl (cI, nO, .inl (zA od))), (d 4, .inl (cI, nP, .inl (zA pt)))] := hD
    refine lv_aload_n hx hb dX3_search_22 rfl (lv_at hl 0 rfl) ?_
    refine va_get (D := D) (ci := 3) (v := .int (zI sz)) (C := RX3) (T := TX3) (N := 13) hx hb hts inX3_search_X3 hown hK.1 hP 0 rfl rfl 4 (by decide) (hts (.fieldLink RX3 32 "TextEndsModel" "size" "I") (List.mem_of_getElem? (i := 4) rfl)) (fun _ h9 => h9) rfl dX3_search_23 ?_
    refine lv_iconst (v := zI 1) hx hb dX3_search_26 (by first | rfl | decide) ?_
    refine z_isub hx hb dX3_search_27 ?_
    refine lv_istore_n (lv' := [(1, .int (zI (sz - 1))), (0, .ref (d 0))]) hx hb dX3_search_28 rfl hl (by decide) rfl (fun ls hl => ?_)
    have loop29 : ∀ (nn : Nat) (i : Int) (fiq : Int) (htq : Int) (H : Heap) (locs : List Loc) (ls : Array Slot), (-1 ≤ i) → (i ≤ sz - 1) → ((fiq, htq) = zit (stH ps sz T pt od) (sz - 1 - i).toNat (fi, 0)) → ((i + 1).toNat) < nn → va_P D vwCl [(d 0, .inr (3, mo d rm sg pr sz bt ps fiq htq bt)), (d 1, .inl (cI, nT, .inl (zA T))), (d 2, .inl (cI, nO, .inl (zA od))), (d 4, .inl (cI, nP, .inl (zA pt)))] H → va_D A [(d 0, .inr (3, mo d rm sg pr sz bt ps fiq htq bt)), (d 1, .inl (cI, nT, .inl (zA T))), (d 2, .inl (cI, nO, .inl (zA od))), (d 4, .inl (cI, nP, .inl (zA pt)))] → va_S A s.heap H locs → lv_has ls 2 [(0, .ref (d 0)), (1, .int (zI i))] → W p l e (headSpec wsX3_search ({ frames := 1, cells := 0, slots := 0, locals := 22 })).room s m ([.ref (d 0)] : List Value).toArray below meth c H locs 0 0 (MQ below (zQwi D A (fun (r : Int) (_ : Unit) => r = (if bt = 0 then -1 else (zit (stH ps sz T pt od) sz.toNat (fi, 0)).2) ∧ True) (fun _ : Unit => [(d 0, .inr (3, mo d rm sg pr sz bt ps (if bt = 0 then fi else (zit (stH ps sz T pt od) sz.toNat (fi, 0)).1) (if bt = 0 then ht else (zit (stH ps sz T pt od) sz.toNat (fi, 0)).2) bt)), (d 1, .inl (cI, nT, .inl (zA T))), (d 2, .inl (cI, nO, .inl (zA od))), (d 4, .inl (cI, nP, .inl (zA pt)))])) ([.ref (d 0)] : List Value).toArray s 0 0 A) (F0 m 29 ls []) := by
      intro nn
      induction nn with
      | zero =>
        intros
        exact absurd (by assumption : _ < 0) (Nat.not_lt_zero _)
      | succ nn ih29 =>
        intro i fiq htq H locs ls h0 h1 hq hmu hP hD hS hl
        refine lv_iload_n hx hb dX3_search_29 rfl (lv_at hl 1 rfl) ?_
        refine z_if_lt (tgt := 67) hx hb dX3_search_30 (by decide) (by omega) (fun h_2 => ?_) (fun h_2 => ?_)
        · skip
          rw [show sz - 1 - i = sz by omega] at hq
          have e1 : fiq = (zit (stH ps sz T pt od) sz.toNat (fi, 0)).1 := congrArg (fun z => z.1) hq
          have e2 : htq = (zit (stH ps sz T pt od) sz.toNat (fi, 0)).2 := congrArg (fun z => z.2) hq
          have hP : va_P D vwCl [(d 0, .inr (3, mo d rm sg pr sz bt ps (if bt = 0 then fi else (zit (stH ps sz T pt od) sz.toNat (fi, 0)).1) (if bt = 0 then ht else (zit (stH ps sz T pt od) sz.toNat (fi, 0)).2) bt)), (d 1, .inl (cI, nT, .inl (zA T))), (d 2, .inl (cI, nO, .inl (zA od))), (d 4, .inl (cI, nP, .inl (zA pt)))] H := by (simp only [if_neg hz, ← e1, ← e2]; exact hP)
          have hD : va_D A [(d 0, .inr (3, mo d rm sg pr sz bt ps (if bt = 0 then fi else (zit (stH ps sz T pt od) sz.toNat (fi, 0)).1) (if bt = 0 then ht else (zit (stH ps sz T pt od) sz.toNat (fi, 0)).2) bt)), (d 1, .inl (cI, nT, .inl (zA T))), (d 2, .inl (cI, nO, .inl (zA od))), (d 4, .inl (cI, nP, .inl (zA pt)))] := by (simp only [if_neg hz, ← e1, ← e2]; exact hD)
          refine lv_aload_n hx hb dX3_search_67 rfl (lv_at hl 0 rfl) ?_
          refine va_get (D := D) (ci := 3) (v := .int (zI (if bt = 0 then ht else (zit (stH ps sz T pt od) sz.toNat (fi, 0)).2))) (C := RX3) (T := TX3) (N := 13) hx hb hts inX3_search_X3 hown hK.1 hP 0 rfl rfl 11 (by decide) (hts (.fieldLink RX3 60 "TextEndsModel" "hits" "I") (List.mem_of_getElem? (i := 3) rfl)) (fun _ h9 => h9) rfl dX3_search_68 ?_
          exact W.iret (v := zI (if bt = 0 then ht else (zit (stH ps sz T pt od) sz.toNat (fi, 0)).2)) hx hb hr (fun t ht_ hW_ => ⟨⟨if bt = 0 then ht else (zit (stH ps sz T pt od) sz.toNat (fi, 0)).2, (), rfl, ⟨by rw [if_neg hz, if_neg hz], trivial⟩, by rw [ht_]; exact hP, hD⟩, hS.F ht_⟩) hS.2.2 dX3_search_71
        · skip
          have hk1 := hod hz i (by omega) (by omega)
          refine lv_aload_n hx hb dX3_search_33 rfl (lv_at hl 0 rfl) ?_
          refine lv_aload_n hx hb dX3_search_34 rfl (lv_at hl 0 rfl) ?_
          refine va_get (D := D) (ci := 3) (v := .ref (d 2)) (C := RX3) (T := TX3) (N := 13) hx hb hts inX3_search_X3 hown hK.1 hP 0 rfl rfl 6 (by decide) (hts (.fieldLink RX3 13 "TextEndsModel" "order" "[I") (List.mem_of_getElem? (i := 5) rfl)) (fun _ h9 => h9) rfl dX3_search_35 ?_
          refine lv_iload_n hx hb dX3_search_38 rfl (lv_at hl 1 rfl) ?_
          refine z_iald hx hb hK.1 hP 2 0 rfl rfl dX3_search_39 (by omega) (by omega) (by omega) ?_
          refine z_cr (va_runV (As := [.int (zI (od i))]) (rest := []) ⟨hx, hb, hml, hown, hts⟩ (kX3_begins l D cI cZ cL d rm sg pr sz bt ps fiq htq bt nT nP T pt (od i) (by omega) (by omega) (by omega) (hT) (by omega) (by omega) (by omega) (hpt) (by omega)) (cwV 1 hts gX3_search_X3_begins rfl rfl rfl (by decide +kernel) ⟨Nat.le_of_ble_eq_true rfl, Nat.le_of_ble_eq_true rfl⟩) (zPr_preV (ci := 3) (q0 := 0) hK (hP.sub (ws' := [(d 0, .inr (3, mo d rm sg pr sz bt ps fiq htq bt)), (d 1, .inl (cI, nT, .inl (zA T))), (d 4, .inl (cI, nP, .inl (zA pt)))]) [0, 1, 3] rfl) rfl rfl) rfl rfl hl.1 rfl (lv_room (Nat.le_of_ble_eq_true rfl)) dX3_search_40 ⟨Nat.zero_le _, Nat.zero_le _⟩) (fun r hr_ => ?_)
          subst hr_
          refine z_if_eq (tgt := 61) hx hb dX3_search_43 (by decide) (bi_R _) (fun h_3 => ?_) (fun h_3 => ?_)
          · skip
            refine lv_iinc (v := zI (i + (-1))) (lv' := [(1, .int (zI (i + (-1)))), (0, .ref (d 0))]) hx hb dX3_search_61 hl (k := 1) rfl (zI_add _ _) (by decide) rfl (fun ls hl => ?_)
            refine lv_goto (tgt := 29) hx hb dX3_search_64 (by decide) ?_
            exact ih29 (i + (-1)) fiq htq _ _ ls (by omega) (by omega) (by first | exact stH_t hq h1 (bi_ne (by with_reducible assumption)) | exact stH_f hq h1 (bi_eq (by with_reducible assumption))) (by omega) (hP) (hD) hS (lv_sub hl [1, 0] rfl)
          · skip
            refine lv_aload_n hx hb dX3_search_46 rfl (lv_at hl 0 rfl) ?_
            refine lv_iload_n hx hb dX3_search_47 rfl (lv_at hl 1 rfl) ?_
            refine va_put (D := D) (ci := 3) (v := .int (zI i)) (ty := .int) (C := RX3) (T := TX3) (N := 13) hx hb hts inX3_search_X3 tyX3 tyX3_ok nmX3 hown hK.1 hP hD hS 0 rfl rfl 10 (by decide) (hts (.fieldLink RX3 66 "TextEndsModel" "first" "I") (List.mem_of_getElem? (i := 6) rfl)) (fun _ h9 => h9) rfl (by decide +kernel) rfl rfl (Nat.le_of_ble_eq_true rfl) dX3_search_48 (fun H locs hP hD hS => ?_)
            have hP : va_P D vwCl [(d 0, .inr (3, mo d rm sg pr sz bt ps i htq bt)), (d 1, .inl (cI, nT, .inl (zA T))), (d 2, .inl (cI, nO, .inl (zA od))), (d 4, .inl (cI, nP, .inl (zA pt)))] H := hP
            have hD : va_D A [(d 0, .inr (3, mo d rm sg pr sz bt ps i htq bt)), (d 1, .inl (cI, nT, .inl (zA T))), (d 2, .inl (cI, nO, .inl (zA od))), (d 4, .inl (cI, nP, .inl (zA pt)))] := hD
            refine lv_aload_n hx hb dX3_search_51 rfl (lv_at hl 0 rfl) ?_
            refine lv_dup hx hb dX3_search_52 rfl ?_
            refine va_get (D := D) (ci := 3) (v := .int (zI htq)) (C := RX3) (T := TX3) (N := 13) hx hb hts inX3_search_X3 hown hK.1 hP 0 rfl rfl 11 (by decide) (hts (.fieldLink RX3 60 "TextEndsModel" "hits" "I") (List.mem_of_getElem? (i := 3) rfl)) (fun _ h9 => h9) rfl dX3_search_53 ?_
            refine lv_iconst (v := zI 1) hx hb dX3_search_56 (by first | rfl | decide) ?_
            refine z_iadd hx hb dX3_search_57 ?_
            refine va_put (D := D) (ci := 3) (v := .int (zI (htq + 1))) (ty := .int) (C := RX3) (T := TX3) (N := 13) hx hb hts inX3_search_X3 tyX3 tyX3_ok nmX3 hown hK.1 hP hD hS 0 rfl rfl 11 (by decide) (hts (.fieldLink RX3 60 "TextEndsModel" "hits" "I") (List.mem_of_getElem? (i := 3) rfl)) (fun _ h9 => h9) rfl (by decide +kernel) rfl rfl (Nat.le_of_ble_eq_true rfl) dX3_search_58 (fun H locs hP hD hS => ?_)
            have hP : va_P D vwCl [(d 0, .inr (3, mo d rm sg pr sz bt ps i (htq + 1) bt)), (d 1, .inl (cI, nT, .inl (zA T))), (d 2, .inl (cI, nO, .inl (zA od))), (d 4, .inl (cI, nP, .inl (zA pt)))] H := hP
            have hD : va_D A [(d 0, .inr (3, mo d rm sg pr sz bt ps i (htq + 1) bt)), (d 1, .inl (cI, nT, .inl (zA T))), (d 2, .inl (cI, nO, .inl (zA od))), (d 4, .inl (cI, nP, .inl (zA pt)))] := hD
            refine lv_iinc (v := zI (i + (-1))) (lv' := [(1, .int (zI (i + (-1)))), (0, .ref (d 0))]) hx hb dX3_search_61 hl (k := 1) rfl (zI_add _ _) (by decide) rfl (fun ls hl => ?_)
            refine lv_goto (tgt := 29) hx hb dX3_search_64 (by decide) ?_
            exact ih29 (i + (-1)) i (htq + 1) _ _ ls (by omega) (by omega) (by first | exact stH_t hq h1 (bi_ne (by with_reducible assumption)) | exact stH_f hq h1 (bi_eq (by with_reducible assumption))) (by omega) (hP) (hD) hS (lv_sub hl [1, 0] rfl)
    exact loop29 _ (sz - 1) fi 0 _ _ ls (by omega) (by omega) (by rw [show sz - 1 - (sz - 1) = 0 by omega]; rfl) (Nat.lt_succ_self _) hP hD hS (lv_sub hl [1, 0] rfl)
  · skip
    have hz := h_1
    refine lv_iconst (v := zI (-1)) hx hb dX3_search_15 (by first | rfl | decide) ?_
    have hP : va_P D vwCl [(d 0, .inr (3, mo d rm sg pr sz bt ps (if bt = 0 then fi else (zit (stH ps sz T pt od) sz.toNat (fi, 0)).1) (if bt = 0 then ht else (zit (stH ps sz T pt od) sz.toNat (fi, 0)).2) bt)), (d 1, .inl (cI, nT, .inl (zA T))), (d 2, .inl (cI, nO, .inl (zA od))), (d 4, .inl (cI, nP, .inl (zA pt)))] H := by (simp only [if_pos hz]; exact hP)
    have hD : va_D A [(d 0, .inr (3, mo d rm sg pr sz bt ps (if bt = 0 then fi else (zit (stH ps sz T pt od) sz.toNat (fi, 0)).1) (if bt = 0 then ht else (zit (stH ps sz T pt od) sz.toNat (fi, 0)).2) bt)), (d 1, .inl (cI, nT, .inl (zA T))), (d 2, .inl (cI, nO, .inl (zA od))), (d 4, .inl (cI, nP, .inl (zA pt)))] := by (simp only [if_pos hz]; exact hD)
    exact W.iret (v := zI (-1)) hx hb hr (fun t ht_ hW_ => ⟨⟨(-1), (), rfl, ⟨by rw [if_pos hz], trivial⟩, by rw [ht_]; exact hP, hD⟩, hS.F ht_⟩) hS.2.2 dX3_search_16
set_option maxHeartbeats 4000000 in
set_option maxRecDepth 100000 in
/-- hit(k) -/
theorem kX3_hit (l : Launch) (D : va_G) (cI cZ cL : ClassId) (d : Nat → Nat) (rm sg pr sz bt ps fi ht fo : Int) (nO : Nat) (od : Int → Int) (k : Int) (hfo : fo = 0 ∨ fo = 1) (hfi : fo ≠ 0 → 0 ≤ fi ∧ 0 ≤ ht ∧ fi + ht ≤ (nO : Int)) (hhr : zR ht) (bnO : (nO : Int) < 1073741824) (hk : zR k) : Met l yX3_hit wsX3_hit ({ frames := 0, cells := 0, slots := 0, locals := 0 }) (zPr D cI cZ cL [.ref (d 0), .int (zI k)] [(d 0, .inr (3, mo d rm sg pr sz bt ps fi ht fo)), (d 2, .inl (cI, nO, .inl (zA od)))]) (zQi (fun r => r = zhi fo ht od fi k)) 0 0 (fun _ => False) := by
  refine Met.ofW (cc := cX3_hit) (maxL := 2) (ret := (some .int)) (by decide) rfl ?_
  intro p e s m args below meth c s₁ B hml hv
  obtain ⟨rfl, hP, hK⟩ := hv
  have hx := B.exec
  have hb := B.bytes
  have hr := B.returns
  have hts := atoms_spec (ws := wsX3_hit) B.pre
  have hown : s.vm.findClass RX3 = some m.cls := findClass_of_methodNamed B.named
  have hlocks := B.notSynchronized
  have hP : va_P D vwCl [(d 0, .inr (3, mo d rm sg pr sz bt ps fi ht fo)), (d 2, .inl (cI, nO, .inl (zA od)))] s.heap := hP
  have hl := lv_entry ([.ref (d 0), .int (zI k)]) (n := 2) (Nat.le_of_ble_eq_true rfl)
  rw [lg_entry_eq]
  generalize (lg_sl ([.ref (d 0), .int (zI k)]) ++ List.replicate (2 - (lg_sl ([.ref (d 0), .int (zI k)])).length) Slot.unset).toArray = ls at hl ⊢
  have hl : lv_has ls 2 [(0, .ref (d 0)), (1, .int (zI k))] := hl
  refine lv_aload_n hx hb dX3_hit_0 rfl (lv_at hl 0 rfl) ?_
  refine va_get (D := D) (ci := 3) (v := .int (zI fo)) (C := RX3) (T := TX3) (N := 13) hx hb hts inX3_hit_X3 hown hK.1 hP 0 rfl rfl 12 (by decide) (hts (.fieldLink RX3 39 "TextEndsModel" "found" "Z") (List.mem_of_getElem? (i := 1) rfl)) (fun _ h9 => h9) rfl dX3_hit_1 ?_
  refine z_if_eq (tgt := 33) hx hb dX3_hit_4 (by decide) (by omega) (fun h_1 => ?_) (fun h_1 => ?_)
  · skip
    have c1 := h_1
    refine lv_iconst (v := zI (-1)) hx hb dX3_hit_33 (by first | rfl | decide) ?_
    exact W.iret (v := zI (-1)) hx hb hr (fun t ht_ hW_ => ⟨(-1), rfl, by show _ = zhi fo ht od fi k; unfold zhi; first | rw [if_pos ⟨by omega, by omega, by omega⟩] | rw [if_neg (by omega)], ht_⟩) (fun q h => by cases h) dX3_hit_34
  · skip
    have c1 := h_1
    have hf := hfi c1
    refine lv_iload_n hx hb dX3_hit_7 rfl (lv_at hl 1 rfl) ?_
    refine z_if_lt (tgt := 33) hx hb dX3_hit_8 (by decide) (by omega) (fun h_2 => ?_) (fun h_2 => ?_)
    · skip
      refine lv_iconst (v := zI (-1)) hx hb dX3_hit_33 (by first | rfl | decide) ?_
      exact W.iret (v := zI (-1)) hx hb hr (fun t ht_ hW_ => ⟨(-1), rfl, by show _ = zhi fo ht od fi k; unfold zhi; first | rw [if_pos ⟨by omega, by omega, by omega⟩] | rw [if_neg (by omega)], ht_⟩) (fun q h => by cases h) dX3_hit_34
    · skip
      refine lv_iload_n hx hb dX3_hit_11 rfl (lv_at hl 1 rfl) ?_
      refine lv_aload_n hx hb dX3_hit_12 rfl (lv_at hl 0 rfl) ?_
      refine va_get (D := D) (ci := 3) (v := .int (zI ht)) (C := RX3) (T := TX3) (N := 13) hx hb hts inX3_hit_X3 hown hK.1 hP 0 rfl rfl 11 (by decide) (hts (.fieldLink RX3 60 "TextEndsModel" "hits" "I") (List.mem_of_getElem? (i := 2) rfl)) (fun _ h9 => h9) rfl dX3_hit_13 ?_
      refine z_icmp_ge (tgt := 33) hx hb dX3_hit_16 (by decide) (by omega) (by omega) (fun h_3 => ?_) (fun h_3 => ?_)
      · skip
        refine lv_iconst (v := zI (-1)) hx hb dX3_hit_33 (by first | rfl | decide) ?_
        exact W.iret (v := zI (-1)) hx hb hr (fun t ht_ hW_ => ⟨(-1), rfl, by show _ = zhi fo ht od fi k; unfold zhi; first | rw [if_pos ⟨by omega, by omega, by omega⟩] | rw [if_neg (by omega)], ht_⟩) (fun q h => by cases h) dX3_hit_34
      · skip
        refine lv_aload_n hx hb dX3_hit_19 rfl (lv_at hl 0 rfl) ?_
        refine va_get (D := D) (ci := 3) (v := .ref (d 2)) (C := RX3) (T := TX3) (N := 13) hx hb hts inX3_hit_X3 hown hK.1 hP 0 rfl rfl 6 (by decide) (hts (.fieldLink RX3 13 "TextEndsModel" "order" "[I") (List.mem_of_getElem? (i := 3) rfl)) (fun _ h9 => h9) rfl dX3_hit_20 ?_
        refine lv_aload_n hx hb dX3_hit_23 rfl (lv_at hl 0 rfl) ?_
        refine va_get (D := D) (ci := 3) (v := .int (zI fi)) (C := RX3) (T := TX3) (N := 13) hx hb hts inX3_hit_X3 hown hK.1 hP 0 rfl rfl 10 (by decide) (hts (.fieldLink RX3 66 "TextEndsModel" "first" "I") (List.mem_of_getElem? (i := 4) rfl)) (fun _ h9 => h9) rfl dX3_hit_24 ?_
        refine lv_iload_n hx hb dX3_hit_27 rfl (lv_at hl 1 rfl) ?_
        refine z_iadd hx hb dX3_hit_28 ?_
        refine z_iald hx hb hK.1 hP 1 0 rfl rfl dX3_hit_29 (by omega) (by omega) (by omega) ?_
        refine lv_goto (tgt := 34) hx hb dX3_hit_30 (by decide) ?_
        exact W.iret (v := zI (od (fi + k))) hx hb hr (fun t ht_ hW_ => ⟨od (fi + k), rfl, by show _ = zhi fo ht od fi k; unfold zhi; first | rw [if_pos ⟨by omega, by omega, by omega⟩] | rw [if_neg (by omega)], ht_⟩) (fun q h => by cases h) dX3_hit_34
set_option maxHeartbeats 4000000 in
set_option maxRecDepth 100000 in
/-- repeated() -/
theorem kX3_repeated (l : Launch) (D : va_G) (cI cZ cL : ClassId) (d : Nat → Nat) (rm sg pr sz bt ps fi ht fo : Int) (nT nO : Nat) (T od : Int → Int) (hsz : 0 ≤ sz ∧ sz ≤ 1000000) (hsT : sz ≤ (nT : Int)) (bnT : (nT : Int) < 1073741824) (hT : zS T) (hbt : bt = 0 ∨ bt = 1) (hsO : sz ≤ (nO : Int)) (bnO : (nO : Int) < 1073741824) (hod : bt ≠ 0 → ∀ i, 0 ≤ i → i < sz → 0 ≤ od i ∧ od i < sz) : Met l yX3_repeated wsX3_repeated ({ frames := 1, cells := 0, slots := 0, locals := 23 }) (zPr D cI cZ cL [.ref (d 0)] [(d 0, .inr (3, mo d rm sg pr sz bt ps fi ht fo)), (d 1, .inl (cI, nT, .inl (zA T))), (d 2, .inl (cI, nO, .inl (zA od)))]) (zQi (fun r => r = zrp bt sz (zcc sz T od))) 0 0 (fun _ => False) := by
  refine Met.ofW (cc := cX3_repeated) (maxL := 4) (ret := (some .int)) (by decide) rfl ?_
  intro p e s m args below meth c s₁ B hml hv
  obtain ⟨rfl, hP, hK⟩ := hv
  have hx := B.exec
  have hb := B.bytes
  have hr := B.returns
  have hts := atoms_spec (ws := wsX3_repeated) B.pre
  have hown : s.vm.findClass RX3 = some m.cls := findClass_of_methodNamed B.named
  have hlocks := B.notSynchronized
  have hP : va_P D vwCl [(d 0, .inr (3, mo d rm sg pr sz bt ps fi ht fo)), (d 1, .inl (cI, nT, .inl (zA T))), (d 2, .inl (cI, nO, .inl (zA od)))] s.heap := hP
  have hl := lv_entry ([.ref (d 0)]) (n := 4) (Nat.le_of_ble_eq_true rfl)
  rw [lg_entry_eq]
  generalize (lg_sl ([.ref (d 0)]) ++ List.replicate (4 - (lg_sl ([.ref (d 0)])).length) Slot.unset).toArray = ls at hl ⊢
  have hl : lv_has ls 4 [(0, .ref (d 0))] := hl
  refine lv_aload_n hx hb dX3_repeated_0 rfl (lv_at hl 0 rfl) ?_
  refine va_get (D := D) (ci := 3) (v := .int (zI bt)) (C := RX3) (T := TX3) (N := 13) hx hb hts inX3_repeated_X3 hown hK.1 hP 0 rfl rfl 5 (by decide) (hts (.fieldLink RX3 35 "TextEndsModel" "built" "Z") (List.mem_of_getElem? (i := 1) rfl)) (fun _ h9 => h9) rfl dX3_repeated_1 ?_
  refine z_if_ne (tgt := 9) hx hb dX3_repeated_4 (by decide) (by omega) (fun h_1 => ?_) (fun h_1 => ?_)
  · skip
    have hz := h_1
    refine lv_iconst (v := zI 0) hx hb dX3_repeated_9 (by first | rfl | decide) ?_
    refine lv_istore_n (lv' := [(1, .int (zI 0)), (0, .ref (d 0))]) hx hb dX3_repeated_10 rfl hl (by decide) rfl (fun ls hl => ?_)
    refine lv_iconst (v := zI 1) hx hb dX3_repeated_11 (by first | rfl | decide) ?_
    refine lv_istore_n (lv' := [(2, .int (zI 1)), (1, .int (zI 0)), (0, .ref (d 0))]) hx hb dX3_repeated_12 rfl hl (by decide) rfl (fun ls hl => ?_)
    have loop13 : ∀ (nn : Nat) (k : Int) (mx : Int) (ls : Array Slot), (1 ≤ k ∧ (k ≤ sz ∨ k = 1)) → (0 ≤ mx ∧ mx ≤ sz) → (mx = zit (stM (zcc sz T od)) (k - 1).toNat 0) → ((sz - k).toNat) < nn → lv_has ls 4 [(0, .ref (d 0)), (1, .int (zI mx)), (2, .int (zI k))] → W p l e (headSpec wsX3_repeated ({ frames := 1, cells := 0, slots := 0, locals := 23 })).room s m ([.ref (d 0)] : List Value).toArray below meth c s.heap [] 0 0 (MQ below (zQi (fun r => r = zrp bt sz (zcc sz T od))) ([.ref (d 0)] : List Value).toArray s 0 0 (fun _ => False)) (F0 m 13 ls []) := by
      intro nn
      induction nn with
      | zero =>
        intros
        exact absurd (by assumption : _ < 0) (Nat.not_lt_zero _)
      | succ nn ih13 =>
        intro k mx ls h0 hm hq hmu hl
        refine lv_iload_n hx hb dX3_repeated_13 rfl (lv_at hl 2 rfl) ?_
        refine lv_aload_n hx hb dX3_repeated_14 rfl (lv_at hl 0 rfl) ?_
        refine va_get (D := D) (ci := 3) (v := .int (zI sz)) (C := RX3) (T := TX3) (N := 13) hx hb hts inX3_repeated_X3 hown hK.1 hP 0 rfl rfl 4 (by decide) (hts (.fieldLink RX3 32 "TextEndsModel" "size" "I") (List.mem_of_getElem? (i := 2) rfl)) (fun _ h9 => h9) rfl dX3_repeated_15 ?_
        refine z_icmp_ge (tgt := 57) hx hb dX3_repeated_18 (by decide) (by omega) (by omega) (fun h_2 => ?_) (fun h_2 => ?_)
        · skip
          refine lv_iload_n hx hb dX3_repeated_57 rfl (lv_at hl 1 rfl) ?_
          exact W.iret (v := zI mx) hx hb hr (fun t ht_ hW_ => ⟨mx, rfl, by show _ = zrp bt sz (zcc sz T od); unfold zrp zmx; rw [if_neg hz, hq]; first | rw [show k = sz by omega] | rw [show (k - 1).toNat = (sz - 1).toNat by omega], ht_⟩) (fun q h => by cases h) dX3_repeated_58
        · skip
          have hk1 := hod hz (k - 1) (by omega) (by omega)
          have hk2 := hod hz k (by omega) (by omega)
          have hk3 := zcm_le (len := sz) (T := T) (a := od (k - 1)) (b := od k) (k := 0) (by omega) (by omega)
          refine lv_aload_n hx hb dX3_repeated_21 rfl (lv_at hl 0 rfl) ?_
          refine lv_aload_n hx hb dX3_repeated_22 rfl (lv_at hl 0 rfl) ?_
          refine va_get (D := D) (ci := 3) (v := .ref (d 2)) (C := RX3) (T := TX3) (N := 13) hx hb hts inX3_repeated_X3 hown hK.1 hP 0 rfl rfl 6 (by decide) (hts (.fieldLink RX3 13 "TextEndsModel" "order" "[I") (List.mem_of_getElem? (i := 3) rfl)) (fun _ h9 => h9) rfl dX3_repeated_23 ?_
          refine lv_iload_n hx hb dX3_repeated_26 rfl (lv_at hl 2 rfl) ?_
          refine lv_iconst (v := zI 1) hx hb dX3_repeated_27 (by first | rfl | decide) ?_
          refine z_isub hx hb dX3_repeated_28 ?_
          refine z_iald hx hb hK.1 hP 2 0 rfl rfl dX3_repeated_29 (by omega) (by omega) (by omega) ?_
          refine lv_aload_n hx hb dX3_repeated_30 rfl (lv_at hl 0 rfl) ?_
          refine va_get (D := D) (ci := 3) (v := .ref (d 2)) (C := RX3) (T := TX3) (N := 13) hx hb hts inX3_repeated_X3 hown hK.1 hP 0 rfl rfl 6 (by decide) (hts (.fieldLink RX3 13 "TextEndsModel" "order" "[I") (List.mem_of_getElem? (i := 3) rfl)) (fun _ h9 => h9) rfl dX3_repeated_31 ?_
          refine lv_iload_n hx hb dX3_repeated_34 rfl (lv_at hl 2 rfl) ?_
          refine z_iald hx hb hK.1 hP 2 0 rfl rfl dX3_repeated_35 (by omega) (by omega) (by omega) ?_
          refine z_cr (va_runV (As := [.int (zI (od (k - 1))), .int (zI (od k))]) (rest := []) ⟨hx, hb, hml, hown, hts⟩ (kX3_commonOf l D cI cZ cL d rm sg pr sz bt ps fi ht fo nT T (od (k - 1)) (od k) (by omega) (by omega) (by omega) (hT) (by omega) (by omega)) (cwV 2 hts gX3_repeated_X3_commonOf rfl rfl rfl (by decide +kernel) ⟨Nat.le_of_ble_eq_true rfl, Nat.le_of_ble_eq_true rfl⟩) (zPr_preV (ci := 3) (q0 := 0) hK (hP.sub (ws' := [(d 0, .inr (3, mo d rm sg pr sz bt ps fi ht fo)), (d 1, .inl (cI, nT, .inl (zA T)))]) [0, 1] rfl) rfl rfl) rfl rfl hl.1 rfl (lv_room (Nat.le_of_ble_eq_true rfl)) dX3_repeated_36 ⟨Nat.zero_le _, Nat.zero_le _⟩) (fun r hr_ => ?_)
          subst hr_
          refine lv_istore_n (lv' := [(3, .int (zI (zcm sz T (od (k - 1)) (od k) 0))), (0, .ref (d 0)), (1, .int (zI mx)), (2, .int (zI k))]) hx hb dX3_repeated_39 rfl hl (by decide) rfl (fun ls hl => ?_)
          refine lv_iload_n hx hb dX3_repeated_40 rfl (lv_at hl 0 rfl) ?_
          refine lv_iload_n hx hb dX3_repeated_41 rfl (lv_at hl 2 rfl) ?_
          refine z_icmp_le (tgt := 49) hx hb dX3_repeated_42 (by decide) (by omega) (by omega) (fun h_3 => ?_) (fun h_3 => ?_)
          · skip
            refine lv_iload_n hx hb dX3_repeated_49 rfl (lv_at hl 2 rfl) ?_
            refine z_top (b := if mx < zcc sz T od k then zcc sz T od k else mx) (by first | rw [if_pos (by unfold zcc; omega)]; rfl | rw [if_neg (by unfold zcc; omega)]) ?_
            refine lv_istore_n (lv' := [(1, .int (zI (if mx < zcc sz T od k then zcc sz T od k else mx))), (3, .int (zI (zcm sz T (od (k - 1)) (od k) 0))), (0, .ref (d 0)), (2, .int (zI k))]) hx hb dX3_repeated_50 rfl hl (by decide) rfl (fun ls hl => ?_)
            refine lv_iinc (v := zI (k + 1)) (lv' := [(2, .int (zI (k + 1))), (1, .int (zI (if mx < zcc sz T od k then zcc sz T od k else mx))), (3, .int (zI (zcm sz T (od (k - 1)) (od k) 0))), (0, .ref (d 0))]) hx hb dX3_repeated_51 hl (k := 3) rfl (zI_add _ _) (by decide) rfl (fun ls hl => ?_)
            refine lv_goto (tgt := 13) hx hb dX3_repeated_54 (by decide) ?_
            exact ih13 (k + 1) (if mx < zcc sz T od k then zcc sz T od k else mx) ls (by omega) (by unfold zcc; split <;> omega) (stM_s hq h0.1) (by omega) (lv_sub hl [3, 1, 0] rfl)
          · skip
            refine lv_iload_n hx hb dX3_repeated_45 rfl (lv_at hl 0 rfl) ?_
            refine lv_goto (tgt := 50) hx hb dX3_repeated_46 (by decide) ?_
            refine z_top (b := if mx < zcc sz T od k then zcc sz T od k else mx) (by first | rw [if_pos (by unfold zcc; omega)]; rfl | rw [if_neg (by unfold zcc; omega)]) ?_
            refine lv_istore_n (lv' := [(1, .int (zI (if mx < zcc sz T od k then zcc sz T od k else mx))), (3, .int (zI (zcm sz T (od (k - 1)) (od k) 0))), (0, .ref (d 0)), (2, .int (zI k))]) hx hb dX3_repeated_50 rfl hl (by decide) rfl (fun ls hl => ?_)
            refine lv_iinc (v := zI (k + 1)) (lv' := [(2, .int (zI (k + 1))), (1, .int (zI (if mx < zcc sz T od k then zcc sz T od k else mx))), (3, .int (zI (zcm sz T (od (k - 1)) (od k) 0))), (0, .ref (d 0))]) hx hb dX3_repeated_51 hl (k := 3) rfl (zI_add _ _) (by decide) rfl (fun ls hl => ?_)
            refine lv_goto (tgt := 13) hx hb dX3_repeated_54 (by decide) ?_
            exact ih13 (k + 1) (if mx < zcc sz T od k then zcc sz T od k else mx) ls (by omega) (by unfold zcc; split <;> omega) (stM_s hq h0.1) (by omega) (lv_sub hl [3, 1, 0] rfl)
    exact loop13 _ 1 0 ls (by omega) (by omega) (rfl) (Nat.lt_succ_self _) (lv_sub hl [2, 1, 0] rfl)
  · skip
    have hz := h_1
    refine lv_iconst (v := zI (-1)) hx hb dX3_repeated_7 (by first | rfl | decide) ?_
    exact W.iret (v := zI (-1)) hx hb hr (fun t ht_ hW_ => ⟨(-1), rfl, by show _ = zrp bt sz (zcc sz T od); unfold zrp; rw [if_pos hz], ht_⟩) (fun q h => by cases h) dX3_repeated_8
set_option maxHeartbeats 4000000 in
set_option maxRecDepth 100000 in
/-- different() -/
theorem kX3_different (l : Launch) (D : va_G) (cI cZ cL : ClassId) (d : Nat → Nat) (rm sg pr sz bt ps fi ht fo : Int) (nT nO : Nat) (T od : Int → Int) (hsz : 0 ≤ sz ∧ sz ≤ 1000000) (hsT : sz ≤ (nT : Int)) (bnT : (nT : Int) < 1073741824) (hT : zS T) (hbt : bt = 0 ∨ bt = 1) (hsO : sz ≤ (nO : Int)) (bnO : (nO : Int) < 1073741824) (hod : bt ≠ 0 → ∀ i, 0 ≤ i → i < sz → 0 ≤ od i ∧ od i < sz) : Met l yX3_different wsX3_different ({ frames := 1, cells := 0, slots := 0, locals := 23 }) (zPr D cI cZ cL [.ref (d 0)] [(d 0, .inr (3, mo d rm sg pr sz bt ps fi ht fo)), (d 1, .inl (cI, nT, .inl (zA T))), (d 2, .inl (cI, nO, .inl (zA od)))]) (zQi (fun r => r = zdf bt sz (fun i => sz - od i - (if i = 0 then 0 else zcc sz T od i)))) 0 0 (fun _ => False) := by
  refine Met.ofW (cc := cX3_different) (maxL := 3) (ret := (some .int)) (by decide) rfl ?_
  intro p e s m args below meth c s₁ B hml hv
  obtain ⟨rfl, hP, hK⟩ := hv
  have hx := B.exec
  have hb := B.bytes
  have hr := B.returns
  have hts := atoms_spec (ws := wsX3_different) B.pre
  have hown : s.vm.findClass RX3 = some m.cls := findClass_of_methodNamed B.named
  have hlocks := B.notSynchronized
  have hP : va_P D vwCl [(d 0, .inr (3, mo d rm sg pr sz bt ps fi ht fo)), (d 1, .inl (cI, nT, .inl (zA T))), (d 2, .inl (cI, nO, .inl (zA od)))] s.heap := hP
  have hl := lv_entry ([.ref (d 0)]) (n := 3) (Nat.le_of_ble_eq_true rfl)
  rw [lg_entry_eq]
  generalize (lg_sl ([.ref (d 0)]) ++ List.replicate (3 - (lg_sl ([.ref (d 0)])).length) Slot.unset).toArray = ls at hl ⊢
  have hl : lv_has ls 3 [(0, .ref (d 0))] := hl
  refine lv_aload_n hx hb dX3_different_0 rfl (lv_at hl 0 rfl) ?_
  refine va_get (D := D) (ci := 3) (v := .int (zI bt)) (C := RX3) (T := TX3) (N := 13) hx hb hts inX3_different_X3 hown hK.1 hP 0 rfl rfl 5 (by decide) (hts (.fieldLink RX3 35 "TextEndsModel" "built" "Z") (List.mem_of_getElem? (i := 1) rfl)) (fun _ h9 => h9) rfl dX3_different_1 ?_
  refine z_if_ne (tgt := 9) hx hb dX3_different_4 (by decide) (by omega) (fun h_1 => ?_) (fun h_1 => ?_)
  · skip
    have hz := h_1
    refine lv_iconst (v := zI 0) hx hb dX3_different_9 (by first | rfl | decide) ?_
    refine lv_istore_n (lv' := [(1, .int (zI 0)), (0, .ref (d 0))]) hx hb dX3_different_10 rfl hl (by decide) rfl (fun ls hl => ?_)
    refine lv_iconst (v := zI 0) hx hb dX3_different_11 (by first | rfl | decide) ?_
    refine lv_istore_n (lv' := [(2, .int (zI 0)), (1, .int (zI 0)), (0, .ref (d 0))]) hx hb dX3_different_12 rfl hl (by decide) rfl (fun ls hl => ?_)
    have loop13 : ∀ (nn : Nat) (k : Int) (mx : Int) (ls : Array Slot), (0 ≤ k ∧ k ≤ sz) → (mx = zit (stD (fun i => sz - od i - (if i = 0 then 0 else zcc sz T od i))) k.toNat 0) → ((sz - k).toNat) < nn → lv_has ls 3 [(0, .ref (d 0)), (1, .int (zI mx)), (2, .int (zI k))] → W p l e (headSpec wsX3_different ({ frames := 1, cells := 0, slots := 0, locals := 23 })).room s m ([.ref (d 0)] : List Value).toArray below meth c s.heap [] 0 0 (MQ below (zQi (fun r => r = zdf bt sz (fun i => sz - od i - (if i = 0 then 0 else zcc sz T od i)))) ([.ref (d 0)] : List Value).toArray s 0 0 (fun _ => False)) (F0 m 13 ls []) := by
      intro nn
      induction nn with
      | zero =>
        intros
        exact absurd (by assumption : _ < 0) (Nat.not_lt_zero _)
      | succ nn ih13 =>
        intro k mx ls h0 hq hmu hl
        refine lv_iload_n hx hb dX3_different_13 rfl (lv_at hl 2 rfl) ?_
        refine lv_aload_n hx hb dX3_different_14 rfl (lv_at hl 0 rfl) ?_
        refine va_get (D := D) (ci := 3) (v := .int (zI sz)) (C := RX3) (T := TX3) (N := 13) hx hb hts inX3_different_X3 hown hK.1 hP 0 rfl rfl 4 (by decide) (hts (.fieldLink RX3 32 "TextEndsModel" "size" "I") (List.mem_of_getElem? (i := 2) rfl)) (fun _ h9 => h9) rfl dX3_different_15 ?_
        refine z_icmp_ge (tgt := 68) hx hb dX3_different_18 (by decide) (by omega) (by omega) (fun h_2 => ?_) (fun h_2 => ?_)
        · skip
          refine lv_iload_n hx hb dX3_different_68 rfl (lv_at hl 1 rfl) ?_
          exact W.iret (v := zI mx) hx hb hr (fun t ht_ hW_ => ⟨mx, rfl, by show _ = zdf bt sz (fun i => sz - od i - (if i = 0 then 0 else zcc sz T od i)); unfold zdf; rw [if_neg hz, hq, show k = sz by omega], ht_⟩) (fun q h => by cases h) dX3_different_69
        · skip
          have hk2 := hod hz k (by omega) (by omega)
          refine lv_iload_n hx hb dX3_different_21 rfl (lv_at hl 1 rfl) ?_
          refine lv_aload_n hx hb dX3_different_22 rfl (lv_at hl 0 rfl) ?_
          refine va_get (D := D) (ci := 3) (v := .int (zI sz)) (C := RX3) (T := TX3) (N := 13) hx hb hts inX3_different_X3 hown hK.1 hP 0 rfl rfl 4 (by decide) (hts (.fieldLink RX3 32 "TextEndsModel" "size" "I") (List.mem_of_getElem? (i := 2) rfl)) (fun _ h9 => h9) rfl dX3_different_23 ?_
          refine z_iadd hx hb dX3_different_26 ?_
          refine lv_aload_n hx hb dX3_different_27 rfl (lv_at hl 0 rfl) ?_
          refine va_get (D := D) (ci := 3) (v := .ref (d 2)) (C := RX3) (T := TX3) (N := 13) hx hb hts inX3_different_X3 hown hK.1 hP 0 rfl rfl 6 (by decide) (hts (.fieldLink RX3 13 "TextEndsModel" "order" "[I") (List.mem_of_getElem? (i := 3) rfl)) (fun _ h9 => h9) rfl dX3_different_28 ?_
          refine lv_iload_n hx hb dX3_different_31 rfl (lv_at hl 2 rfl) ?_
          refine z_iald hx hb hK.1 hP 2 0 rfl rfl dX3_different_32 (by omega) (by omega) (by omega) ?_
          refine z_isub hx hb dX3_different_33 ?_
          refine lv_iload_n hx hb dX3_different_34 rfl (lv_at hl 2 rfl) ?_
          refine z_if_ne (tgt := 42) hx hb dX3_different_35 (by decide) (by omega) (fun h_3 => ?_) (fun h_3 => ?_)
          · skip
            have hn := h_3
            have hk1 := hod hz (k - 1) (by omega) (by omega)
            refine lv_aload_n hx hb dX3_different_42 rfl (lv_at hl 0 rfl) ?_
            refine lv_aload_n hx hb dX3_different_43 rfl (lv_at hl 0 rfl) ?_
            refine va_get (D := D) (ci := 3) (v := .ref (d 2)) (C := RX3) (T := TX3) (N := 13) hx hb hts inX3_different_X3 hown hK.1 hP 0 rfl rfl 6 (by decide) (hts (.fieldLink RX3 13 "TextEndsModel" "order" "[I") (List.mem_of_getElem? (i := 3) rfl)) (fun _ h9 => h9) rfl dX3_different_44 ?_
            refine lv_iload_n hx hb dX3_different_47 rfl (lv_at hl 2 rfl) ?_
            refine lv_iconst (v := zI 1) hx hb dX3_different_48 (by first | rfl | decide) ?_
            refine z_isub hx hb dX3_different_49 ?_
            refine z_iald hx hb hK.1 hP 2 0 rfl rfl dX3_different_50 (by omega) (by omega) (by omega) ?_
            refine lv_aload_n hx hb dX3_different_51 rfl (lv_at hl 0 rfl) ?_
            refine va_get (D := D) (ci := 3) (v := .ref (d 2)) (C := RX3) (T := TX3) (N := 13) hx hb hts inX3_different_X3 hown hK.1 hP 0 rfl rfl 6 (by decide) (hts (.fieldLink RX3 13 "TextEndsModel" "order" "[I") (List.mem_of_getElem? (i := 3) rfl)) (fun _ h9 => h9) rfl dX3_different_52 ?_
            refine lv_iload_n hx hb dX3_different_55 rfl (lv_at hl 2 rfl) ?_
            refine z_iald hx hb hK.1 hP 2 0 rfl rfl dX3_different_56 (by omega) (by omega) (by omega) ?_
            refine z_cr (va_runV (As := [.int (zI (od (k - 1))), .int (zI (od k))]) (rest := [.int (zI ((mx + sz) - (od k)))]) ⟨hx, hb, hml, hown, hts⟩ (kX3_commonOf l D cI cZ cL d rm sg pr sz bt ps fi ht fo nT T (od (k - 1)) (od k) (by omega) (by omega) (by omega) (hT) (by omega) (by omega)) (cwV 2 hts gX3_different_X3_commonOf rfl rfl rfl (by decide +kernel) ⟨Nat.le_of_ble_eq_true rfl, Nat.le_of_ble_eq_true rfl⟩) (zPr_preV (ci := 3) (q0 := 0) hK (hP.sub (ws' := [(d 0, .inr (3, mo d rm sg pr sz bt ps fi ht fo)), (d 1, .inl (cI, nT, .inl (zA T)))]) [0, 1] rfl) rfl rfl) rfl rfl hl.1 rfl (lv_room (Nat.le_of_ble_eq_true rfl)) dX3_different_57 ⟨Nat.zero_le _, Nat.zero_le _⟩) (fun r hr_ => ?_)
            subst hr_
            refine z_isub hx hb dX3_different_60 ?_
            refine z_top (b := mx + (sz - od k - (if k = 0 then 0 else zcc sz T od k))) (by first | (rw [if_pos hn]; omega) | (rw [if_neg hn]; unfold zcc; omega)) ?_
            refine lv_istore_n (lv' := [(1, .int (zI (mx + (sz - od k - (if k = 0 then 0 else zcc sz T od k))))), (0, .ref (d 0)), (2, .int (zI k))]) hx hb dX3_different_61 rfl hl (by decide) rfl (fun ls hl => ?_)
            refine lv_iinc (v := zI (k + 1)) (lv' := [(2, .int (zI (k + 1))), (1, .int (zI (mx + (sz - od k - (if k = 0 then 0 else zcc sz T od k))))), (0, .ref (d 0))]) hx hb dX3_different_62 hl (k := 2) rfl (zI_add _ _) (by decide) rfl (fun ls hl => ?_)
            refine lv_goto (tgt := 13) hx hb dX3_different_65 (by decide) ?_
            exact ih13 (k + 1) (mx + (sz - od k - (if k = 0 then 0 else zcc sz T od k))) ls (by omega) (stD_s hq h0.1 rfl) (by omega) (lv_sub hl [2, 1, 0] rfl)
          · skip
            have hn := h_3
            refine lv_iconst (v := zI 0) hx hb dX3_different_38 (by first | rfl | decide) ?_
            refine lv_goto (tgt := 60) hx hb dX3_different_39 (by decide) ?_
            refine z_isub hx hb dX3_different_60 ?_
            refine z_top (b := mx + (sz - od k - (if k = 0 then 0 else zcc sz T od k))) (by first | (rw [if_pos hn]; omega) | (rw [if_neg hn]; unfold zcc; omega)) ?_
            refine lv_istore_n (lv' := [(1, .int (zI (mx + (sz - od k - (if k = 0 then 0 else zcc sz T od k))))), (0, .ref (d 0)), (2, .int (zI k))]) hx hb dX3_different_61 rfl hl (by decide) rfl (fun ls hl => ?_)
            refine lv_iinc (v := zI (k + 1)) (lv' := [(2, .int (zI (k + 1))), (1, .int (zI (mx + (sz - od k - (if k = 0 then 0 else zcc sz T od k))))), (0, .ref (d 0))]) hx hb dX3_different_62 hl (k := 2) rfl (zI_add _ _) (by decide) rfl (fun ls hl => ?_)
            refine lv_goto (tgt := 13) hx hb dX3_different_65 (by decide) ?_
            exact ih13 (k + 1) (mx + (sz - od k - (if k = 0 then 0 else zcc sz T od k))) ls (by omega) (stD_s hq h0.1 rfl) (by omega) (lv_sub hl [2, 1, 0] rfl)
    exact loop13 _ 0 0 ls (by omega) (rfl) (Nat.lt_succ_self _) (lv_sub hl [2, 1, 0] rfl)
  · skip
    have hz := h_1
    refine lv_iconst (v := zI (-1)) hx hb dX3_different_7 (by first | rfl | decide) ?_
    exact W.iret (v := zI (-1)) hx hb hr (fun t ht_ hW_ => ⟨(-1), rfl, by show _ = zdf bt sz (fun i => sz - od i - (if i = 0 then 0 else zcc sz T od i)); unfold zdf; rw [if_pos hz], ht_⟩) (fun q h => by cases h) dX3_different_8
end
section
set_option maxRecDepth 20000 in
theorem inX2_isLetter_X2 : ∀ w ∈ wsX20, w ∈ wsX2_isLetter := by decide +kernel
set_option maxRecDepth 20000 in
theorem inX2_isEnd_X2 : ∀ w ∈ wsX20, w ∈ wsX2_isEnd := by decide +kernel
set_option maxRecDepth 20000 in
theorem inX2_forgetHits_X2 : ∀ w ∈ wsX20, w ∈ wsX2_forgetHits := by decide +kernel
set_option maxRecDepth 20000 in
theorem inX2_feed_X2 : ∀ w ∈ wsX20, w ∈ wsX2_feed := by decide +kernel
set_option maxRecDepth 20000 in
theorem inX2_patFeed_X2 : ∀ w ∈ wsX20, w ∈ wsX2_patFeed := by decide +kernel
set_option maxRecDepth 20000 in
theorem inX2_patClear_X2 : ∀ w ∈ wsX20, w ∈ wsX2_patClear := by decide +kernel
set_option maxRecDepth 20000 in
theorem inX2_clear_X2 : ∀ w ∈ wsX20, w ∈ wsX2_clear := by decide +kernel
set_option maxRecDepth 20000 in
theorem inX2_sa_X2 : ∀ w ∈ wsX20, w ∈ wsX2_sa := by decide +kernel
set_option maxRecDepth 20000 in
theorem inX2_rank_X2 : ∀ w ∈ wsX20, w ∈ wsX2_rank := by decide +kernel
set_option maxRecDepth 20000 in
theorem inX2_lcp_X2 : ∀ w ∈ wsX20, w ∈ wsX2_lcp := by decide +kernel
set_option maxRecDepth 20000 in
theorem inX2_alikeFrom_X2 : ∀ w ∈ wsX20, w ∈ wsX2_alikeFrom := by decide +kernel
set_option maxRecDepth 20000 in
theorem inX2_common_X2 : ∀ w ∈ wsX20, w ∈ wsX2_common := by decide +kernel
set_option maxHeartbeats 4000000 in
set_option maxRecDepth 100000 in
/-- nearest(asked, most) -/
theorem kX2_nearest (l : Launch) (D : va_G) (cI cZ cL : ClassId) (x y : Int) (hx1 : zR x) (hy1 : zR y) : Met l yX2_nearest wsX2_nearest ({ frames := 1, cells := 0, slots := 0, locals := 30 }) (zPr D cI cZ cL [.int (zI x), .int (zI y)] []) (zQi (fun r => r = zmax 1 (zmin x y))) 0 0 (fun _ => False) := by
  refine Met.ofW (cc := cX2_nearest) (maxL := 2) (ret := (some .int)) (by decide) rfl ?_
  intro p e s m args below meth c s₁ B hml hv
  obtain ⟨rfl, hP, hK⟩ := hv
  have hx := B.exec
  have hb := B.bytes
  have hr := B.returns
  have hts := atoms_spec (ws := wsX2_nearest) B.pre
  have hown : s.vm.findClass RX2 = some m.cls := findClass_of_methodNamed B.named
  have hlocks := B.notSynchronized
  have hP : va_P D vwCl [] s.heap := hP
  have hl := lv_entry ([.int (zI x), .int (zI y)]) (n := 2) (Nat.le_of_ble_eq_true rfl)
  rw [lg_entry_eq]
  generalize (lg_sl ([.int (zI x), .int (zI y)]) ++ List.replicate (2 - (lg_sl ([.int (zI x), .int (zI y)])).length) Slot.unset).toArray = ls at hl ⊢
  have hl : lv_has ls 2 [(0, .int (zI x)), (1, .int (zI y))] := hl
  refine lv_iconst (v := zI 1) hx hb dX2_nearest_0 (by first | rfl | decide) ?_
  refine lv_iload_n hx hb dX2_nearest_1 rfl (lv_at hl 0 rfl) ?_
  refine lv_iload_n hx hb dX2_nearest_2 rfl (lv_at hl 1 rfl) ?_
  refine va_mmin hx hb (hml.trans hl.1.symm) hown (hts (.methodLink RX2 109 Lib.Math.min.name) (List.mem_of_getElem? (i := 1) rfl)) (hts (.static Lib.Math.min.name) (List.mem_of_getElem? (i := 2) rfl)) (hts (.initialized "java/lang/Math") (List.mem_of_getElem? (i := 3) rfl)) (hts (.code Lib.Math.min.name Lib.Math.min.code 2 (some .int)) (List.mem_of_getElem? (i := 4) rfl)) (Nat.le_of_ble_eq_true rfl) (Nat.le_of_ble_eq_true rfl) (Nat.zero_le _) (Nat.zero_le _) dX2_nearest_3 ?_
  refine z_topx (b := zmin x y) (zmin_I (by omega) (by omega)) ?_
  refine va_mmax hx hb (hml.trans hl.1.symm) hown (hts (.methodLink RX2 114 Lib.Math.max.name) (List.mem_of_getElem? (i := 5) rfl)) (hts (.static Lib.Math.max.name) (List.mem_of_getElem? (i := 6) rfl)) (hts (.initialized "java/lang/Math") (List.mem_of_getElem? (i := 3) rfl)) (hts (.code Lib.Math.max.name Lib.Math.max.code 2 (some .int)) (List.mem_of_getElem? (i := 7) rfl)) (Nat.le_of_ble_eq_true rfl) (Nat.le_of_ble_eq_true rfl) (Nat.zero_le _) (Nat.zero_le _) dX2_nearest_6 ?_
  refine z_topx (b := zmax 1 (zmin x y)) (zmax_I (by omega) (by have := zmin_or (a := x) (b := y); omega)) ?_
  exact W.iret (v := zI (zmax 1 (zmin x y))) hx hb hr (fun t ht_ hW_ => ⟨zmax 1 (zmin x y), rfl, rfl, ht_⟩) (fun q h => by cases h) dX2_nearest_9
set_option maxHeartbeats 4000000 in
set_option maxRecDepth 100000 in
/-- isLetter(letter) -/
theorem kX2_isLetter (l : Launch) (D : va_G) (cI cZ cL : ClassId) (b a : Nat → Nat) (sg len pl bt fh ht : Int) (x : Int) (hsg : zR sg) (hx1 : zR x) : Met l yX2_isLetter wsX2_isLetter ({ frames := 0, cells := 0, slots := 0, locals := 0 }) (zPr D cI cZ cL [.ref (b 0), .int (zI x)] [(b 0, .inr (2, te b a sg len pl bt fh ht))]) (zQi (fun r => r = bi (decide (0 ≤ x) && decide (x < sg)))) 0 0 (fun _ => False) := by
  refine Met.ofW (cc := cX2_isLetter) (maxL := 2) (ret := (some .boolean)) (by decide) rfl ?_
  intro p e s m args below meth c s₁ B hml hv
  obtain ⟨rfl, hP, hK⟩ := hv
  have hx := B.exec
  have hb := B.bytes
  have hr := B.returns
  have hts := atoms_spec (ws := wsX2_isLetter) B.pre
  have hown : s.vm.findClass RX2 = some m.cls := findClass_of_methodNamed B.named
  have hlocks := B.notSynchronized
  have hP : va_P D vwCl [(b 0, .inr (2, te b a sg len pl bt fh ht))] s.heap := hP
  have hl := lv_entry ([.ref (b 0), .int (zI x)]) (n := 2) (Nat.le_of_ble_eq_true rfl)
  rw [lg_entry_eq]
  generalize (lg_sl ([.ref (b 0), .int (zI x)]) ++ List.replicate (2 - (lg_sl ([.ref (b 0), .int (zI x)])).length) Slot.unset).toArray = ls at hl ⊢
  have hl : lv_has ls 2 [(0, .ref (b 0)), (1, .int (zI x))] := hl
  refine lv_iload_n hx hb dX2_isLetter_0 rfl (lv_at hl 1 rfl) ?_
  refine z_if_lt (tgt := 16) hx hb dX2_isLetter_1 (by decide) (by omega) (fun h_1 => ?_) (fun h_1 => ?_)
  · skip
    refine lv_iconst (v := zI 0) hx hb dX2_isLetter_16 (by first | rfl | decide) ?_
    exact W.zret (ty := .boolean) (v := zI 0) hx hb hr (znar_b2 (by first | exact Or.inl rfl | exact Or.inr rfl | exact bi_01 _ | with_reducible assumption | omega)) (fun t ht_ hW_ => ⟨0, rfl, by first | (rw [decide_eq_true (show 0 ≤ x by omega), decide_eq_true (show x < sg by omega)]; rfl) | (rw [decide_eq_false (show ¬ 0 ≤ x by omega)]; rfl) | (rw [decide_eq_false (show ¬ x < sg by omega), Bool.and_false]; rfl), ht_⟩) (fun q h => by cases h) dX2_isLetter_17
  · skip
    refine lv_iload_n hx hb dX2_isLetter_4 rfl (lv_at hl 1 rfl) ?_
    refine lv_aload_n hx hb dX2_isLetter_5 rfl (lv_at hl 0 rfl) ?_
    refine va_get (D := D) (ci := 2) (v := .int (zI sg)) (C := RX2) (T := TX2) (N := 12) hx hb hts inX2_isLetter_X2 hown hK.1 hP 0 rfl rfl 0 (by decide) (hts (.fieldLink RX2 13 "TextEnds" "sigma" "I") (List.mem_of_getElem? (i := 1) rfl)) (fun _ h9 => h9) rfl dX2_isLetter_6 ?_
    refine z_icmp_ge (tgt := 16) hx hb dX2_isLetter_9 (by decide) (by omega) (by omega) (fun h_2 => ?_) (fun h_2 => ?_)
    · skip
      refine lv_iconst (v := zI 0) hx hb dX2_isLetter_16 (by first | rfl | decide) ?_
      exact W.zret (ty := .boolean) (v := zI 0) hx hb hr (znar_b2 (by first | exact Or.inl rfl | exact Or.inr rfl | exact bi_01 _ | with_reducible assumption | omega)) (fun t ht_ hW_ => ⟨0, rfl, by first | (rw [decide_eq_true (show 0 ≤ x by omega), decide_eq_true (show x < sg by omega)]; rfl) | (rw [decide_eq_false (show ¬ 0 ≤ x by omega)]; rfl) | (rw [decide_eq_false (show ¬ x < sg by omega), Bool.and_false]; rfl), ht_⟩) (fun q h => by cases h) dX2_isLetter_17
    · skip
      refine lv_iconst (v := zI 1) hx hb dX2_isLetter_12 (by first | rfl | decide) ?_
      refine lv_goto (tgt := 17) hx hb dX2_isLetter_13 (by decide) ?_
      exact W.zret (ty := .boolean) (v := zI 1) hx hb hr (znar_b2 (by first | exact Or.inl rfl | exact Or.inr rfl | exact bi_01 _ | with_reducible assumption | omega)) (fun t ht_ hW_ => ⟨1, rfl, by first | (rw [decide_eq_true (show 0 ≤ x by omega), decide_eq_true (show x < sg by omega)]; rfl) | (rw [decide_eq_false (show ¬ 0 ≤ x by omega)]; rfl) | (rw [decide_eq_false (show ¬ x < sg by omega), Bool.and_false]; rfl), ht_⟩) (fun q h => by cases h) dX2_isLetter_17
set_option maxHeartbeats 4000000 in
set_option maxRecDepth 100000 in
/-- isEnd(place) -/
theorem kX2_isEnd (l : Launch) (D : va_G) (cI cZ cL : ClassId) (b a : Nat → Nat) (sg len pl bt fh ht : Int) (k : Int) (hlen : 0 ≤ len ∧ len ≤ 1000000) (hbt : bt = 0 ∨ bt = 1) (hk : zR k) : Met l yX2_isEnd wsX2_isEnd ({ frames := 0, cells := 0, slots := 0, locals := 0 }) (zPr D cI cZ cL [.ref (b 0), .int (zI k)] [(b 0, .inr (2, te b a sg len pl bt fh ht))]) (zQi (fun r => r = bi (zie bt len k))) 0 0 (fun _ => False) := by
  refine Met.ofW (cc := cX2_isEnd) (maxL := 2) (ret := (some .boolean)) (by decide) rfl ?_
  intro p e s m args below meth c s₁ B hml hv
  obtain ⟨rfl, hP, hK⟩ := hv
  have hx := B.exec
  have hb := B.bytes
  have hr := B.returns
  have hts := atoms_spec (ws := wsX2_isEnd) B.pre
  have hown : s.vm.findClass RX2 = some m.cls := findClass_of_methodNamed B.named
  have hlocks := B.notSynchronized
  have hP : va_P D vwCl [(b 0, .inr (2, te b a sg len pl bt fh ht))] s.heap := hP
  have hl := lv_entry ([.ref (b 0), .int (zI k)]) (n := 2) (Nat.le_of_ble_eq_true rfl)
  rw [lg_entry_eq]
  generalize (lg_sl ([.ref (b 0), .int (zI k)]) ++ List.replicate (2 - (lg_sl ([.ref (b 0), .int (zI k)])).length) Slot.unset).toArray = ls at hl ⊢
  have hl : lv_has ls 2 [(0, .ref (b 0)), (1, .int (zI k))] := hl
  refine lv_aload_n hx hb dX2_isEnd_0 rfl (lv_at hl 0 rfl) ?_
  refine va_get (D := D) (ci := 2) (v := .int (zI bt)) (C := RX2) (T := TX2) (N := 12) hx hb hts inX2_isEnd_X2 hown hK.1 hP 0 rfl rfl 9 (by decide) (hts (.fieldLink RX2 51 "TextEnds" "built" "Z") (List.mem_of_getElem? (i := 1) rfl)) (fun _ h9 => h9) rfl dX2_isEnd_1 ?_
  refine z_if_eq (tgt := 23) hx hb dX2_isEnd_4 (by decide) (by omega) (fun h_1 => ?_) (fun h_1 => ?_)
  · skip
    refine lv_iconst (v := zI 0) hx hb dX2_isEnd_23 (by first | rfl | decide) ?_
    exact W.zret (ty := .boolean) (v := zI 0) hx hb hr (znar_b2 (by first | exact Or.inl rfl | exact Or.inr rfl | exact bi_01 _ | with_reducible assumption | omega)) (fun t ht_ hW_ => ⟨0, rfl, by first | exact zie_t (by with_reducible assumption) (by omega) (by omega) | exact zie_f (by omega), ht_⟩) (fun q h => by cases h) dX2_isEnd_24
  · skip
    refine lv_iload_n hx hb dX2_isEnd_7 rfl (lv_at hl 1 rfl) ?_
    refine z_if_lt (tgt := 23) hx hb dX2_isEnd_8 (by decide) (by omega) (fun h_2 => ?_) (fun h_2 => ?_)
    · skip
      refine lv_iconst (v := zI 0) hx hb dX2_isEnd_23 (by first | rfl | decide) ?_
      exact W.zret (ty := .boolean) (v := zI 0) hx hb hr (znar_b2 (by first | exact Or.inl rfl | exact Or.inr rfl | exact bi_01 _ | with_reducible assumption | omega)) (fun t ht_ hW_ => ⟨0, rfl, by first | exact zie_t (by with_reducible assumption) (by omega) (by omega) | exact zie_f (by omega), ht_⟩) (fun q h => by cases h) dX2_isEnd_24
    · skip
      refine lv_iload_n hx hb dX2_isEnd_11 rfl (lv_at hl 1 rfl) ?_
      refine lv_aload_n hx hb dX2_isEnd_12 rfl (lv_at hl 0 rfl) ?_
      refine va_get (D := D) (ci := 2) (v := .int (zI len)) (C := RX2) (T := TX2) (N := 12) hx hb hts inX2_isEnd_X2 hown hK.1 hP 0 rfl rfl 7 (by decide) (hts (.fieldLink RX2 48 "TextEnds" "length" "I") (List.mem_of_getElem? (i := 2) rfl)) (fun _ h9 => h9) rfl dX2_isEnd_13 ?_
      refine z_icmp_ge (tgt := 23) hx hb dX2_isEnd_16 (by decide) (by omega) (by omega) (fun h_3 => ?_) (fun h_3 => ?_)
      · skip
        refine lv_iconst (v := zI 0) hx hb dX2_isEnd_23 (by first | rfl | decide) ?_
        exact W.zret (ty := .boolean) (v := zI 0) hx hb hr (znar_b2 (by first | exact Or.inl rfl | exact Or.inr rfl | exact bi_01 _ | with_reducible assumption | omega)) (fun t ht_ hW_ => ⟨0, rfl, by first | exact zie_t (by with_reducible assumption) (by omega) (by omega) | exact zie_f (by omega), ht_⟩) (fun q h => by cases h) dX2_isEnd_24
      · skip
        refine lv_iconst (v := zI 1) hx hb dX2_isEnd_19 (by first | rfl | decide) ?_
        refine lv_goto (tgt := 24) hx hb dX2_isEnd_20 (by decide) ?_
        exact W.zret (ty := .boolean) (v := zI 1) hx hb hr (znar_b2 (by first | exact Or.inl rfl | exact Or.inr rfl | exact bi_01 _ | with_reducible assumption | omega)) (fun t ht_ hW_ => ⟨1, rfl, by first | exact zie_t (by with_reducible assumption) (by omega) (by omega) | exact zie_f (by omega), ht_⟩) (fun q h => by cases h) dX2_isEnd_24
set_option maxHeartbeats 4000000 in
set_option maxRecDepth 100000 in
/-- forgetHits() -/
theorem kX2_forgetHits (l : Launch) (D : va_G) (cI cZ cL : ClassId) (b a : Nat → Nat) (sg len pl bt fh ht : Int) (szz : Nat) : Met l yX2_forgetHits wsX2_forgetHits ({ frames := 0, cells := 0, slots := 0, locals := 0 }) (zPw D cI cZ cL szz [.ref (b 0)] [(b 0, .inr (2, te b a sg len pl bt fh ht))]) (zQw D (va_A [(b 0, .inr (2, te b a sg len pl bt fh ht))] szz) (fun _ : Unit => True) (fun _ : Unit => [(b 0, .inr (2, te b a sg len pl bt fh 0))])) 0 0 (va_A [(b 0, .inr (2, te b a sg len pl bt fh ht))] szz) := by
  refine Met.ofW (cc := cX2_forgetHits) (maxL := 1) (ret := none) (by decide) rfl ?_
  intro p e s m args below meth c s₁ B hml hv
  obtain ⟨rfl, hsz, hP, hK, hD0⟩ := hv
  have hx := B.exec
  have hb := B.bytes
  have hr := B.returns
  have hts := atoms_spec (ws := wsX2_forgetHits) B.pre
  have hown : s.vm.findClass RX2 = some m.cls := findClass_of_methodNamed B.named
  have hlocks := B.notSynchronized
  subst hsz
  have hD := hD0.self (sz := s.heap.size)
  generalize hAe : va_A [(b 0, .inr (2, te b a sg len pl bt fh ht))] s.heap.size = A at hD ⊢
  have hA : ∀ q : Nat, s.heap.size ≤ q → A q := fun q h => by rw [← hAe]; exact Or.inr h
  have hS : va_S A s.heap s.heap [] := va_S.rf
  clear hD0
  have hP : va_P D vwCl [(b 0, .inr (2, te b a sg len pl bt fh ht))] s.heap := hP
  have hl := lv_entry ([.ref (b 0)]) (n := 1) (Nat.le_of_ble_eq_true rfl)
  rw [lg_entry_eq]
  generalize (lg_sl ([.ref (b 0)]) ++ List.replicate (1 - (lg_sl ([.ref (b 0)])).length) Slot.unset).toArray = ls at hl ⊢
  have hl : lv_has ls 1 [(0, .ref (b 0))] := hl
  refine lv_aload_n hx hb dX2_forgetHits_0 rfl (lv_at hl 0 rfl) ?_
  refine lv_iconst (v := zI 0) hx hb dX2_forgetHits_1 (by first | rfl | decide) ?_
  refine va_put (D := D) (ci := 2) (v := .int (zI 0)) (ty := .int) (C := RX2) (T := TX2) (N := 12) hx hb hts inX2_forgetHits_X2 tyX2 tyX2_ok nmX2 hown hK.1 hP hD hS 0 rfl rfl 11 (by decide) (hts (.fieldLink RX2 92 "TextEnds" "hits" "I") (List.mem_of_getElem? (i := 1) rfl)) (fun _ h9 => h9) rfl (by decide +kernel) rfl rfl (Nat.le_of_ble_eq_true rfl) dX2_forgetHits_2 (fun H locs hP hD hS => ?_)
  have hP : va_P D vwCl [(b 0, .inr (2, te b a sg len pl bt fh 0))] H := hP
  have hD : va_D A [(b 0, .inr (2, te b a sg len pl bt fh 0))] := hD
  exact W.vret hx hb hr (fun t ht_ hW_ => ⟨⟨(), rfl, trivial, by rw [ht_]; exact hP, hD⟩, hS.F ht_⟩) hS.2.2 dX2_forgetHits_5
set_option maxHeartbeats 4000000 in
set_option maxRecDepth 100000 in
/-- feed(letter) -/
theorem kX2_feed (l : Launch) (D : va_G) (cI cZ cL : ClassId) (b a : Nat → Nat) (sg len pl bt fh ht : Int) (nT : Nat) (T : Int → Int) (x : Int) (szz : Nat) (hlen : 0 ≤ len ∧ len ≤ (nT : Int)) (hsg : zR sg) (bnT : (nT : Int) < 1073741824) (hx1 : zR x) : Met l yX2_feed wsX2_feed ({ frames := 1, cells := 0, slots := 0, locals := 21 }) (zPw D cI cZ cL szz [.ref (b 0), .int (zI x)] [(b 0, .inr (2, te b a sg len pl bt fh ht)), (b 1, .inl (cI, nT, .inl (zA T)))]) (zQwi D (va_A [(b 0, .inr (2, te b a sg len pl bt fh ht)), (b 1, .inl (cI, nT, .inl (zA T)))] szz) (fun (r : Int) (_ : Unit) => r = bi (fok sg (nT : Int) len x) ∧ True) (fun _ : Unit => [(b 0, .inr (2, te b a sg (if fok sg (nT : Int) len x = true then len + 1 else len) pl (if fok sg (nT : Int) len x = true then 0 else bt) fh (if fok sg (nT : Int) len x = true then 0 else ht))), (b 1, .inl (cI, nT, .inl (zA (if fok sg (nT : Int) len x = true then zup T len x else T))))])) 0 0 (va_A [(b 0, .inr (2, te b a sg len pl bt fh ht)), (b 1, .inl (cI, nT, .inl (zA T)))] szz) := by
  refine Met.ofW (cc := cX2_feed) (maxL := 2) (ret := (some .boolean)) (by decide) rfl ?_
  intro p e s m args below meth c s₁ B hml hv
  obtain ⟨rfl, hsz, hP, hK, hD0⟩ := hv
  have hx := B.exec
  have hb := B.bytes
  have hr := B.returns
  have hts := atoms_spec (ws := wsX2_feed) B.pre
  have hown : s.vm.findClass RX2 = some m.cls := findClass_of_methodNamed B.named
  have hlocks := B.notSynchronized
  subst hsz
  have hD := hD0.self (sz := s.heap.size)
  generalize hAe : va_A [(b 0, .inr (2, te b a sg len pl bt fh ht)), (b 1, .inl (cI, nT, .inl (zA T)))] s.heap.size = A at hD ⊢
  have hA : ∀ q : Nat, s.heap.size ≤ q → A q := fun q h => by rw [← hAe]; exact Or.inr h
  have hS : va_S A s.heap s.heap [] := va_S.rf
  clear hD0
  have hP : va_P D vwCl [(b 0, .inr (2, te b a sg len pl bt fh ht)), (b 1, .inl (cI, nT, .inl (zA T)))] s.heap := hP
  have hl := lv_entry ([.ref (b 0), .int (zI x)]) (n := 2) (Nat.le_of_ble_eq_true rfl)
  rw [lg_entry_eq]
  generalize (lg_sl ([.ref (b 0), .int (zI x)]) ++ List.replicate (2 - (lg_sl ([.ref (b 0), .int (zI x)])).length) Slot.unset).toArray = ls at hl ⊢
  have hl : lv_has ls 2 [(0, .ref (b 0)), (1, .int (zI x))] := hl
  refine lv_aload_n hx hb dX2_feed_0 rfl (lv_at hl 0 rfl) ?_
  refine lv_iload_n hx hb dX2_feed_1 rfl (lv_at hl 1 rfl) ?_
  refine z_cr (va_runV (As := [.int (zI x)]) (rest := []) ⟨hx, hb, hml, hown, hts⟩ (kX2_isLetter l D cI cZ cL b a sg len pl bt fh ht x (by omega) (by omega)) (cwV 1 hts gX2_feed_X2_isLetter rfl rfl rfl (by decide +kernel) ⟨Nat.le_of_ble_eq_true rfl, Nat.le_of_ble_eq_true rfl⟩) (zPr_preV (ci := 2) (q0 := 0) hK (hP.sub (ws' := [(b 0, .inr (2, te b a sg len pl bt fh ht))]) [0] rfl) rfl rfl) rfl rfl hl.1 rfl (lv_room (Nat.le_of_ble_eq_true rfl)) dX2_feed_2 ⟨Nat.zero_le _, Nat.zero_le _⟩) (fun r hr_ => ?_)
  subst hr_
  refine z_if_eq (tgt := 20) hx hb dX2_feed_5 (by decide) (bi_R _) (fun h_1 => ?_) (fun h_1 => ?_)
  · skip
    have hlx := bi_eq h_1
    refine lv_iconst (v := zI 0) hx hb dX2_feed_20 (by first | rfl | decide) ?_
    have hfk : fok sg (nT : Int) len x = false := by first | exact fok_f (by omega) | (have : ¬ (0 ≤ x ∧ x < sg) := (fun z => by simp [z.1, z.2] at hlx); exact fok_f (by omega))
    have hP : va_P D vwCl [(b 0, .inr (2, te b a sg (if fok sg (nT : Int) len x = true then len + 1 else len) pl (if fok sg (nT : Int) len x = true then 0 else bt) fh (if fok sg (nT : Int) len x = true then 0 else ht))), (b 1, .inl (cI, nT, .inl (zA (if fok sg (nT : Int) len x = true then zup T len x else T))))] s.heap := by (simp only [hfk, Bool.false_eq_true, if_false]; exact hP)
    have hD : va_D A [(b 0, .inr (2, te b a sg (if fok sg (nT : Int) len x = true then len + 1 else len) pl (if fok sg (nT : Int) len x = true then 0 else bt) fh (if fok sg (nT : Int) len x = true then 0 else ht))), (b 1, .inl (cI, nT, .inl (zA (if fok sg (nT : Int) len x = true then zup T len x else T))))] := by (simp only [hfk, Bool.false_eq_true, if_false]; exact hD)
    exact W.zret (ty := .boolean) (v := zI 0) hx hb hr (znar_b2 (by first | exact Or.inl rfl | exact Or.inr rfl | exact bi_01 _ | with_reducible assumption | omega)) (fun t ht_ hW_ => ⟨⟨0, (), rfl, ⟨by rw [hfk]; rfl, trivial⟩, by rw [ht_]; exact hP, hD⟩, hS.F ht_⟩) hS.2.2 dX2_feed_21
  · skip
    have hlx := bi_ne h_1
    have hlx1 : 0 ≤ x ∧ x < sg := by simpa using hlx
    refine lv_aload_n hx hb dX2_feed_8 rfl (lv_at hl 0 rfl) ?_
    refine va_get (D := D) (ci := 2) (v := .int (zI len)) (C := RX2) (T := TX2) (N := 12) hx hb hts inX2_feed_X2 hown hK.1 hP 0 rfl rfl 7 (by decide) (hts (.fieldLink RX2 48 "TextEnds" "length" "I") (List.mem_of_getElem? (i := 1) rfl)) (fun _ h9 => h9) rfl dX2_feed_9 ?_
    refine lv_aload_n hx hb dX2_feed_12 rfl (lv_at hl 0 rfl) ?_
    refine va_get (D := D) (ci := 2) (v := .ref (b 1)) (C := RX2) (T := TX2) (N := 12) hx hb hts inX2_feed_X2 hown hK.1 hP 0 rfl rfl 2 (by decide) (hts (.fieldLink RX2 30 "TextEnds" "text" "[I") (List.mem_of_getElem? (i := 2) rfl)) (fun _ h9 => h9) rfl dX2_feed_13 ?_
    refine z_alen hx hb hK.1 hP 1 0 rfl rfl dX2_feed_16 ?_
    refine z_icmp_lt (tgt := 22) hx hb dX2_feed_17 (by decide) (by omega) (by omega) (fun h_2 => ?_) (fun h_2 => ?_)
    · skip
      refine lv_aload_n hx hb dX2_feed_22 rfl (lv_at hl 0 rfl) ?_
      refine va_get (D := D) (ci := 2) (v := .ref (b 1)) (C := RX2) (T := TX2) (N := 12) hx hb hts inX2_feed_X2 hown hK.1 hP 0 rfl rfl 2 (by decide) (hts (.fieldLink RX2 30 "TextEnds" "text" "[I") (List.mem_of_getElem? (i := 2) rfl)) (fun _ h9 => h9) rfl dX2_feed_23 ?_
      refine lv_aload_n hx hb dX2_feed_26 rfl (lv_at hl 0 rfl) ?_
      refine va_get (D := D) (ci := 2) (v := .int (zI len)) (C := RX2) (T := TX2) (N := 12) hx hb hts inX2_feed_X2 hown hK.1 hP 0 rfl rfl 7 (by decide) (hts (.fieldLink RX2 48 "TextEnds" "length" "I") (List.mem_of_getElem? (i := 1) rfl)) (fun _ h9 => h9) rfl dX2_feed_27 ?_
      refine lv_iload_n hx hb dX2_feed_30 rfl (lv_at hl 1 rfl) ?_
      refine z_iast hx hb hK.1 hP hD hS 1 0 rfl rfl dX2_feed_31 (by omega) (by omega) (by omega) (fun H locs hP hD hS => ?_)
      have hP : va_P D vwCl [(b 0, .inr (2, te b a sg len pl bt fh ht)), (b 1, .inl (cI, nT, .inl (zA (zup T len x))))] H := hP
      have hD : va_D A [(b 0, .inr (2, te b a sg len pl bt fh ht)), (b 1, .inl (cI, nT, .inl (zA (zup T len x))))] := hD
      refine lv_aload_n hx hb dX2_feed_32 rfl (lv_at hl 0 rfl) ?_
      refine lv_dup hx hb dX2_feed_33 rfl ?_
      refine va_get (D := D) (ci := 2) (v := .int (zI len)) (C := RX2) (T := TX2) (N := 12) hx hb hts inX2_feed_X2 hown hK.1 hP 0 rfl rfl 7 (by decide) (hts (.fieldLink RX2 48 "TextEnds" "length" "I") (List.mem_of_getElem? (i := 1) rfl)) (fun _ h9 => h9) rfl dX2_feed_34 ?_
      refine lv_iconst (v := zI 1) hx hb dX2_feed_37 (by first | rfl | decide) ?_
      refine z_iadd hx hb dX2_feed_38 ?_
      refine va_put (D := D) (ci := 2) (v := .int (zI (len + 1))) (ty := .int) (C := RX2) (T := TX2) (N := 12) hx hb hts inX2_feed_X2 tyX2 tyX2_ok nmX2 hown hK.1 hP hD hS 0 rfl rfl 7 (by decide) (hts (.fieldLink RX2 48 "TextEnds" "length" "I") (List.mem_of_getElem? (i := 1) rfl)) (fun _ h9 => h9) rfl (by decide +kernel) rfl rfl (Nat.le_of_ble_eq_true rfl) dX2_feed_39 (fun H locs hP hD hS => ?_)
      have hP : va_P D vwCl [(b 0, .inr (2, te b a sg (len + 1) pl bt fh ht)), (b 1, .inl (cI, nT, .inl (zA (zup T len x))))] H := hP
      have hD : va_D A [(b 0, .inr (2, te b a sg (len + 1) pl bt fh ht)), (b 1, .inl (cI, nT, .inl (zA (zup T len x))))] := hD
      refine lv_aload_n hx hb dX2_feed_42 rfl (lv_at hl 0 rfl) ?_
      refine lv_iconst (v := zI 0) hx hb dX2_feed_43 (by first | rfl | decide) ?_
      refine va_put (D := D) (ci := 2) (v := .int (zI 0)) (ty := .boolean) (C := RX2) (T := TX2) (N := 12) hx hb hts inX2_feed_X2 tyX2 tyX2_ok nmX2 hown hK.1 hP hD hS 0 rfl rfl 9 (by decide) (hts (.fieldLink RX2 51 "TextEnds" "built" "Z") (List.mem_of_getElem? (i := 3) rfl)) (fun _ h9 => h9) rfl (by decide +kernel) (znar_b2 (by first | exact Or.inl rfl | exact Or.inr rfl | exact bi_01 _ | with_reducible assumption | omega)) (zfit_b (by first | exact Or.inl rfl | exact Or.inr rfl | exact bi_01 _ | with_reducible assumption | omega)) (Nat.le_of_ble_eq_true rfl) dX2_feed_44 (fun H locs hP hD hS => ?_)
      have hP : va_P D vwCl [(b 0, .inr (2, te b a sg (len + 1) pl 0 fh ht)), (b 1, .inl (cI, nT, .inl (zA (zup T len x))))] H := hP
      have hD : va_D A [(b 0, .inr (2, te b a sg (len + 1) pl 0 fh ht)), (b 1, .inl (cI, nT, .inl (zA (zup T len x))))] := hD
      refine lv_aload_n hx hb dX2_feed_47 rfl (lv_at hl 0 rfl) ?_
      refine z_cw (wc := [(b 0, .inr (2, te b a sg (len + 1) pl 0 fh ht))]) (wr := [(b 1, .inl (cI, nT, .inl (zA (zup T len x))))]) (Wt := (fun _ : Unit => [(b 0, .inr (2, te b a sg (len + 1) pl 0 fh 0)), (b 1, .inl (cI, nT, .inl (zA (zup T len x))))])) [0] [1] [1, 0] hP hD hS hA rfl rfl (by decide) (by decide) (by decide) (by decide) (fun _ => rfl) (fun _ => rfl) (fun hPc hDc => va_runV (As := []) (rest := []) ⟨hx, hb, hml, hown, hts⟩ (kX2_forgetHits l D cI cZ cL b a sg (len + 1) pl 0 fh ht _ ) (cwV 0 hts gX2_feed_X2_forgetHits rfl rfl rfl (by decide +kernel) ⟨Nat.le_of_ble_eq_true rfl, Nat.le_of_ble_eq_true rfl⟩) (zPw_preV (ci := 2) (q0 := 0) hK hPc hDc rfl rfl) rfl rfl hl.1 rfl (lv_room (Nat.le_of_ble_eq_true rfl)) dX2_feed_48 ⟨Nat.zero_le _, Nat.zero_le _⟩) rfl (fun u H locs hp_ hP hD hS => ?_)
      have hP : va_P D vwCl [(b 0, .inr (2, te b a sg (len + 1) pl 0 fh 0)), (b 1, .inl (cI, nT, .inl (zA (zup T len x))))] H := hP
      have hD : va_D A [(b 0, .inr (2, te b a sg (len + 1) pl 0 fh 0)), (b 1, .inl (cI, nT, .inl (zA (zup T len x))))] := hD
      refine lv_iconst (v := zI 1) hx hb dX2_feed_51 (by first | rfl | decide) ?_
      have hfk : fok sg (nT : Int) len x = true := fok_t (by omega) (by omega) (by omega)
      have hP : va_P D vwCl [(b 0, .inr (2, te b a sg (if fok sg (nT : Int) len x = true then len + 1 else len) pl (if fok sg (nT : Int) len x = true then 0 else bt) fh (if fok sg (nT : Int) len x = true then 0 else ht))), (b 1, .inl (cI, nT, .inl (zA (if fok sg (nT : Int) len x = true then zup T len x else T))))] H := by (simp only [hfk, if_true]; exact hP)
      have hD : va_D A [(b 0, .inr (2, te b a sg (if fok sg (nT : Int) len x = true then len + 1 else len) pl (if fok sg (nT : Int) len x = true then 0 else bt) fh (if fok sg (nT : Int) len x = true then 0 else ht))), (b 1, .inl (cI, nT, .inl (zA (if fok sg (nT : Int) len x = true then zup T len x else T))))] := by (simp only [hfk, if_true]; exact hD)
      exact W.zret (ty := .boolean) (v := zI 1) hx hb hr (znar_b2 (by first | exact Or.inl rfl | exact Or.inr rfl | exact bi_01 _ | with_reducible assumption | omega)) (fun t ht_ hW_ => ⟨⟨1, (), rfl, ⟨by rw [hfk]; rfl, trivial⟩, by rw [ht_]; exact hP, hD⟩, hS.F ht_⟩) hS.2.2 dX2_feed_52
    · skip
      refine lv_iconst (v := zI 0) hx hb dX2_feed_20 (by first | rfl | decide) ?_
      have hfk : fok sg (nT : Int) len x = false := by first | exact fok_f (by omega) | (have : ¬ (0 ≤ x ∧ x < sg) := (fun z => by simp [z.1, z.2] at hlx); exact fok_f (by omega))
      have hP : va_P D vwCl [(b 0, .inr (2, te b a sg (if fok sg (nT : Int) len x = true then len + 1 else len) pl (if fok sg (nT : Int) len x = true then 0 else bt) fh (if fok sg (nT : Int) len x = true then 0 else ht))), (b 1, .inl (cI, nT, .inl (zA (if fok sg (nT : Int) len x = true then zup T len x else T))))] s.heap := by (simp only [hfk, Bool.false_eq_true, if_false]; exact hP)
      have hD : va_D A [(b 0, .inr (2, te b a sg (if fok sg (nT : Int) len x = true then len + 1 else len) pl (if fok sg (nT : Int) len x = true then 0 else bt) fh (if fok sg (nT : Int) len x = true then 0 else ht))), (b 1, .inl (cI, nT, .inl (zA (if fok sg (nT : Int) len x = true then zup T len x else T))))] := by (simp only [hfk, Bool.false_eq_true, if_false]; exact hD)
      exact W.zret (ty := .boolean) (v := zI 0) hx hb hr (znar_b2 (by first | exact Or.inl rfl | exact Or.inr rfl | exact bi_01 _ | with_reducible assumption | omega)) (fun t ht_ hW_ => ⟨⟨0, (), rfl, ⟨by rw [hfk]; rfl, trivial⟩, by rw [ht_]; exact hP, hD⟩, hS.F ht_⟩) hS.2.2 dX2_feed_21
set_option maxHeartbeats 4000000 in
set_option maxRecDepth 100000 in
/-- patFeed(letter) -/
theorem kX2_patFeed (l : Launch) (D : va_G) (cI cZ cL : ClassId) (b a : Nat → Nat) (sg len pl bt fh ht : Int) (nP : Nat) (pt : Int → Int) (x : Int) (szz : Nat) (hpl : 0 ≤ pl ∧ pl ≤ (nP : Int)) (hsg : zR sg) (bnP : (nP : Int) < 1073741824) (hx1 : zR x) : Met l yX2_patFeed wsX2_patFeed ({ frames := 1, cells := 0, slots := 0, locals := 21 }) (zPw D cI cZ cL szz [.ref (b 0), .int (zI x)] [(b 0, .inr (2, te b a sg len pl bt fh ht)), (b 2, .inl (cI, nP, .inl (zA pt)))]) (zQwi D (va_A [(b 0, .inr (2, te b a sg len pl bt fh ht)), (b 2, .inl (cI, nP, .inl (zA pt)))] szz) (fun (r : Int) (_ : Unit) => r = bi (fok sg (nP : Int) pl x) ∧ True) (fun _ : Unit => [(b 0, .inr (2, te b a sg len (if fok sg (nP : Int) pl x = true then pl + 1 else pl) bt fh (if fok sg (nP : Int) pl x = true then 0 else ht))), (b 2, .inl (cI, nP, .inl (zA (if fok sg (nP : Int) pl x = true then zup pt pl x else pt))))])) 0 0 (va_A [(b 0, .inr (2, te b a sg len pl bt fh ht)), (b 2, .inl (cI, nP, .inl (zA pt)))] szz) := by
  refine Met.ofW (cc := cX2_patFeed) (maxL := 2) (ret := (some .boolean)) (by decide) rfl ?_
  intro p e s m args below meth c s₁ B hml hv
  obtain ⟨rfl, hsz, hP, hK, hD0⟩ := hv
  have hx := B.exec
  have hb := B.bytes
  have hr := B.returns
  have hts := atoms_spec (ws := wsX2_patFeed) B.pre
  have hown : s.vm.findClass RX2 = some m.cls := findClass_of_methodNamed B.named
  have hlocks := B.notSynchronized
  subst hsz
  have hD := hD0.self (sz := s.heap.size)
  generalize hAe : va_A [(b 0, .inr (2, te b a sg len pl bt fh ht)), (b 2, .inl (cI, nP, .inl (zA pt)))] s.heap.size = A at hD ⊢
  have hA : ∀ q : Nat, s.heap.size ≤ q → A q := fun q h => by rw [← hAe]; exact Or.inr h
  have hS : va_S A s.heap s.heap [] := va_S.rf
  clear hD0
  have hP : va_P D vwCl [(b 0, .inr (2, te b a sg len pl bt fh ht)), (b 2, .inl (cI, nP, .inl (zA pt)))] s.heap := hP
  have hl := lv_entry ([.ref (b 0), .int (zI x)]) (n := 2) (Nat.le_of_ble_eq_true rfl)
  rw [lg_entry_eq]
  generalize (lg_sl ([.ref (b 0), .int (zI x)]) ++ List.replicate (2 - (lg_sl ([.ref (b 0), .int (zI x)])).length) Slot.unset).toArray = ls at hl ⊢
  have hl : lv_has ls 2 [(0, .ref (b 0)), (1, .int (zI x))] := hl
  refine lv_aload_n hx hb dX2_patFeed_0 rfl (lv_at hl 0 rfl) ?_
  refine lv_iload_n hx hb dX2_patFeed_1 rfl (lv_at hl 1 rfl) ?_
  refine z_cr (va_runV (As := [.int (zI x)]) (rest := []) ⟨hx, hb, hml, hown, hts⟩ (kX2_isLetter l D cI cZ cL b a sg len pl bt fh ht x (by omega) (by omega)) (cwV 1 hts gX2_patFeed_X2_isLetter rfl rfl rfl (by decide +kernel) ⟨Nat.le_of_ble_eq_true rfl, Nat.le_of_ble_eq_true rfl⟩) (zPr_preV (ci := 2) (q0 := 0) hK (hP.sub (ws' := [(b 0, .inr (2, te b a sg len pl bt fh ht))]) [0] rfl) rfl rfl) rfl rfl hl.1 rfl (lv_room (Nat.le_of_ble_eq_true rfl)) dX2_patFeed_2 ⟨Nat.zero_le _, Nat.zero_le _⟩) (fun r hr_ => ?_)
  subst hr_
  refine z_if_eq (tgt := 20) hx hb dX2_patFeed_5 (by decide) (bi_R _) (fun h_1 => ?_) (fun h_1 => ?_)
  · skip
    have hlx := bi_eq h_1
    refine lv_iconst (v := zI 0) hx hb dX2_patFeed_20 (by first | rfl | decide) ?_
    have hfk : fok sg (nP : Int) pl x = false := by first | exact fok_f (by omega) | (have : ¬ (0 ≤ x ∧ x < sg) := (fun z => by simp [z.1, z.2] at hlx); exact fok_f (by omega))
    have hP : va_P D vwCl [(b 0, .inr (2, te b a sg len (if fok sg (nP : Int) pl x = true then pl + 1 else pl) bt fh (if fok sg (nP : Int) pl x = true then 0 else ht))), (b 2, .inl (cI, nP, .inl (zA (if fok sg (nP : Int) pl x = true then zup pt pl x else pt))))] s.heap := by (simp only [hfk, Bool.false_eq_true, if_false]; exact hP)
    have hD : va_D A [(b 0, .inr (2, te b a sg len (if fok sg (nP : Int) pl x = true then pl + 1 else pl) bt fh (if fok sg (nP : Int) pl x = true then 0 else ht))), (b 2, .inl (cI, nP, .inl (zA (if fok sg (nP : Int) pl x = true then zup pt pl x else pt))))] := by (simp only [hfk, Bool.false_eq_true, if_false]; exact hD)
    exact W.zret (ty := .boolean) (v := zI 0) hx hb hr (znar_b2 (by first | exact Or.inl rfl | exact Or.inr rfl | exact bi_01 _ | with_reducible assumption | omega)) (fun t ht_ hW_ => ⟨⟨0, (), rfl, ⟨by rw [hfk]; rfl, trivial⟩, by rw [ht_]; exact hP, hD⟩, hS.F ht_⟩) hS.2.2 dX2_patFeed_21
  · skip
    have hlx := bi_ne h_1
    have hlx1 : 0 ≤ x ∧ x < sg := by simpa using hlx
    refine lv_aload_n hx hb dX2_patFeed_8 rfl (lv_at hl 0 rfl) ?_
    refine va_get (D := D) (ci := 2) (v := .int (zI pl)) (C := RX2) (T := TX2) (N := 12) hx hb hts inX2_patFeed_X2 hown hK.1 hP 0 rfl rfl 8 (by decide) (hts (.fieldLink RX2 82 "TextEnds" "patternLength" "I") (List.mem_of_getElem? (i := 1) rfl)) (fun _ h9 => h9) rfl dX2_patFeed_9 ?_
    refine lv_aload_n hx hb dX2_patFeed_12 rfl (lv_at hl 0 rfl) ?_
    refine va_get (D := D) (ci := 2) (v := .ref (b 2)) (C := RX2) (T := TX2) (N := 12) hx hb hts inX2_patFeed_X2 hown hK.1 hP 0 rfl rfl 4 (by decide) (hts (.fieldLink RX2 35 "TextEnds" "pattern" "[I") (List.mem_of_getElem? (i := 2) rfl)) (fun _ h9 => h9) rfl dX2_patFeed_13 ?_
    refine z_alen hx hb hK.1 hP 1 0 rfl rfl dX2_patFeed_16 ?_
    refine z_icmp_lt (tgt := 22) hx hb dX2_patFeed_17 (by decide) (by omega) (by omega) (fun h_2 => ?_) (fun h_2 => ?_)
    · skip
      refine lv_aload_n hx hb dX2_patFeed_22 rfl (lv_at hl 0 rfl) ?_
      refine va_get (D := D) (ci := 2) (v := .ref (b 2)) (C := RX2) (T := TX2) (N := 12) hx hb hts inX2_patFeed_X2 hown hK.1 hP 0 rfl rfl 4 (by decide) (hts (.fieldLink RX2 35 "TextEnds" "pattern" "[I") (List.mem_of_getElem? (i := 2) rfl)) (fun _ h9 => h9) rfl dX2_patFeed_23 ?_
      refine lv_aload_n hx hb dX2_patFeed_26 rfl (lv_at hl 0 rfl) ?_
      refine va_get (D := D) (ci := 2) (v := .int (zI pl)) (C := RX2) (T := TX2) (N := 12) hx hb hts inX2_patFeed_X2 hown hK.1 hP 0 rfl rfl 8 (by decide) (hts (.fieldLink RX2 82 "TextEnds" "patternLength" "I") (List.mem_of_getElem? (i := 1) rfl)) (fun _ h9 => h9) rfl dX2_patFeed_27 ?_
      refine lv_iload_n hx hb dX2_patFeed_30 rfl (lv_at hl 1 rfl) ?_
      refine z_iast hx hb hK.1 hP hD hS 1 0 rfl rfl dX2_patFeed_31 (by omega) (by omega) (by omega) (fun H locs hP hD hS => ?_)
      have hP : va_P D vwCl [(b 0, .inr (2, te b a sg len pl bt fh ht)), (b 2, .inl (cI, nP, .inl (zA (zup pt pl x))))] H := hP
      have hD : va_D A [(b 0, .inr (2, te b a sg len pl bt fh ht)), (b 2, .inl (cI, nP, .inl (zA (zup pt pl x))))] := hD
      refine lv_aload_n hx hb dX2_patFeed_32 rfl (lv_at hl 0 rfl) ?_
      refine lv_dup hx hb dX2_patFeed_33 rfl ?_
      refine va_get (D := D) (ci := 2) (v := .int (zI pl)) (C := RX2) (T := TX2) (N := 12) hx hb hts inX2_patFeed_X2 hown hK.1 hP 0 rfl rfl 8 (by decide) (hts (.fieldLink RX2 82 "TextEnds" "patternLength" "I") (List.mem_of_getElem? (i := 1) rfl)) (fun _ h9 => h9) rfl dX2_patFeed_34 ?_
      refine lv_iconst (v := zI 1) hx hb dX2_patFeed_37 (by first | rfl | decide) ?_
      refine z_iadd hx hb dX2_patFeed_38 ?_
      refine va_put (D := D) (ci := 2) (v := .int (zI (pl + 1))) (ty := .int) (C := RX2) (T := TX2) (N := 12) hx hb hts inX2_patFeed_X2 tyX2 tyX2_ok nmX2 hown hK.1 hP hD hS 0 rfl rfl 8 (by decide) (hts (.fieldLink RX2 82 "TextEnds" "patternLength" "I") (List.mem_of_getElem? (i := 1) rfl)) (fun _ h9 => h9) rfl (by decide +kernel) rfl rfl (Nat.le_of_ble_eq_true rfl) dX2_patFeed_39 (fun H locs hP hD hS => ?_)
      have hP : va_P D vwCl [(b 0, .inr (2, te b a sg len (pl + 1) bt fh ht)), (b 2, .inl (cI, nP, .inl (zA (zup pt pl x))))] H := hP
      have hD : va_D A [(b 0, .inr (2, te b a sg len (pl + 1) bt fh ht)), (b 2, .inl (cI, nP, .inl (zA (zup pt pl x))))] := hD
      refine lv_aload_n hx hb dX2_patFeed_42 rfl (lv_at hl 0 rfl) ?_
      refine z_cw (wc := [(b 0, .inr (2, te b a sg len (pl + 1) bt fh ht))]) (wr := [(b 2, .inl (cI, nP, .inl (zA (zup pt pl x))))]) (Wt := (fun _ : Unit => [(b 0, .inr (2, te b a sg len (pl + 1) bt fh 0)), (b 2, .inl (cI, nP, .inl (zA (zup pt pl x))))])) [0] [1] [1, 0] hP hD hS hA rfl rfl (by decide) (by decide) (by decide) (by decide) (fun _ => rfl) (fun _ => rfl) (fun hPc hDc => va_runV (As := []) (rest := []) ⟨hx, hb, hml, hown, hts⟩ (kX2_forgetHits l D cI cZ cL b a sg len (pl + 1) bt fh ht _ ) (cwV 0 hts gX2_patFeed_X2_forgetHits rfl rfl rfl (by decide +kernel) ⟨Nat.le_of_ble_eq_true rfl, Nat.le_of_ble_eq_true rfl⟩) (zPw_preV (ci := 2) (q0 := 0) hK hPc hDc rfl rfl) rfl rfl hl.1 rfl (lv_room (Nat.le_of_ble_eq_true rfl)) dX2_patFeed_43 ⟨Nat.zero_le _, Nat.zero_le _⟩) rfl (fun u H locs hp_ hP hD hS => ?_)
      have hP : va_P D vwCl [(b 0, .inr (2, te b a sg len (pl + 1) bt fh 0)), (b 2, .inl (cI, nP, .inl (zA (zup pt pl x))))] H := hP
      have hD : va_D A [(b 0, .inr (2, te b a sg len (pl + 1) bt fh 0)), (b 2, .inl (cI, nP, .inl (zA (zup pt pl x))))] := hD
      refine lv_iconst (v := zI 1) hx hb dX2_patFeed_46 (by first | rfl | decide) ?_
      have hfk : fok sg (nP : Int) pl x = true := fok_t (by omega) (by omega) (by omega)
      have hP : va_P D vwCl [(b 0, .inr (2, te b a sg len (if fok sg (nP : Int) pl x = true then pl + 1 else pl) bt fh (if fok sg (nP : Int) pl x = true then 0 else ht))), (b 2, .inl (cI, nP, .inl (zA (if fok sg (nP : Int) pl x = true then zup pt pl x else pt))))] H := by (simp only [hfk, if_true]; exact hP)
      have hD : va_D A [(b 0, .inr (2, te b a sg len (if fok sg (nP : Int) pl x = true then pl + 1 else pl) bt fh (if fok sg (nP : Int) pl x = true then 0 else ht))), (b 2, .inl (cI, nP, .inl (zA (if fok sg (nP : Int) pl x = true then zup pt pl x else pt))))] := by (simp only [hfk, if_true]; exact hD)
      exact W.zret (ty := .boolean) (v := zI 1) hx hb hr (znar_b2 (by first | exact Or.inl rfl | exact Or.inr rfl | exact bi_01 _ | with_reducible assumption | omega)) (fun t ht_ hW_ => ⟨⟨1, (), rfl, ⟨by rw [hfk]; rfl, trivial⟩, by rw [ht_]; exact hP, hD⟩, hS.F ht_⟩) hS.2.2 dX2_patFeed_47
    · skip
      refine lv_iconst (v := zI 0) hx hb dX2_patFeed_20 (by first | rfl | decide) ?_
      have hfk : fok sg (nP : Int) pl x = false := by first | exact fok_f (by omega) | (have : ¬ (0 ≤ x ∧ x < sg) := (fun z => by simp [z.1, z.2] at hlx); exact fok_f (by omega))
      have hP : va_P D vwCl [(b 0, .inr (2, te b a sg len (if fok sg (nP : Int) pl x = true then pl + 1 else pl) bt fh (if fok sg (nP : Int) pl x = true then 0 else ht))), (b 2, .inl (cI, nP, .inl (zA (if fok sg (nP : Int) pl x = true then zup pt pl x else pt))))] s.heap := by (simp only [hfk, Bool.false_eq_true, if_false]; exact hP)
      have hD : va_D A [(b 0, .inr (2, te b a sg len (if fok sg (nP : Int) pl x = true then pl + 1 else pl) bt fh (if fok sg (nP : Int) pl x = true then 0 else ht))), (b 2, .inl (cI, nP, .inl (zA (if fok sg (nP : Int) pl x = true then zup pt pl x else pt))))] := by (simp only [hfk, Bool.false_eq_true, if_false]; exact hD)
      exact W.zret (ty := .boolean) (v := zI 0) hx hb hr (znar_b2 (by first | exact Or.inl rfl | exact Or.inr rfl | exact bi_01 _ | with_reducible assumption | omega)) (fun t ht_ hW_ => ⟨⟨0, (), rfl, ⟨by rw [hfk]; rfl, trivial⟩, by rw [ht_]; exact hP, hD⟩, hS.F ht_⟩) hS.2.2 dX2_patFeed_21
set_option maxHeartbeats 4000000 in
set_option maxRecDepth 100000 in
/-- patClear() -/
theorem kX2_patClear (l : Launch) (D : va_G) (cI cZ cL : ClassId) (b a : Nat → Nat) (sg len pl bt fh ht : Int) (szz : Nat) : Met l yX2_patClear wsX2_patClear ({ frames := 1, cells := 0, slots := 0, locals := 20 }) (zPw D cI cZ cL szz [.ref (b 0)] [(b 0, .inr (2, te b a sg len pl bt fh ht))]) (zQw D (va_A [(b 0, .inr (2, te b a sg len pl bt fh ht))] szz) (fun _ : Unit => True) (fun _ : Unit => [(b 0, .inr (2, te b a sg len 0 bt fh 0))])) 0 0 (va_A [(b 0, .inr (2, te b a sg len pl bt fh ht))] szz) := by
  refine Met.ofW (cc := cX2_patClear) (maxL := 1) (ret := none) (by decide) rfl ?_
  intro p e s m args below meth c s₁ B hml hv
  obtain ⟨rfl, hsz, hP, hK, hD0⟩ := hv
  have hx := B.exec
  have hb := B.bytes
  have hr := B.returns
  have hts := atoms_spec (ws := wsX2_patClear) B.pre
  have hown : s.vm.findClass RX2 = some m.cls := findClass_of_methodNamed B.named
  have hlocks := B.notSynchronized
  subst hsz
  have hD := hD0.self (sz := s.heap.size)
  generalize hAe : va_A [(b 0, .inr (2, te b a sg len pl bt fh ht))] s.heap.size = A at hD ⊢
  have hA : ∀ q : Nat, s.heap.size ≤ q → A q := fun q h => by rw [← hAe]; exact Or.inr h
  have hS : va_S A s.heap s.heap [] := va_S.rf
  clear hD0
  have hP : va_P D vwCl [(b 0, .inr (2, te b a sg len pl bt fh ht))] s.heap := hP
  have hl := lv_entry ([.ref (b 0)]) (n := 1) (Nat.le_of_ble_eq_true rfl)
  rw [lg_entry_eq]
  generalize (lg_sl ([.ref (b 0)]) ++ List.replicate (1 - (lg_sl ([.ref (b 0)])).length) Slot.unset).toArray = ls at hl ⊢
  have hl : lv_has ls 1 [(0, .ref (b 0))] := hl
  refine lv_aload_n hx hb dX2_patClear_0 rfl (lv_at hl 0 rfl) ?_
  refine lv_iconst (v := zI 0) hx hb dX2_patClear_1 (by first | rfl | decide) ?_
  refine va_put (D := D) (ci := 2) (v := .int (zI 0)) (ty := .int) (C := RX2) (T := TX2) (N := 12) hx hb hts inX2_patClear_X2 tyX2 tyX2_ok nmX2 hown hK.1 hP hD hS 0 rfl rfl 8 (by decide) (hts (.fieldLink RX2 82 "TextEnds" "patternLength" "I") (List.mem_of_getElem? (i := 1) rfl)) (fun _ h9 => h9) rfl (by decide +kernel) rfl rfl (Nat.le_of_ble_eq_true rfl) dX2_patClear_2 (fun H locs hP hD hS => ?_)
  have hP : va_P D vwCl [(b 0, .inr (2, te b a sg len 0 bt fh ht))] H := hP
  have hD : va_D A [(b 0, .inr (2, te b a sg len 0 bt fh ht))] := hD
  refine lv_aload_n hx hb dX2_patClear_5 rfl (lv_at hl 0 rfl) ?_
  refine z_cw (wc := [(b 0, .inr (2, te b a sg len 0 bt fh ht))]) (wr := []) (Wt := (fun _ : Unit => [(b 0, .inr (2, te b a sg len 0 bt fh 0))])) [0] [] [0] hP hD hS hA rfl rfl (by decide) (by decide) (by decide) (by decide) (fun _ => rfl) (fun _ => rfl) (fun hPc hDc => va_runV (As := []) (rest := []) ⟨hx, hb, hml, hown, hts⟩ (kX2_forgetHits l D cI cZ cL b a sg len 0 bt fh ht _ ) (cwV 0 hts gX2_patClear_X2_forgetHits rfl rfl rfl (by decide +kernel) ⟨Nat.le_of_ble_eq_true rfl, Nat.le_of_ble_eq_true rfl⟩) (zPw_preV (ci := 2) (q0 := 0) hK hPc hDc rfl rfl) rfl rfl hl.1 rfl (lv_room (Nat.le_of_ble_eq_true rfl)) dX2_patClear_6 ⟨Nat.zero_le _, Nat.zero_le _⟩) rfl (fun u H locs hp_ hP hD hS => ?_)
  have hP : va_P D vwCl [(b 0, .inr (2, te b a sg len 0 bt fh 0))] H := hP
  have hD : va_D A [(b 0, .inr (2, te b a sg len 0 bt fh 0))] := hD
  exact W.vret hx hb hr (fun t ht_ hW_ => ⟨⟨(), rfl, trivial, by rw [ht_]; exact hP, hD⟩, hS.F ht_⟩) hS.2.2 dX2_patClear_9
set_option maxHeartbeats 4000000 in
set_option maxRecDepth 100000 in
/-- clear() -/
theorem kX2_clear (l : Launch) (D : va_G) (cI cZ cL : ClassId) (b a : Nat → Nat) (sg len pl bt fh ht : Int) (szz : Nat) : Met l yX2_clear wsX2_clear ({ frames := 2, cells := 0, slots := 0, locals := 40 }) (zPw D cI cZ cL szz [.ref (b 0)] [(b 0, .inr (2, te b a sg len pl bt fh ht))]) (zQw D (va_A [(b 0, .inr (2, te b a sg len pl bt fh ht))] szz) (fun _ : Unit => True) (fun _ : Unit => [(b 0, .inr (2, te b a sg 0 0 0 fh 0))])) 0 0 (va_A [(b 0, .inr (2, te b a sg len pl bt fh ht))] szz) := by
  refine Met.ofW (cc := cX2_clear) (maxL := 1) (ret := none) (by decide) rfl ?_
  intro p e s m args below meth c s₁ B hml hv
  obtain ⟨rfl, hsz, hP, hK, hD0⟩ := hv
  have hx := B.exec
  have hb := B.bytes
  have hr := B.returns
  have hts := atoms_spec (ws := wsX2_clear) B.pre
  have hown : s.vm.findClass RX2 = some m.cls := findClass_of_methodNamed B.named
  have hlocks := B.notSynchronized
  subst hsz
  have hD := hD0.self (sz := s.heap.size)
  generalize hAe : va_A [(b 0, .inr (2, te b a sg len pl bt fh ht))] s.heap.size = A at hD ⊢
  have hA : ∀ q : Nat, s.heap.size ≤ q → A q := fun q h => by rw [← hAe]; exact Or.inr h
  have hS : va_S A s.heap s.heap [] := va_S.rf
  clear hD0
  have hP : va_P D vwCl [(b 0, .inr (2, te b a sg len pl bt fh ht))] s.heap := hP
  have hl := lv_entry ([.ref (b 0)]) (n := 1) (Nat.le_of_ble_eq_true rfl)
  rw [lg_entry_eq]
  generalize (lg_sl ([.ref (b 0)]) ++ List.replicate (1 - (lg_sl ([.ref (b 0)])).length) Slot.unset).toArray = ls at hl ⊢
  have hl : lv_has ls 1 [(0, .ref (b 0))] := hl
  refine lv_aload_n hx hb dX2_clear_0 rfl (lv_at hl 0 rfl) ?_
  refine lv_iconst (v := zI 0) hx hb dX2_clear_1 (by first | rfl | decide) ?_
  refine va_put (D := D) (ci := 2) (v := .int (zI 0)) (ty := .int) (C := RX2) (T := TX2) (N := 12) hx hb hts inX2_clear_X2 tyX2 tyX2_ok nmX2 hown hK.1 hP hD hS 0 rfl rfl 7 (by decide) (hts (.fieldLink RX2 48 "TextEnds" "length" "I") (List.mem_of_getElem? (i := 1) rfl)) (fun _ h9 => h9) rfl (by decide +kernel) rfl rfl (Nat.le_of_ble_eq_true rfl) dX2_clear_2 (fun H locs hP hD hS => ?_)
  have hP : va_P D vwCl [(b 0, .inr (2, te b a sg 0 pl bt fh ht))] H := hP
  have hD : va_D A [(b 0, .inr (2, te b a sg 0 pl bt fh ht))] := hD
  refine lv_aload_n hx hb dX2_clear_5 rfl (lv_at hl 0 rfl) ?_
  refine lv_iconst (v := zI 0) hx hb dX2_clear_6 (by first | rfl | decide) ?_
  refine va_put (D := D) (ci := 2) (v := .int (zI 0)) (ty := .boolean) (C := RX2) (T := TX2) (N := 12) hx hb hts inX2_clear_X2 tyX2 tyX2_ok nmX2 hown hK.1 hP hD hS 0 rfl rfl 9 (by decide) (hts (.fieldLink RX2 51 "TextEnds" "built" "Z") (List.mem_of_getElem? (i := 2) rfl)) (fun _ h9 => h9) rfl (by decide +kernel) (znar_b2 (by first | exact Or.inl rfl | exact Or.inr rfl | exact bi_01 _ | with_reducible assumption | omega)) (zfit_b (by first | exact Or.inl rfl | exact Or.inr rfl | exact bi_01 _ | with_reducible assumption | omega)) (Nat.le_of_ble_eq_true rfl) dX2_clear_7 (fun H locs hP hD hS => ?_)
  have hP : va_P D vwCl [(b 0, .inr (2, te b a sg 0 pl 0 fh ht))] H := hP
  have hD : va_D A [(b 0, .inr (2, te b a sg 0 pl 0 fh ht))] := hD
  refine lv_aload_n hx hb dX2_clear_10 rfl (lv_at hl 0 rfl) ?_
  refine z_cw (wc := [(b 0, .inr (2, te b a sg 0 pl 0 fh ht))]) (wr := []) (Wt := (fun _ : Unit => [(b 0, .inr (2, te b a sg 0 0 0 fh 0))])) [0] [] [0] hP hD hS hA rfl rfl (by decide) (by decide) (by decide) (by decide) (fun _ => rfl) (fun _ => rfl) (fun hPc hDc => va_runV (As := []) (rest := []) ⟨hx, hb, hml, hown, hts⟩ (kX2_patClear l D cI cZ cL b a sg 0 pl 0 fh ht _ ) (cwV 0 hts gX2_clear_X2_patClear rfl rfl rfl (by decide +kernel) ⟨Nat.le_of_ble_eq_true rfl, Nat.le_of_ble_eq_true rfl⟩) (zPw_preV (ci := 2) (q0 := 0) hK hPc hDc rfl rfl) rfl rfl hl.1 rfl (lv_room (Nat.le_of_ble_eq_true rfl)) dX2_clear_11 ⟨Nat.zero_le _, Nat.zero_le _⟩) rfl (fun u H locs hp_ hP hD hS => ?_)
  have hP : va_P D vwCl [(b 0, .inr (2, te b a sg 0 0 0 fh 0))] H := hP
  have hD : va_D A [(b 0, .inr (2, te b a sg 0 0 0 fh 0))] := hD
  exact W.vret hx hb hr (fun t ht_ hW_ => ⟨⟨(), rfl, trivial, by rw [ht_]; exact hP, hD⟩, hS.F ht_⟩) hS.2.2 dX2_clear_14
set_option maxHeartbeats 4000000 in
set_option maxRecDepth 100000 in
/-- sa(i) -/
theorem kX2_sa (l : Launch) (D : va_G) (cI cZ cL : ClassId) (b a : Nat → Nat) (sg len pl bt fh ht : Int) (nO : Nat) (od : Int → Int) (i : Int) (hlen : 0 ≤ len ∧ len ≤ 1000000) (hbt : bt = 0 ∨ bt = 1) (hlO : len ≤ (nO : Int)) (bnO : (nO : Int) < 1073741824) (hi : zR i) : Met l yX2_sa wsX2_sa ({ frames := 1, cells := 0, slots := 0, locals := 21 }) (zPr D cI cZ cL [.ref (b 0), .int (zI i)] [(b 0, .inr (2, te b a sg len pl bt fh ht)), (a 2, .inl (cI, nO, .inl (zA od)))]) (zQi (fun r => r = zsa bt len od i)) 0 0 (fun _ => False) := by
  refine Met.ofW (cc := cX2_sa) (maxL := 2) (ret := (some .int)) (by decide) rfl ?_
  intro p e s m args below meth c s₁ B hml hv
  obtain ⟨rfl, hP, hK⟩ := hv
  have hx := B.exec
  have hb := B.bytes
  have hr := B.returns
  have hts := atoms_spec (ws := wsX2_sa) B.pre
  have hown : s.vm.findClass RX2 = some m.cls := findClass_of_methodNamed B.named
  have hlocks := B.notSynchronized
  have hP : va_P D vwCl [(b 0, .inr (2, te b a sg len pl bt fh ht)), (a 2, .inl (cI, nO, .inl (zA od)))] s.heap := hP
  have hl := lv_entry ([.ref (b 0), .int (zI i)]) (n := 2) (Nat.le_of_ble_eq_true rfl)
  rw [lg_entry_eq]
  generalize (lg_sl ([.ref (b 0), .int (zI i)]) ++ List.replicate (2 - (lg_sl ([.ref (b 0), .int (zI i)])).length) Slot.unset).toArray = ls at hl ⊢
  have hl : lv_has ls 2 [(0, .ref (b 0)), (1, .int (zI i))] := hl
  refine lv_aload_n hx hb dX2_sa_0 rfl (lv_at hl 0 rfl) ?_
  refine lv_iload_n hx hb dX2_sa_1 rfl (lv_at hl 1 rfl) ?_
  refine z_cr (va_runV (As := [.int (zI i)]) (rest := []) ⟨hx, hb, hml, hown, hts⟩ (kX2_isEnd l D cI cZ cL b a sg len pl bt fh ht i (by omega) (by omega) (by omega)) (cwV 1 hts gX2_sa_X2_isEnd rfl rfl rfl (by decide +kernel) ⟨Nat.le_of_ble_eq_true rfl, Nat.le_of_ble_eq_true rfl⟩) (zPr_preV (ci := 2) (q0 := 0) hK (hP.sub (ws' := [(b 0, .inr (2, te b a sg len pl bt fh ht))]) [0] rfl) rfl rfl) rfl rfl hl.1 rfl (lv_room (Nat.le_of_ble_eq_true rfl)) dX2_sa_2 ⟨Nat.zero_le _, Nat.zero_le _⟩) (fun r hr_ => ?_)
  subst hr_
  refine z_if_eq (tgt := 17) hx hb dX2_sa_5 (by decide) (bi_R _) (fun h_1 => ?_) (fun h_1 => ?_)
  · skip
    have he5 := bi_eq h_1
    refine lv_iconst (v := zI (-1)) hx hb dX2_sa_17 (by first | rfl | decide) ?_
    exact W.iret (v := zI (-1)) hx hb hr (fun t ht_ hW_ => ⟨(-1), rfl, by show _ = zsa bt len od i; unfold zsa; first | rw [if_pos he5] | rw [he5, if_neg (by decide)], ht_⟩) (fun q h => by cases h) dX2_sa_18
  · skip
    have he5 := bi_ne h_1
    have hf5 := zie_iff.mp he5
    refine lv_aload_n hx hb dX2_sa_8 rfl (lv_at hl 0 rfl) ?_
    refine va_get (D := D) (ci := 2) (v := .ref (a 2)) (C := RX2) (T := TX2) (N := 12) hx hb hts inX2_sa_X2 hown hK.1 hP 0 rfl rfl 3 (by decide) (hts (.fieldLink RX2 34 "TextEnds" "order" "[I") (List.mem_of_getElem? (i := 1) rfl)) (fun _ h9 => h9) rfl dX2_sa_9 ?_
    refine lv_iload_n hx hb dX2_sa_12 rfl (lv_at hl 1 rfl) ?_
    refine z_iald hx hb hK.1 hP 1 0 rfl rfl dX2_sa_13 (by omega) (by omega) (by omega) ?_
    refine lv_goto (tgt := 18) hx hb dX2_sa_14 (by decide) ?_
    exact W.iret (v := zI (od i)) hx hb hr (fun t ht_ hW_ => ⟨od i, rfl, by show _ = zsa bt len od i; unfold zsa; first | rw [if_pos he5] | rw [he5, if_neg (by decide)], ht_⟩) (fun q h => by cases h) dX2_sa_18
set_option maxHeartbeats 4000000 in
set_option maxRecDepth 100000 in
/-- rank(place) -/
theorem kX2_rank (l : Launch) (D : va_G) (cI cZ cL : ClassId) (b a : Nat → Nat) (sg len pl bt fh ht : Int) (nS : Nat) (sd : Int → Int) (i : Int) (hlen : 0 ≤ len ∧ len ≤ 1000000) (hbt : bt = 0 ∨ bt = 1) (hlS : len ≤ (nS : Int)) (bnS : (nS : Int) < 1073741824) (hi : zR i) : Met l yX2_rank wsX2_rank ({ frames := 1, cells := 0, slots := 0, locals := 21 }) (zPr D cI cZ cL [.ref (b 0), .int (zI i)] [(b 0, .inr (2, te b a sg len pl bt fh ht)), (b 3, .inl (cI, nS, .inl (zA sd)))]) (zQi (fun r => r = zsa bt len sd i)) 0 0 (fun _ => False) := by
  refine Met.ofW (cc := cX2_rank) (maxL := 2) (ret := (some .int)) (by decide) rfl ?_
  intro p e s m args below meth c s₁ B hml hv
  obtain ⟨rfl, hP, hK⟩ := hv
  have hx := B.exec
  have hb := B.bytes
  have hr := B.returns
  have hts := atoms_spec (ws := wsX2_rank) B.pre
  have hown : s.vm.findClass RX2 = some m.cls := findClass_of_methodNamed B.named
  have hlocks := B.notSynchronized
  have hP : va_P D vwCl [(b 0, .inr (2, te b a sg len pl bt fh ht)), (b 3, .inl (cI, nS, .inl (zA sd)))] s.heap := hP
  have hl := lv_entry ([.ref (b 0), .int (zI i)]) (n := 2) (Nat.le_of_ble_eq_true rfl)
  rw [lg_entry_eq]
  generalize (lg_sl ([.ref (b 0), .int (zI i)]) ++ List.replicate (2 - (lg_sl ([.ref (b 0), .int (zI i)])).length) Slot.unset).toArray = ls at hl ⊢
  have hl : lv_has ls 2 [(0, .ref (b 0)), (1, .int (zI i))] := hl
  refine lv_aload_n hx hb dX2_rank_0 rfl (lv_at hl 0 rfl) ?_
  refine lv_iload_n hx hb dX2_rank_1 rfl (lv_at hl 1 rfl) ?_
  refine z_cr (va_runV (As := [.int (zI i)]) (rest := []) ⟨hx, hb, hml, hown, hts⟩ (kX2_isEnd l D cI cZ cL b a sg len pl bt fh ht i (by omega) (by omega) (by omega)) (cwV 1 hts gX2_rank_X2_isEnd rfl rfl rfl (by decide +kernel) ⟨Nat.le_of_ble_eq_true rfl, Nat.le_of_ble_eq_true rfl⟩) (zPr_preV (ci := 2) (q0 := 0) hK (hP.sub (ws' := [(b 0, .inr (2, te b a sg len pl bt fh ht))]) [0] rfl) rfl rfl) rfl rfl hl.1 rfl (lv_room (Nat.le_of_ble_eq_true rfl)) dX2_rank_2 ⟨Nat.zero_le _, Nat.zero_le _⟩) (fun r hr_ => ?_)
  subst hr_
  refine z_if_eq (tgt := 17) hx hb dX2_rank_5 (by decide) (bi_R _) (fun h_1 => ?_) (fun h_1 => ?_)
  · skip
    have he5 := bi_eq h_1
    refine lv_iconst (v := zI (-1)) hx hb dX2_rank_17 (by first | rfl | decide) ?_
    exact W.iret (v := zI (-1)) hx hb hr (fun t ht_ hW_ => ⟨(-1), rfl, by show _ = zsa bt len sd i; unfold zsa; first | rw [if_pos he5] | rw [he5, if_neg (by decide)], ht_⟩) (fun q h => by cases h) dX2_rank_18
  · skip
    have he5 := bi_ne h_1
    have hf5 := zie_iff.mp he5
    refine lv_aload_n hx hb dX2_rank_8 rfl (lv_at hl 0 rfl) ?_
    refine va_get (D := D) (ci := 2) (v := .ref (b 3)) (C := RX2) (T := TX2) (N := 12) hx hb hts inX2_rank_X2 hown hK.1 hP 0 rfl rfl 5 (by decide) (hts (.fieldLink RX2 38 "TextEnds" "standing" "[I") (List.mem_of_getElem? (i := 1) rfl)) (fun _ h9 => h9) rfl dX2_rank_9 ?_
    refine lv_iload_n hx hb dX2_rank_12 rfl (lv_at hl 1 rfl) ?_
    refine z_iald hx hb hK.1 hP 1 0 rfl rfl dX2_rank_13 (by omega) (by omega) (by omega) ?_
    refine lv_goto (tgt := 18) hx hb dX2_rank_14 (by decide) ?_
    exact W.iret (v := zI (sd i)) hx hb hr (fun t ht_ hW_ => ⟨sd i, rfl, by show _ = zsa bt len sd i; unfold zsa; first | rw [if_pos he5] | rw [he5, if_neg (by decide)], ht_⟩) (fun q h => by cases h) dX2_rank_18
set_option maxHeartbeats 4000000 in
set_option maxRecDepth 100000 in
/-- lcp(i) -/
theorem kX2_lcp (l : Launch) (D : va_G) (cI cZ cL : ClassId) (b a : Nat → Nat) (sg len pl bt fh ht : Int) (nA : Nat) (al : Int → Int) (i : Int) (hlen : 0 ≤ len ∧ len ≤ 1000000) (hbt : bt = 0 ∨ bt = 1) (hlA : len ≤ (nA : Int)) (bnA : (nA : Int) < 1073741824) (hi : zR i) : Met l yX2_lcp wsX2_lcp ({ frames := 1, cells := 0, slots := 0, locals := 21 }) (zPr D cI cZ cL [.ref (b 0), .int (zI i)] [(b 0, .inr (2, te b a sg len pl bt fh ht)), (b 4, .inl (cI, nA, .inl (zA al)))]) (zQi (fun r => r = zlc bt len al i)) 0 0 (fun _ => False) := by
  refine Met.ofW (cc := cX2_lcp) (maxL := 2) (ret := (some .int)) (by decide) rfl ?_
  intro p e s m args below meth c s₁ B hml hv
  obtain ⟨rfl, hP, hK⟩ := hv
  have hx := B.exec
  have hb := B.bytes
  have hr := B.returns
  have hts := atoms_spec (ws := wsX2_lcp) B.pre
  have hown : s.vm.findClass RX2 = some m.cls := findClass_of_methodNamed B.named
  have hlocks := B.notSynchronized
  have hP : va_P D vwCl [(b 0, .inr (2, te b a sg len pl bt fh ht)), (b 4, .inl (cI, nA, .inl (zA al)))] s.heap := hP
  have hl := lv_entry ([.ref (b 0), .int (zI i)]) (n := 2) (Nat.le_of_ble_eq_true rfl)
  rw [lg_entry_eq]
  generalize (lg_sl ([.ref (b 0), .int (zI i)]) ++ List.replicate (2 - (lg_sl ([.ref (b 0), .int (zI i)])).length) Slot.unset).toArray = ls at hl ⊢
  have hl : lv_has ls 2 [(0, .ref (b 0)), (1, .int (zI i))] := hl
  refine lv_iload_n hx hb dX2_lcp_0 rfl (lv_at hl 1 rfl) ?_
  refine lv_iconst (v := zI 1) hx hb dX2_lcp_1 (by first | rfl | decide) ?_
  refine z_icmp_lt (tgt := 22) hx hb dX2_lcp_2 (by decide) (by omega) (by omega) (fun h_1 => ?_) (fun h_1 => ?_)
  · skip
    refine lv_iconst (v := zI (-1)) hx hb dX2_lcp_22 (by first | rfl | decide) ?_
    exact W.iret (v := zI (-1)) hx hb hr (fun t ht_ hW_ => ⟨(-1), rfl, by first | exact zlc_a (by omega) | exact zlc_t he10 (by omega) | exact zlc_b he10, ht_⟩) (fun q h => by cases h) dX2_lcp_23
  · skip
    refine lv_aload_n hx hb dX2_lcp_5 rfl (lv_at hl 0 rfl) ?_
    refine lv_iload_n hx hb dX2_lcp_6 rfl (lv_at hl 1 rfl) ?_
    refine z_cr (va_runV (As := [.int (zI i)]) (rest := []) ⟨hx, hb, hml, hown, hts⟩ (kX2_isEnd l D cI cZ cL b a sg len pl bt fh ht i (by omega) (by omega) (by omega)) (cwV 1 hts gX2_lcp_X2_isEnd rfl rfl rfl (by decide +kernel) ⟨Nat.le_of_ble_eq_true rfl, Nat.le_of_ble_eq_true rfl⟩) (zPr_preV (ci := 2) (q0 := 0) hK (hP.sub (ws' := [(b 0, .inr (2, te b a sg len pl bt fh ht))]) [0] rfl) rfl rfl) rfl rfl hl.1 rfl (lv_room (Nat.le_of_ble_eq_true rfl)) dX2_lcp_7 ⟨Nat.zero_le _, Nat.zero_le _⟩) (fun r hr_ => ?_)
    subst hr_
    refine z_if_eq (tgt := 22) hx hb dX2_lcp_10 (by decide) (bi_R _) (fun h_2 => ?_) (fun h_2 => ?_)
    · skip
      have he10 := bi_eq h_2
      refine lv_iconst (v := zI (-1)) hx hb dX2_lcp_22 (by first | rfl | decide) ?_
      exact W.iret (v := zI (-1)) hx hb hr (fun t ht_ hW_ => ⟨(-1), rfl, by first | exact zlc_a (by omega) | exact zlc_t he10 (by omega) | exact zlc_b he10, ht_⟩) (fun q h => by cases h) dX2_lcp_23
    · skip
      have he10 := bi_ne h_2
      have hf10 := zie_iff.mp he10
      refine lv_aload_n hx hb dX2_lcp_13 rfl (lv_at hl 0 rfl) ?_
      refine va_get (D := D) (ci := 2) (v := .ref (b 4)) (C := RX2) (T := TX2) (N := 12) hx hb hts inX2_lcp_X2 hown hK.1 hP 0 rfl rfl 6 (by decide) (hts (.fieldLink RX2 41 "TextEnds" "alike" "[I") (List.mem_of_getElem? (i := 1) rfl)) (fun _ h9 => h9) rfl dX2_lcp_14 ?_
      refine lv_iload_n hx hb dX2_lcp_17 rfl (lv_at hl 1 rfl) ?_
      refine z_iald hx hb hK.1 hP 1 0 rfl rfl dX2_lcp_18 (by omega) (by omega) (by omega) ?_
      refine lv_goto (tgt := 23) hx hb dX2_lcp_19 (by decide) ?_
      exact W.iret (v := zI (al i)) hx hb hr (fun t ht_ hW_ => ⟨al i, rfl, by first | exact zlc_a (by omega) | exact zlc_t he10 (by omega) | exact zlc_b he10, ht_⟩) (fun q h => by cases h) dX2_lcp_23
set_option maxHeartbeats 4000000 in
set_option maxRecDepth 100000 in
/-- alikeFrom(place, other, known) -/
theorem kX2_alikeFrom (l : Launch) (D : va_G) (cI cZ cL : ClassId) (b a : Nat → Nat) (sg len pl bt fh ht : Int) (nT : Nat) (T : Int → Int) (x y k0 : Int) (hlen : 0 ≤ len ∧ len ≤ 1000000) (hlT : len ≤ (nT : Int)) (bnT : (nT : Int) < 1073741824) (hT : zS T) (hx1 : 0 ≤ x ∧ x ≤ len) (hy1 : 0 ≤ y ∧ y ≤ len) (hk0 : 0 ≤ k0 ∧ k0 ≤ 1000000) : Met l yX2_alikeFrom wsX2_alikeFrom ({ frames := 1, cells := 0, slots := 0, locals := 30 }) (zPr D cI cZ cL [.ref (b 0), .int (zI x), .int (zI y), .int (zI k0)] [(b 0, .inr (2, te b a sg len pl bt fh ht)), (b 1, .inl (cI, nT, .inl (zA T)))]) (zQi (fun r => r = zcm len T x y k0)) 0 0 (fun _ => False) := by
  refine Met.ofW (cc := cX2_alikeFrom) (maxL := 6) (ret := (some .int)) (by decide) rfl ?_
  intro p e s m args below meth c s₁ B hml hv
  obtain ⟨rfl, hP, hK⟩ := hv
  have hx := B.exec
  have hb := B.bytes
  have hr := B.returns
  have hts := atoms_spec (ws := wsX2_alikeFrom) B.pre
  have hown : s.vm.findClass RX2 = some m.cls := findClass_of_methodNamed B.named
  have hlocks := B.notSynchronized
  have hP : va_P D vwCl [(b 0, .inr (2, te b a sg len pl bt fh ht)), (b 1, .inl (cI, nT, .inl (zA T)))] s.heap := hP
  have hl := lv_entry ([.ref (b 0), .int (zI x), .int (zI y), .int (zI k0)]) (n := 6) (Nat.le_of_ble_eq_true rfl)
  rw [lg_entry_eq]
  generalize (lg_sl ([.ref (b 0), .int (zI x), .int (zI y), .int (zI k0)]) ++ List.replicate (6 - (lg_sl ([.ref (b 0), .int (zI x), .int (zI y), .int (zI k0)])).length) Slot.unset).toArray = ls at hl ⊢
  have hl : lv_has ls 6 [(0, .ref (b 0)), (1, .int (zI x)), (2, .int (zI y)), (3, .int (zI k0))] := hl
  have hm1 := zmax_ge (a := x) (b := y)
  have hm2 := zmax_le (a := x) (b := y) (c := len) (by omega) (by omega)
  refine lv_aload_n hx hb dX2_alikeFrom_0 rfl (lv_at hl 0 rfl) ?_
  refine va_get (D := D) (ci := 2) (v := .int (zI len)) (C := RX2) (T := TX2) (N := 12) hx hb hts inX2_alikeFrom_X2 hown hK.1 hP 0 rfl rfl 7 (by decide) (hts (.fieldLink RX2 48 "TextEnds" "length" "I") (List.mem_of_getElem? (i := 1) rfl)) (fun _ h9 => h9) rfl dX2_alikeFrom_1 ?_
  refine lv_iload_n hx hb dX2_alikeFrom_4 rfl (lv_at hl 1 rfl) ?_
  refine lv_iload_n hx hb dX2_alikeFrom_5 rfl (lv_at hl 2 rfl) ?_
  refine va_mmax hx hb (hml.trans hl.1.symm) hown (hts (.methodLink RX2 114 Lib.Math.max.name) (List.mem_of_getElem? (i := 2) rfl)) (hts (.static Lib.Math.max.name) (List.mem_of_getElem? (i := 3) rfl)) (hts (.initialized "java/lang/Math") (List.mem_of_getElem? (i := 4) rfl)) (hts (.code Lib.Math.max.name Lib.Math.max.code 2 (some .int)) (List.mem_of_getElem? (i := 5) rfl)) (Nat.le_of_ble_eq_true rfl) (Nat.le_of_ble_eq_true rfl) (Nat.zero_le _) (Nat.zero_le _) dX2_alikeFrom_6 ?_
  refine z_topx (b := zmax x y) (zmax_I (by omega) (by omega)) ?_
  refine z_isub hx hb dX2_alikeFrom_9 ?_
  refine lv_istore (lv' := [(4, .int (zI (len - (zmax x y)))), (0, .ref (b 0)), (1, .int (zI x)), (2, .int (zI y)), (3, .int (zI k0))]) hx hb dX2_alikeFrom_10 hl (by decide) rfl (fun ls hl => ?_)
  refine lv_iload_n hx hb dX2_alikeFrom_12 rfl (lv_at hl 4 rfl) ?_
  refine lv_istore (lv' := [(5, .int (zI k0)), (4, .int (zI (len - (zmax x y)))), (0, .ref (b 0)), (1, .int (zI x)), (2, .int (zI y)), (3, .int (zI k0))]) hx hb dX2_alikeFrom_13 hl (by decide) rfl (fun ls hl => ?_)
  have loop15 : ∀ (nn : Nat) (k : Int) (ls : Array Slot), (0 ≤ k ∧ k ≤ 1000000) → (zcm len T x y k = zcm len T x y k0) → ((len - zmax x y - k).toNat) < nn → lv_has ls 6 [(0, .ref (b 0)), (1, .int (zI x)), (2, .int (zI y)), (3, .int (zI k0)), (4, .int (zI (len - (zmax x y)))), (5, .int (zI k))] → W p l e (headSpec wsX2_alikeFrom ({ frames := 1, cells := 0, slots := 0, locals := 30 })).room s m ([.ref (b 0), .int (zI x), .int (zI y), .int (zI k0)] : List Value).toArray below meth c s.heap [] 0 0 (MQ below (zQi (fun r => r = zcm len T x y k0)) ([.ref (b 0), .int (zI x), .int (zI y), .int (zI k0)] : List Value).toArray s 0 0 (fun _ => False)) (F0 m 15 ls []) := by
    intro nn
    induction nn with
    | zero =>
      intros
      exact absurd (by assumption : _ < 0) (Nat.not_lt_zero _)
    | succ nn ih15 =>
      intro k ls h0 hq hmu hl
      refine lv_iload hx hb dX2_alikeFrom_15 (lv_at hl 5 rfl) ?_
      refine lv_iload hx hb dX2_alikeFrom_17 (lv_at hl 4 rfl) ?_
      refine z_icmp_ge (tgt := 53) hx hb dX2_alikeFrom_19 (by decide) (by omega) (by omega) (fun h_1 => ?_) (fun h_1 => ?_)
      · skip
        refine lv_iload hx hb dX2_alikeFrom_53 (lv_at hl 5 rfl) ?_
        exact W.iret (v := zI k) hx hb hr (fun t ht_ hW_ => ⟨k, rfl, by first | exact (zcm_ne hen).symm.trans hq | exact (zcm_stop (by omega)).symm.trans hq, ht_⟩) (fun q h => by cases h) dX2_alikeFrom_55
      · skip
        have e1 : zat nT T (x + k) = T (x + k) := zat_in (by omega) (by omega)
        have e2 : zat nT T (y + k) = T (y + k) := zat_in (by omega) (by omega)
        have hk1 := hT (x + k)
        have hk2 := hT (y + k)
        refine lv_aload_n hx hb dX2_alikeFrom_22 rfl (lv_at hl 0 rfl) ?_
        refine va_get (D := D) (ci := 2) (v := .ref (b 1)) (C := RX2) (T := TX2) (N := 12) hx hb hts inX2_alikeFrom_X2 hown hK.1 hP 0 rfl rfl 2 (by decide) (hts (.fieldLink RX2 30 "TextEnds" "text" "[I") (List.mem_of_getElem? (i := 6) rfl)) (fun _ h9 => h9) rfl dX2_alikeFrom_23 ?_
        refine lv_iload_n hx hb dX2_alikeFrom_26 rfl (lv_at hl 1 rfl) ?_
        refine lv_iload hx hb dX2_alikeFrom_27 (lv_at hl 5 rfl) ?_
        refine z_iadd hx hb dX2_alikeFrom_29 ?_
        refine z_cr (va_runS (As := [.ref (b 1), .int (zI (x + k))]) (rest := []) ⟨hx, hb, hml, hown, hts⟩ (kX2_at l D cI cZ cL (b 1) nT T (x + k) (by omega) (by omega)) (va_cwS 2 hts gX2_alikeFrom_X2_at rfl rfl rfl (by decide +kernel) ⟨Nat.le_of_ble_eq_true rfl, Nat.le_of_ble_eq_true rfl⟩) (zPr_pre hK (hP.sub (ws' := [(b 1, .inl (cI, nT, .inl (zA T)))]) [1] rfl)) rfl rfl hl.1 rfl (lv_room (Nat.le_of_ble_eq_true rfl)) dX2_alikeFrom_30 ⟨Nat.zero_le _, Nat.zero_le _⟩) (fun r hr_ => ?_)
        subst hr_
        refine lv_aload_n hx hb dX2_alikeFrom_33 rfl (lv_at hl 0 rfl) ?_
        refine va_get (D := D) (ci := 2) (v := .ref (b 1)) (C := RX2) (T := TX2) (N := 12) hx hb hts inX2_alikeFrom_X2 hown hK.1 hP 0 rfl rfl 2 (by decide) (hts (.fieldLink RX2 30 "TextEnds" "text" "[I") (List.mem_of_getElem? (i := 6) rfl)) (fun _ h9 => h9) rfl dX2_alikeFrom_34 ?_
        refine lv_iload_n hx hb dX2_alikeFrom_37 rfl (lv_at hl 2 rfl) ?_
        refine lv_iload hx hb dX2_alikeFrom_38 (lv_at hl 5 rfl) ?_
        refine z_iadd hx hb dX2_alikeFrom_40 ?_
        refine z_cr (va_runS (As := [.ref (b 1), .int (zI (y + k))]) (rest := [.int (zI (zat nT T (x + k)))]) ⟨hx, hb, hml, hown, hts⟩ (kX2_at l D cI cZ cL (b 1) nT T (y + k) (by omega) (by omega)) (va_cwS 2 hts gX2_alikeFrom_X2_at rfl rfl rfl (by decide +kernel) ⟨Nat.le_of_ble_eq_true rfl, Nat.le_of_ble_eq_true rfl⟩) (zPr_pre hK (hP.sub (ws' := [(b 1, .inl (cI, nT, .inl (zA T)))]) [1] rfl)) rfl rfl hl.1 rfl (lv_room (Nat.le_of_ble_eq_true rfl)) dX2_alikeFrom_41 ⟨Nat.zero_le _, Nat.zero_le _⟩) (fun r hr_ => ?_)
        subst hr_
        refine z_icmp_ne (tgt := 53) hx hb dX2_alikeFrom_44 (by decide) (by omega) (by omega) (fun h_2 => ?_) (fun h_2 => ?_)
        · skip
          have hen := h_2
          rw [e1, e2] at hen
          refine lv_iload hx hb dX2_alikeFrom_53 (lv_at hl 5 rfl) ?_
          exact W.iret (v := zI k) hx hb hr (fun t ht_ hW_ => ⟨k, rfl, by first | exact (zcm_ne hen).symm.trans hq | exact (zcm_stop (by omega)).symm.trans hq, ht_⟩) (fun q h => by cases h) dX2_alikeFrom_55
        · skip
          have hee := h_2
          rw [e1, e2] at hee
          refine lv_iinc (v := zI (k + 1)) (lv' := [(5, .int (zI (k + 1))), (0, .ref (b 0)), (1, .int (zI x)), (2, .int (zI y)), (3, .int (zI k0)), (4, .int (zI (len - (zmax x y))))]) hx hb dX2_alikeFrom_47 hl (k := 5) rfl (zI_add _ _) (by decide) rfl (fun ls hl => ?_)
          refine lv_goto (tgt := 15) hx hb dX2_alikeFrom_50 (by decide) ?_
          exact ih15 (k + 1) ls (by omega) (by rw [← hq]; exact zcm_eq (by omega) hee) (by omega) (lv_sub hl [1, 2, 3, 4, 5, 0] rfl)
  exact loop15 _ k0 ls (by omega) (rfl) (Nat.lt_succ_self _) (lv_sub hl [2, 3, 4, 5, 1, 0] rfl)
set_option maxHeartbeats 4000000 in
set_option maxRecDepth 100000 in
/-- common(place, other) -/
theorem kX2_common (l : Launch) (D : va_G) (cI cZ cL : ClassId) (b a : Nat → Nat) (sg len pl bt fh ht : Int) (nT : Nat) (T : Int → Int) (x y : Int) (hlen : 0 ≤ len ∧ len ≤ 1000000) (hlT : len ≤ (nT : Int)) (bnT : (nT : Int) < 1073741824) (hT : zS T) (hbt : bt = 0 ∨ bt = 1) (hx1 : zR x) (hy1 : zR y) : Met l yX2_common wsX2_common ({ frames := 2, cells := 0, slots := 0, locals := 55 }) (zPr D cI cZ cL [.ref (b 0), .int (zI x), .int (zI y)] [(b 0, .inr (2, te b a sg len pl bt fh ht)), (b 1, .inl (cI, nT, .inl (zA T)))]) (zQi (fun r => r = zcn2 bt len T x y)) 0 0 (fun _ => False) := by
  refine Met.ofW (cc := cX2_common) (maxL := 3) (ret := (some .int)) (by decide) rfl ?_
  intro p e s m args below meth c s₁ B hml hv
  obtain ⟨rfl, hP, hK⟩ := hv
  have hx := B.exec
  have hb := B.bytes
  have hr := B.returns
  have hts := atoms_spec (ws := wsX2_common) B.pre
  have hown : s.vm.findClass RX2 = some m.cls := findClass_of_methodNamed B.named
  have hlocks := B.notSynchronized
  have hP : va_P D vwCl [(b 0, .inr (2, te b a sg len pl bt fh ht)), (b 1, .inl (cI, nT, .inl (zA T)))] s.heap := hP
  have hl := lv_entry ([.ref (b 0), .int (zI x), .int (zI y)]) (n := 3) (Nat.le_of_ble_eq_true rfl)
  rw [lg_entry_eq]
  generalize (lg_sl ([.ref (b 0), .int (zI x), .int (zI y)]) ++ List.replicate (3 - (lg_sl ([.ref (b 0), .int (zI x), .int (zI y)])).length) Slot.unset).toArray = ls at hl ⊢
  have hl : lv_has ls 3 [(0, .ref (b 0)), (1, .int (zI x)), (2, .int (zI y))] := hl
  refine lv_aload_n hx hb dX2_common_0 rfl (lv_at hl 0 rfl) ?_
  refine lv_iload_n hx hb dX2_common_1 rfl (lv_at hl 1 rfl) ?_
  refine z_cr (va_runV (As := [.int (zI x)]) (rest := []) ⟨hx, hb, hml, hown, hts⟩ (kX2_isEnd l D cI cZ cL b a sg len pl bt fh ht x (by omega) (by omega) (by omega)) (cwV 1 hts gX2_common_X2_isEnd rfl rfl rfl (by decide +kernel) ⟨Nat.le_of_ble_eq_true rfl, Nat.le_of_ble_eq_true rfl⟩) (zPr_preV (ci := 2) (q0 := 0) hK (hP.sub (ws' := [(b 0, .inr (2, te b a sg len pl bt fh ht))]) [0] rfl) rfl rfl) rfl rfl hl.1 rfl (lv_room (Nat.le_of_ble_eq_true rfl)) dX2_common_2 ⟨Nat.zero_le _, Nat.zero_le _⟩) (fun r hr_ => ?_)
  subst hr_
  refine z_if_eq (tgt := 26) hx hb dX2_common_5 (by decide) (bi_R _) (fun h_1 => ?_) (fun h_1 => ?_)
  · skip
    have he5 := bi_eq h_1
    refine lv_iconst (v := zI (-1)) hx hb dX2_common_26 (by first | rfl | decide) ?_
    exact W.iret (v := zI (-1)) hx hb hr (fun t ht_ hW_ => ⟨(-1), rfl, by first | exact zcn2_t he5 he13 | exact zcn2_a he5 | exact zcn2_b he13, ht_⟩) (fun q h => by cases h) dX2_common_27
  · skip
    have he5 := bi_ne h_1
    have hf5 := zie_iff.mp he5
    refine lv_aload_n hx hb dX2_common_8 rfl (lv_at hl 0 rfl) ?_
    refine lv_iload_n hx hb dX2_common_9 rfl (lv_at hl 2 rfl) ?_
    refine z_cr (va_runV (As := [.int (zI y)]) (rest := []) ⟨hx, hb, hml, hown, hts⟩ (kX2_isEnd l D cI cZ cL b a sg len pl bt fh ht y (by omega) (by omega) (by omega)) (cwV 1 hts gX2_common_X2_isEnd rfl rfl rfl (by decide +kernel) ⟨Nat.le_of_ble_eq_true rfl, Nat.le_of_ble_eq_true rfl⟩) (zPr_preV (ci := 2) (q0 := 0) hK (hP.sub (ws' := [(b 0, .inr (2, te b a sg len pl bt fh ht))]) [0] rfl) rfl rfl) rfl rfl hl.1 rfl (lv_room (Nat.le_of_ble_eq_true rfl)) dX2_common_10 ⟨Nat.zero_le _, Nat.zero_le _⟩) (fun r hr_ => ?_)
    subst hr_
    refine z_if_eq (tgt := 26) hx hb dX2_common_13 (by decide) (bi_R _) (fun h_2 => ?_) (fun h_2 => ?_)
    · skip
      have he13 := bi_eq h_2
      refine lv_iconst (v := zI (-1)) hx hb dX2_common_26 (by first | rfl | decide) ?_
      exact W.iret (v := zI (-1)) hx hb hr (fun t ht_ hW_ => ⟨(-1), rfl, by first | exact zcn2_t he5 he13 | exact zcn2_a he5 | exact zcn2_b he13, ht_⟩) (fun q h => by cases h) dX2_common_27
    · skip
      have he13 := bi_ne h_2
      have hf13 := zie_iff.mp he13
      refine lv_aload_n hx hb dX2_common_16 rfl (lv_at hl 0 rfl) ?_
      refine lv_iload_n hx hb dX2_common_17 rfl (lv_at hl 1 rfl) ?_
      refine lv_iload_n hx hb dX2_common_18 rfl (lv_at hl 2 rfl) ?_
      refine lv_iconst (v := zI 0) hx hb dX2_common_19 (by first | rfl | decide) ?_
      refine z_cr (va_runV (As := [.int (zI x), .int (zI y), .int (zI 0)]) (rest := []) ⟨hx, hb, hml, hown, hts⟩ (kX2_alikeFrom l D cI cZ cL b a sg len pl bt fh ht nT T x y 0 (by omega) (by omega) (by omega) (hT) (by omega) (by omega) (by omega)) (cwV 3 hts gX2_common_X2_alikeFrom rfl rfl rfl (by decide +kernel) ⟨Nat.le_of_ble_eq_true rfl, Nat.le_of_ble_eq_true rfl⟩) (zPr_preV (ci := 2) (q0 := 0) hK (hP.sub (ws' := [(b 0, .inr (2, te b a sg len pl bt fh ht)), (b 1, .inl (cI, nT, .inl (zA T)))]) [0, 1] rfl) rfl rfl) rfl rfl hl.1 rfl (lv_room (Nat.le_of_ble_eq_true rfl)) dX2_common_20 ⟨Nat.zero_le _, Nat.zero_le _⟩) (fun r hr_ => ?_)
      subst hr_
      refine lv_goto (tgt := 27) hx hb dX2_common_23 (by decide) ?_
      exact W.iret (v := zI (zcm len T x y 0)) hx hb hr (fun t ht_ hW_ => ⟨zcm len T x y 0, rfl, by first | exact zcn2_t he5 he13 | exact zcn2_a he5 | exact zcn2_b he13, ht_⟩) (fun q h => by cases h) dX2_common_27
end
section
set_option maxRecDepth 20000 in
theorem inX2_compareWithPattern_X2 : ∀ w ∈ wsX20, w ∈ wsX2_compareWithPattern := by decide +kernel
set_option maxRecDepth 20000 in
theorem inX2_firstEndFrom_X2 : ∀ w ∈ wsX20, w ∈ wsX2_firstEndFrom := by decide +kernel
set_option maxRecDepth 20000 in
theorem inX2_search_X2 : ∀ w ∈ wsX20, w ∈ wsX2_search := by decide +kernel
set_option maxRecDepth 20000 in
theorem inX2_hit_X2 : ∀ w ∈ wsX20, w ∈ wsX2_hit := by decide +kernel
set_option maxRecDepth 20000 in
theorem inX2_longestAlike_X2 : ∀ w ∈ wsX20, w ∈ wsX2_longestAlike := by decide +kernel
set_option maxRecDepth 20000 in
theorem inX2_repeated_X2 : ∀ w ∈ wsX20, w ∈ wsX2_repeated := by decide +kernel
set_option maxRecDepth 20000 in
theorem inX2_leastPlaceOf_X2 : ∀ w ∈ wsX20, w ∈ wsX2_leastPlaceOf := by decide +kernel
set_option maxRecDepth 20000 in
theorem inX2_repeatedAt_X2 : ∀ w ∈ wsX20, w ∈ wsX2_repeatedAt := by decide +kernel
set_option maxRecDepth 20000 in
theorem inX2_different_X2 : ∀ w ∈ wsX20, w ∈ wsX2_different := by decide +kernel
set_option maxRecDepth 20000 in
theorem inX2_noteStanding_X2 : ∀ w ∈ wsX20, w ∈ wsX2_noteStanding := by decide +kernel
set_option maxHeartbeats 4000000 in
set_option maxRecDepth 100000 in
/-- compareWithPattern(place) -/
theorem kX2_compareWithPattern (l : Launch) (D : va_G) (cI cZ cL : ClassId) (b a : Nat → Nat) (sg len pl bt fh ht : Int) (nT nP : Nat) (T pt : Int → Int) (x : Int) (hlen : 0 ≤ len ∧ len ≤ 1000000) (hlT : len ≤ (nT : Int)) (bnT : (nT : Int) < 1073741824) (hT : zS T) (hpl : 0 ≤ pl ∧ pl ≤ 1000000) (hpP : pl ≤ (nP : Int)) (bnP : (nP : Int) < 1073741824) (hpt : zS pt) (hx1 : 0 ≤ x ∧ x ≤ len) : Met l yX2_compareWithPattern wsX2_compareWithPattern ({ frames := 1, cells := 0, slots := 0, locals := 21 }) (zPr D cI cZ cL [.ref (b 0), .int (zI x)] [(b 0, .inr (2, te b a sg len pl bt fh ht)), (b 1, .inl (cI, nT, .inl (zA T))), (b 2, .inl (cI, nP, .inl (zA pt)))]) (zQi (fun r => r = zcw len T pt x pl.toNat 0)) 0 0 (fun _ => False) := by
  refine Met.ofW (cc := cX2_compareWithPattern) (maxL := 4) (ret := (some .int)) (by decide) rfl ?_
  intro p e s m args below meth c s₁ B hml hv
  obtain ⟨rfl, hP, hK⟩ := hv
  have hx := B.exec
  have hb := B.bytes
  have hr := B.returns
  have hts := atoms_spec (ws := wsX2_compareWithPattern) B.pre
  have hown : s.vm.findClass RX2 = some m.cls := findClass_of_methodNamed B.named
  have hlocks := B.notSynchronized
  have hP : va_P D vwCl [(b 0, .inr (2, te b a sg len pl bt fh ht)), (b 1, .inl (cI, nT, .inl (zA T))), (b 2, .inl (cI, nP, .inl (zA pt)))] s.heap := hP
  have hl := lv_entry ([.ref (b 0), .int (zI x)]) (n := 4) (Nat.le_of_ble_eq_true rfl)
  rw [lg_entry_eq]
  generalize (lg_sl ([.ref (b 0), .int (zI x)]) ++ List.replicate (4 - (lg_sl ([.ref (b 0), .int (zI x)])).length) Slot.unset).toArray = ls at hl ⊢
  have hl : lv_has ls 4 [(0, .ref (b 0)), (1, .int (zI x))] := hl
  refine lv_iconst (v := zI 0) hx hb dX2_compareWithPattern_0 (by first | rfl | decide) ?_
  refine lv_istore_n (lv' := [(2, .int (zI 0)), (0, .ref (b 0)), (1, .int (zI x))]) hx hb dX2_compareWithPattern_1 rfl hl (by decide) rfl (fun ls hl => ?_)
  have loop2 : ∀ (nn : Nat) (k : Int) (ls : Array Slot), (0 ≤ k ∧ k ≤ pl) → (zcw len T pt x (pl - k).toNat k = zcw len T pt x pl.toNat 0) → ((pl - k).toNat) < nn → lv_has ls 4 [(0, .ref (b 0)), (1, .int (zI x)), (2, .int (zI k))] → W p l e (headSpec wsX2_compareWithPattern ({ frames := 1, cells := 0, slots := 0, locals := 21 })).room s m ([.ref (b 0), .int (zI x)] : List Value).toArray below meth c s.heap [] 0 0 (MQ below (zQi (fun r => r = zcw len T pt x pl.toNat 0)) ([.ref (b 0), .int (zI x)] : List Value).toArray s 0 0 (fun _ => False)) (F0 m 2 ls []) := by
    intro nn
    induction nn with
    | zero =>
      intros
      exact absurd (by assumption : _ < 0) (Nat.not_lt_zero _)
    | succ nn ih2 =>
      intro k ls h0 hq hmu hl
      refine lv_iload_n hx hb dX2_compareWithPattern_2 rfl (lv_at hl 2 rfl) ?_
      refine lv_aload_n hx hb dX2_compareWithPattern_3 rfl (lv_at hl 0 rfl) ?_
      refine va_get (D := D) (ci := 2) (v := .int (zI pl)) (C := RX2) (T := TX2) (N := 12) hx hb hts inX2_compareWithPattern_X2 hown hK.1 hP 0 rfl rfl 8 (by decide) (hts (.fieldLink RX2 82 "TextEnds" "patternLength" "I") (List.mem_of_getElem? (i := 1) rfl)) (fun _ h9 => h9) rfl dX2_compareWithPattern_4 ?_
      refine z_icmp_ge (tgt := 52) hx hb dX2_compareWithPattern_7 (by decide) (by omega) (by omega) (fun h_1 => ?_) (fun h_1 => ?_)
      · skip
        refine lv_iconst (v := zI 0) hx hb dX2_compareWithPattern_52 (by first | rfl | decide) ?_
        exact W.iret (v := zI 0) hx hb hr (fun t ht_ hW_ => ⟨0, rfl, by show _ = zcw len T pt x pl.toNat 0; rw [← hq, show (pl - k).toNat = 0 by omega]; rfl, ht_⟩) (fun q h => by cases h) dX2_compareWithPattern_53
      · skip
        refine lv_iload_n hx hb dX2_compareWithPattern_10 rfl (lv_at hl 1 rfl) ?_
        refine lv_iload_n hx hb dX2_compareWithPattern_11 rfl (lv_at hl 2 rfl) ?_
        refine z_iadd hx hb dX2_compareWithPattern_12 ?_
        refine lv_aload_n hx hb dX2_compareWithPattern_13 rfl (lv_at hl 0 rfl) ?_
        refine va_get (D := D) (ci := 2) (v := .int (zI len)) (C := RX2) (T := TX2) (N := 12) hx hb hts inX2_compareWithPattern_X2 hown hK.1 hP 0 rfl rfl 7 (by decide) (hts (.fieldLink RX2 48 "TextEnds" "length" "I") (List.mem_of_getElem? (i := 2) rfl)) (fun _ h9 => h9) rfl dX2_compareWithPattern_14 ?_
        refine z_icmp_lt (tgt := 22) hx hb dX2_compareWithPattern_17 (by decide) (by omega) (by omega) (fun h_2 => ?_) (fun h_2 => ?_)
        · skip
          have c1 := h_2
          have e1 : zat nT T (x + k) = T (x + k) := zat_in (by omega) (by omega)
          have hk1 := hT (x + k)
          have hk2 := hpt k
          refine lv_aload_n hx hb dX2_compareWithPattern_22 rfl (lv_at hl 0 rfl) ?_
          refine va_get (D := D) (ci := 2) (v := .ref (b 1)) (C := RX2) (T := TX2) (N := 12) hx hb hts inX2_compareWithPattern_X2 hown hK.1 hP 0 rfl rfl 2 (by decide) (hts (.fieldLink RX2 30 "TextEnds" "text" "[I") (List.mem_of_getElem? (i := 3) rfl)) (fun _ h9 => h9) rfl dX2_compareWithPattern_23 ?_
          refine lv_iload_n hx hb dX2_compareWithPattern_26 rfl (lv_at hl 1 rfl) ?_
          refine lv_iload_n hx hb dX2_compareWithPattern_27 rfl (lv_at hl 2 rfl) ?_
          refine z_iadd hx hb dX2_compareWithPattern_28 ?_
          refine z_cr (va_runS (As := [.ref (b 1), .int (zI (x + k))]) (rest := []) ⟨hx, hb, hml, hown, hts⟩ (kX2_at l D cI cZ cL (b 1) nT T (x + k) (by omega) (by omega)) (va_cwS 2 hts gX2_compareWithPattern_X2_at rfl rfl rfl (by decide +kernel) ⟨Nat.le_of_ble_eq_true rfl, Nat.le_of_ble_eq_true rfl⟩) (zPr_pre hK (hP.sub (ws' := [(b 1, .inl (cI, nT, .inl (zA T)))]) [1] rfl)) rfl rfl hl.1 rfl (lv_room (Nat.le_of_ble_eq_true rfl)) dX2_compareWithPattern_29 ⟨Nat.zero_le _, Nat.zero_le _⟩) (fun r hr_ => ?_)
          subst hr_
          refine lv_aload_n hx hb dX2_compareWithPattern_32 rfl (lv_at hl 0 rfl) ?_
          refine va_get (D := D) (ci := 2) (v := .ref (b 2)) (C := RX2) (T := TX2) (N := 12) hx hb hts inX2_compareWithPattern_X2 hown hK.1 hP 0 rfl rfl 4 (by decide) (hts (.fieldLink RX2 35 "TextEnds" "pattern" "[I") (List.mem_of_getElem? (i := 4) rfl)) (fun _ h9 => h9) rfl dX2_compareWithPattern_33 ?_
          refine lv_iload_n hx hb dX2_compareWithPattern_36 rfl (lv_at hl 2 rfl) ?_
          refine z_iald hx hb hK.1 hP 2 0 rfl rfl dX2_compareWithPattern_37 (by omega) (by omega) (by omega) ?_
          refine z_isub hx hb dX2_compareWithPattern_38 ?_
          refine lv_istore_n (lv' := [(3, .int (zI ((zat nT T (x + k)) - (pt k)))), (0, .ref (b 0)), (1, .int (zI x)), (2, .int (zI k))]) hx hb dX2_compareWithPattern_39 rfl hl (by decide) rfl (fun ls hl => ?_)
          refine lv_iload_n hx hb dX2_compareWithPattern_40 rfl (lv_at hl 0 rfl) ?_
          refine z_if_eq (tgt := 46) hx hb dX2_compareWithPattern_41 (by decide) (by omega) (fun h_3 => ?_) (fun h_3 => ?_)
          · skip
            have c2 := h_3
            rw [e1] at c2
            refine lv_iinc (v := zI (k + 1)) (lv' := [(2, .int (zI (k + 1))), (3, .int (zI ((zat nT T (x + k)) - (pt k)))), (0, .ref (b 0)), (1, .int (zI x))]) hx hb dX2_compareWithPattern_46 hl (k := 3) rfl (zI_add _ _) (by decide) rfl (fun ls hl => ?_)
            refine lv_goto (tgt := 2) hx hb dX2_compareWithPattern_49 (by decide) ?_
            exact ih2 (k + 1) ls (by omega) (by rw [← hq, show (pl - k).toNat = (pl - (k + 1)).toNat + 1 by omega, zcw, if_neg (by omega), if_pos c2]) (by omega) (lv_sub hl [2, 3, 0] rfl)
          · skip
            have c2 := h_3
            rw [e1] at c2
            refine lv_iload_n hx hb dX2_compareWithPattern_44 rfl (lv_at hl 0 rfl) ?_
            exact W.iret (v := zI ((zat nT T (x + k)) - (pt k))) hx hb hr (fun t ht_ hW_ => ⟨(zat nT T (x + k)) - (pt k), rfl, by show _ = zcw len T pt x pl.toNat 0; rw [← hq, show (pl - k).toNat = (pl - (k + 1)).toNat + 1 by omega, zcw, if_neg (by omega), if_neg c2, e1], ht_⟩) (fun q h => by cases h) dX2_compareWithPattern_45
        · skip
          have c1 := h_2
          refine lv_iconst (v := zI (-1)) hx hb dX2_compareWithPattern_20 (by first | rfl | decide) ?_
          exact W.iret (v := zI (-1)) hx hb hr (fun t ht_ hW_ => ⟨(-1), rfl, by show _ = zcw len T pt x pl.toNat 0; rw [← hq, show (pl - k).toNat = (pl - (k + 1)).toNat + 1 by omega, zcw, if_pos (by omega)], ht_⟩) (fun q h => by cases h) dX2_compareWithPattern_21
  exact loop2 _ 0 ls (by omega) (by rw [show pl - 0 = pl by omega]) (Nat.lt_succ_self _) (lv_sub hl [1, 2, 0] rfl)
set_option maxHeartbeats 4000000 in
set_option maxRecDepth 100000 in
/-- firstEndFrom(least) -/
theorem kX2_firstEndFrom (l : Launch) (D : va_G) (cI cZ cL : ClassId) (b a : Nat → Nat) (sg len pl bt fh ht : Int) (nT nO nP : Nat) (T od pt : Int → Int) (lst : Int) (hlen : 0 ≤ len ∧ len ≤ 1000000) (hlT : len ≤ (nT : Int)) (bnT : (nT : Int) < 1073741824) (hT : zS T) (hlO : len ≤ (nO : Int)) (bnO : (nO : Int) < 1073741824) (hpl : 0 ≤ pl ∧ pl ≤ 1000000) (hpP : pl ≤ (nP : Int)) (bnP : (nP : Int) < 1073741824) (hpt : zS pt) (hod : ∀ i, 0 ≤ i → i < len → 0 ≤ od i ∧ od i < len) (hls : 0 ≤ lst ∧ lst ≤ 1) : Met l yX2_firstEndFrom wsX2_firstEndFrom ({ frames := 2, cells := 0, slots := 0, locals := 44 }) (zPr D cI cZ cL [.ref (b 0), .int (zI lst)] [(b 0, .inr (2, te b a sg len pl bt fh ht)), (b 1, .inl (cI, nT, .inl (zA T))), (a 2, .inl (cI, nO, .inl (zA od))), (b 2, .inl (cI, nP, .inl (zA pt)))]) (zQi (fun r => r = zff len T pt od pl lst)) 0 0 (fun _ => False) := by
  refine Met.ofW (cc := cX2_firstEndFrom) (maxL := 5) (ret := (some .int)) (by decide) rfl ?_
  intro p e s m args below meth c s₁ B hml hv
  obtain ⟨rfl, hP, hK⟩ := hv
  have hx := B.exec
  have hb := B.bytes
  have hr := B.returns
  have hts := atoms_spec (ws := wsX2_firstEndFrom) B.pre
  have hown : s.vm.findClass RX2 = some m.cls := findClass_of_methodNamed B.named
  have hlocks := B.notSynchronized
  have hP : va_P D vwCl [(b 0, .inr (2, te b a sg len pl bt fh ht)), (b 1, .inl (cI, nT, .inl (zA T))), (a 2, .inl (cI, nO, .inl (zA od))), (b 2, .inl (cI, nP, .inl (zA pt)))] s.heap := hP
  have hl := lv_entry ([.ref (b 0), .int (zI lst)]) (n := 5) (Nat.le_of_ble_eq_true rfl)
  rw [lg_entry_eq]
  generalize (lg_sl ([.ref (b 0), .int (zI lst)]) ++ List.replicate (5 - (lg_sl ([.ref (b 0), .int (zI lst)])).length) Slot.unset).toArray = ls at hl ⊢
  have hl : lv_has ls 5 [(0, .ref (b 0)), (1, .int (zI lst))] := hl
  refine lv_iconst (v := zI 0) hx hb dX2_firstEndFrom_0 (by first | rfl | decide) ?_
  refine lv_istore_n (lv' := [(2, .int (zI 0)), (0, .ref (b 0)), (1, .int (zI lst))]) hx hb dX2_firstEndFrom_1 rfl hl (by decide) rfl (fun ls hl => ?_)
  refine lv_aload_n hx hb dX2_firstEndFrom_2 rfl (lv_at hl 1 rfl) ?_
  refine va_get (D := D) (ci := 2) (v := .int (zI len)) (C := RX2) (T := TX2) (N := 12) hx hb hts inX2_firstEndFrom_X2 hown hK.1 hP 0 rfl rfl 7 (by decide) (hts (.fieldLink RX2 48 "TextEnds" "length" "I") (List.mem_of_getElem? (i := 1) rfl)) (fun _ h9 => h9) rfl dX2_firstEndFrom_3 ?_
  refine lv_istore_n (lv' := [(3, .int (zI len)), (2, .int (zI 0)), (0, .ref (b 0)), (1, .int (zI lst))]) hx hb dX2_firstEndFrom_6 rfl hl (by decide) rfl (fun ls hl => ?_)
  have loop7 : ∀ (nn : Nat) (lw : Int) (hi : Int) (ls : Array Slot), (0 ≤ lw ∧ lw ≤ hi ∧ hi ≤ len) → (zbs (fun mm => decide (zcw len T pt (od mm) pl.toNat 0 < lst)) (hi - lw).toNat lw hi = zff len T pt od pl lst) → ((hi - lw).toNat) < nn → lv_has ls 5 [(0, .ref (b 0)), (1, .int (zI lst)), (2, .int (zI lw)), (3, .int (zI hi))] → W p l e (headSpec wsX2_firstEndFrom ({ frames := 2, cells := 0, slots := 0, locals := 44 })).room s m ([.ref (b 0), .int (zI lst)] : List Value).toArray below meth c s.heap [] 0 0 (MQ below (zQi (fun r => r = zff len T pt od pl lst)) ([.ref (b 0), .int (zI lst)] : List Value).toArray s 0 0 (fun _ => False)) (F0 m 7 ls []) := by
    intro nn
    induction nn with
    | zero =>
      intros
      exact absurd (by assumption : _ < 0) (Nat.not_lt_zero _)
    | succ nn ih7 =>
      intro lw hi ls h0 hq hmu hl
      refine lv_iload_n hx hb dX2_firstEndFrom_7 rfl (lv_at hl 2 rfl) ?_
      refine lv_iload_n hx hb dX2_firstEndFrom_8 rfl (lv_at hl 3 rfl) ?_
      refine z_icmp_ge (tgt := 50) hx hb dX2_firstEndFrom_9 (by decide) (by omega) (by omega) (fun h_1 => ?_) (fun h_1 => ?_)
      · skip
        refine lv_iload_n hx hb dX2_firstEndFrom_50 rfl (lv_at hl 2 rfl) ?_
        exact W.iret (v := zI lw) hx hb hr (fun t ht_ hW_ => ⟨lw, rfl, by rw [← hq]; exact (zbs_e (by omega)).symm, ht_⟩) (fun q h => by cases h) dX2_firstEndFrom_51
      · skip
        refine lv_iload_n hx hb dX2_firstEndFrom_12 rfl (lv_at hl 2 rfl) ?_
        refine lv_iload_n hx hb dX2_firstEndFrom_13 rfl (lv_at hl 3 rfl) ?_
        refine z_iadd hx hb dX2_firstEndFrom_14 ?_
        refine lv_iconst (v := zI 1) hx hb dX2_firstEndFrom_15 (by first | rfl | decide) ?_
        refine lv_iushr (v := zI ((lw + hi) / 2)) hx hb dX2_firstEndFrom_16 (z_ush1 (by omega) (by omega)) ?_
        refine lv_istore (lv' := [(4, .int (zI ((lw + hi) / 2))), (0, .ref (b 0)), (1, .int (zI lst)), (2, .int (zI lw)), (3, .int (zI hi))]) hx hb dX2_firstEndFrom_17 hl (by decide) rfl (fun ls hl => ?_)
        have hk1 := hod ((lw + hi) / 2) (by omega) (by omega)
        have e1 : zat nO od ((lw + hi) / 2) = od ((lw + hi) / 2) := zat_in (by omega) (by omega)
        have hk2 := zcw_S (len := len) (pl := zat nO od ((lw + hi) / 2)) hT hpt pl.toNat 0
        refine lv_aload_n hx hb dX2_firstEndFrom_19 rfl (lv_at hl 1 rfl) ?_
        refine lv_aload_n hx hb dX2_firstEndFrom_20 rfl (lv_at hl 1 rfl) ?_
        refine va_get (D := D) (ci := 2) (v := .ref (a 2)) (C := RX2) (T := TX2) (N := 12) hx hb hts inX2_firstEndFrom_X2 hown hK.1 hP 0 rfl rfl 3 (by decide) (hts (.fieldLink RX2 34 "TextEnds" "order" "[I") (List.mem_of_getElem? (i := 2) rfl)) (fun _ h9 => h9) rfl dX2_firstEndFrom_21 ?_
        refine lv_iload hx hb dX2_firstEndFrom_24 (lv_at hl 0 rfl) ?_
        refine z_cr (va_runS (As := [.ref (a 2), .int (zI ((lw + hi) / 2))]) (rest := [.ref (b 0)]) ⟨hx, hb, hml, hown, hts⟩ (kX2_at l D cI cZ cL (a 2) nO od ((lw + hi) / 2) (by omega) (by omega)) (va_cwS 2 hts gX2_firstEndFrom_X2_at rfl rfl rfl (by decide +kernel) ⟨Nat.le_of_ble_eq_true rfl, Nat.le_of_ble_eq_true rfl⟩) (zPr_pre hK (hP.sub (ws' := [(a 2, .inl (cI, nO, .inl (zA od)))]) [2] rfl)) rfl rfl hl.1 rfl (lv_room (Nat.le_of_ble_eq_true rfl)) dX2_firstEndFrom_26 ⟨Nat.zero_le _, Nat.zero_le _⟩) (fun r hr_ => ?_)
        subst hr_
        refine z_cr (va_runV (As := [.int (zI (zat nO od ((lw + hi) / 2)))]) (rest := []) ⟨hx, hb, hml, hown, hts⟩ (kX2_compareWithPattern l D cI cZ cL b a sg len pl bt fh ht nT nP T pt (zat nO od ((lw + hi) / 2)) (by omega) (by omega) (by omega) (hT) (by omega) (by omega) (by omega) (hpt) (by omega)) (cwV 1 hts gX2_firstEndFrom_X2_compareWithPattern rfl rfl rfl (by decide +kernel) ⟨Nat.le_of_ble_eq_true rfl, Nat.le_of_ble_eq_true rfl⟩) (zPr_preV (ci := 2) (q0 := 0) hK (hP.sub (ws' := [(b 0, .inr (2, te b a sg len pl bt fh ht)), (b 1, .inl (cI, nT, .inl (zA T))), (b 2, .inl (cI, nP, .inl (zA pt)))]) [0, 1, 3] rfl) rfl rfl) rfl rfl hl.1 rfl (lv_room (Nat.le_of_ble_eq_true rfl)) dX2_firstEndFrom_29 ⟨Nat.zero_le _, Nat.zero_le _⟩) (fun r hr_ => ?_)
        subst hr_
        refine lv_iload_n hx hb dX2_firstEndFrom_32 rfl (lv_at hl 2 rfl) ?_
        refine z_icmp_ge (tgt := 44) hx hb dX2_firstEndFrom_33 (by decide) (by omega) (by omega) (fun h_2 => ?_) (fun h_2 => ?_)
        · skip
          have cc2 : ¬ zcw len T pt (od ((lw + hi) / 2)) pl.toNat 0 < lst := by have := h_2; rw [e1] at this; omega
          refine lv_iload hx hb dX2_firstEndFrom_44 (lv_at hl 0 rfl) ?_
          refine lv_istore_n (lv' := [(3, .int (zI ((lw + hi) / 2))), (4, .int (zI ((lw + hi) / 2))), (0, .ref (b 0)), (1, .int (zI lst)), (2, .int (zI lw))]) hx hb dX2_firstEndFrom_46 rfl hl (by decide) rfl (fun ls hl => ?_)
          refine lv_goto (tgt := 7) hx hb dX2_firstEndFrom_47 (by decide) ?_
          exact ih7 lw ((lw + hi) / 2) ls (by omega) (by rw [← hq, show (hi - lw).toNat = (hi - lw).toNat - 1 + 1 by omega]; first | (rw [← zbs_t (by omega) (decide_eq_true cc1)]; exact zbs_m _ _ _ _ (by omega) (by omega)) | (rw [← zbs_f (by omega) (decide_eq_false cc2)]; exact zbs_m _ _ _ _ (by omega) (by omega))) (by omega) (lv_sub hl [2, 3, 4, 0] rfl)
        · skip
          have cc1 : zcw len T pt (od ((lw + hi) / 2)) pl.toNat 0 < lst := by have := h_2; rw [e1] at this; exact this
          refine lv_iload hx hb dX2_firstEndFrom_36 (lv_at hl 0 rfl) ?_
          refine lv_iconst (v := zI 1) hx hb dX2_firstEndFrom_38 (by first | rfl | decide) ?_
          refine z_iadd hx hb dX2_firstEndFrom_39 ?_
          refine lv_istore_n (lv' := [(2, .int (zI (((lw + hi) / 2) + 1))), (4, .int (zI ((lw + hi) / 2))), (0, .ref (b 0)), (1, .int (zI lst)), (3, .int (zI hi))]) hx hb dX2_firstEndFrom_40 rfl hl (by decide) rfl (fun ls hl => ?_)
          refine lv_goto (tgt := 47) hx hb dX2_firstEndFrom_41 (by decide) ?_
          refine lv_goto (tgt := 7) hx hb dX2_firstEndFrom_47 (by decide) ?_
          exact ih7 (((lw + hi) / 2) + 1) hi ls (by omega) (by rw [← hq, show (hi - lw).toNat = (hi - lw).toNat - 1 + 1 by omega]; first | (rw [← zbs_t (by omega) (decide_eq_true cc1)]; exact zbs_m _ _ _ _ (by omega) (by omega)) | (rw [← zbs_f (by omega) (decide_eq_false cc2)]; exact zbs_m _ _ _ _ (by omega) (by omega))) (by omega) (lv_sub hl [2, 3, 0, 4] rfl)
  exact loop7 _ 0 len ls (by omega) (by rw [show len - 0 = len by omega]; rfl) (Nat.lt_succ_self _) (lv_sub hl [2, 3, 1, 0] rfl)
set_option maxHeartbeats 4000000 in
set_option maxRecDepth 100000 in
/-- search() -/
theorem kX2_search (l : Launch) (D : va_G) (cI cZ cL : ClassId) (b a : Nat → Nat) (sg len pl bt fh ht : Int) (nT nO nP : Nat) (T od pt : Int → Int) (szz : Nat) (hlen : 0 ≤ len ∧ len ≤ 1000000) (hlT : len ≤ (nT : Int)) (bnT : (nT : Int) < 1073741824) (hT : zS T) (hlO : len ≤ (nO : Int)) (bnO : (nO : Int) < 1073741824) (hpl : 0 ≤ pl ∧ pl ≤ 1000000) (hpP : pl ≤ (nP : Int)) (bnP : (nP : Int) < 1073741824) (hpt : zS pt) (hbt : bt = 0 ∨ bt = 1) (hod : bt ≠ 0 → ∀ i, 0 ≤ i → i < len → 0 ≤ od i ∧ od i < len) : Met l yX2_search wsX2_search ({ frames := 3, cells := 0, slots := 0, locals := 68 }) (zPw D cI cZ cL szz [.ref (b 0)] [(b 0, .inr (2, te b a sg len pl bt fh ht)), (b 1, .inl (cI, nT, .inl (zA T))), (a 2, .inl (cI, nO, .inl (zA od))), (b 2, .inl (cI, nP, .inl (zA pt)))]) (zQwi D (va_A [(b 0, .inr (2, te b a sg len pl bt fh ht)), (b 1, .inl (cI, nT, .inl (zA T))), (a 2, .inl (cI, nO, .inl (zA od))), (b 2, .inl (cI, nP, .inl (zA pt)))] szz) (fun (r : Int) (_ : Unit) => r = (if bt = 0 then -1 else zff len T pt od pl 1 - zff len T pt od pl 0) ∧ True) (fun _ : Unit => [(b 0, .inr (2, te b a sg len pl bt (if bt = 0 then fh else zff len T pt od pl 0) (if bt = 0 then ht else zff len T pt od pl 1 - zff len T pt od pl 0))), (b 1, .inl (cI, nT, .inl (zA T))), (a 2, .inl (cI, nO, .inl (zA od))), (b 2, .inl (cI, nP, .inl (zA pt)))])) 0 0 (va_A [(b 0, .inr (2, te b a sg len pl bt fh ht)), (b 1, .inl (cI, nT, .inl (zA T))), (a 2, .inl (cI, nO, .inl (zA od))), (b 2, .inl (cI, nP, .inl (zA pt)))] szz) := by
  refine Met.ofW (cc := cX2_search) (maxL := 1) (ret := (some .int)) (by decide) rfl ?_
  intro p e s m args below meth c s₁ B hml hv
  obtain ⟨rfl, hsz, hP, hK, hD0⟩ := hv
  have hx := B.exec
  have hb := B.bytes
  have hr := B.returns
  have hts := atoms_spec (ws := wsX2_search) B.pre
  have hown : s.vm.findClass RX2 = some m.cls := findClass_of_methodNamed B.named
  have hlocks := B.notSynchronized
  subst hsz
  have hD := hD0.self (sz := s.heap.size)
  generalize hAe : va_A [(b 0, .inr (2, te b a sg len pl bt fh ht)), (b 1, .inl (cI, nT, .inl (zA T))), (a 2, .inl (cI, nO, .inl (zA od))), (b 2, .inl (cI, nP, .inl (zA pt)))] s.heap.size = A at hD ⊢
  have hA : ∀ q : Nat, s.heap.size ≤ q → A q := fun q h => by rw [← hAe]; exact Or.inr h
  have hS : va_S A s.heap s.heap [] := va_S.rf
  clear hD0
  have hP : va_P D vwCl [(b 0, .inr (2, te b a sg len pl bt fh ht)), (b 1, .inl (cI, nT, .inl (zA T))), (a 2, .inl (cI, nO, .inl (zA od))), (b 2, .inl (cI, nP, .inl (zA pt)))] s.heap := hP
  have hl := lv_entry ([.ref (b 0)]) (n := 1) (Nat.le_of_ble_eq_true rfl)
  rw [lg_entry_eq]
  generalize (lg_sl ([.ref (b 0)]) ++ List.replicate (1 - (lg_sl ([.ref (b 0)])).length) Slot.unset).toArray = ls at hl ⊢
  have hl : lv_has ls 1 [(0, .ref (b 0))] := hl
  refine lv_aload_n hx hb dX2_search_0 rfl (lv_at hl 0 rfl) ?_
  refine va_get (D := D) (ci := 2) (v := .int (zI bt)) (C := RX2) (T := TX2) (N := 12) hx hb hts inX2_search_X2 hown hK.1 hP 0 rfl rfl 9 (by decide) (hts (.fieldLink RX2 51 "TextEnds" "built" "Z") (List.mem_of_getElem? (i := 1) rfl)) (fun _ h9 => h9) rfl dX2_search_1 ?_
  refine z_if_ne (tgt := 9) hx hb dX2_search_4 (by decide) (by omega) (fun h_1 => ?_) (fun h_1 => ?_)
  · skip
    have hz := h_1
    refine lv_aload_n hx hb dX2_search_9 rfl (lv_at hl 0 rfl) ?_
    refine lv_aload_n hx hb dX2_search_10 rfl (lv_at hl 0 rfl) ?_
    refine lv_iconst (v := zI 0) hx hb dX2_search_11 (by first | rfl | decide) ?_
    refine z_cr (va_runV (As := [.int (zI 0)]) (rest := [.ref (b 0)]) ⟨hx, hb, hml, hown, hts⟩ (kX2_firstEndFrom l D cI cZ cL b a sg len pl bt fh ht nT nO nP T od pt 0 (by omega) (by omega) (by omega) (hT) (by omega) (by omega) (by omega) (by omega) (by omega) (hpt) (hod hz) (by omega)) (cwV 1 hts gX2_search_X2_firstEndFrom rfl rfl rfl (by decide +kernel) ⟨Nat.le_of_ble_eq_true rfl, Nat.le_of_ble_eq_true rfl⟩) (zPr_preV (ci := 2) (q0 := 0) hK (hP.sub (ws' := [(b 0, .inr (2, te b a sg len pl bt fh ht)), (b 1, .inl (cI, nT, .inl (zA T))), (a 2, .inl (cI, nO, .inl (zA od))), (b 2, .inl (cI, nP, .inl (zA pt)))]) [0, 1, 2, 3] rfl) rfl rfl) rfl rfl hl.1 rfl (lv_room (Nat.le_of_ble_eq_true rfl)) dX2_search_12 ⟨Nat.zero_le _, Nat.zero_le _⟩) (fun r hr_ => ?_)
    subst hr_
    refine va_put (D := D) (ci := 2) (v := .int (zI (zff len T pt od pl 0))) (ty := .int) (C := RX2) (T := TX2) (N := 12) hx hb hts inX2_search_X2 tyX2 tyX2_ok nmX2 hown hK.1 hP hD hS 0 rfl rfl 10 (by decide) (hts (.fieldLink RX2 89 "TextEnds" "firstHit" "I") (List.mem_of_getElem? (i := 2) rfl)) (fun _ h9 => h9) rfl (by decide +kernel) rfl rfl (Nat.le_of_ble_eq_true rfl) dX2_search_15 (fun H locs hP hD hS => ?_)
    have hP : va_P D vwCl [(b 0, .inr (2, te b a sg len pl bt (zff len T pt od pl 0) ht)), (b 1, .inl (cI, nT, .inl (zA T))), (a 2, .inl (cI, nO, .inl (zA od))), (b 2, .inl (cI, nP, .inl (zA pt)))] H := hP
    have hD : va_D A [(b 0, .inr (2, te b a sg len pl bt (zff len T pt od pl 0) ht)), (b 1, .inl (cI, nT, .inl (zA T))), (a 2, .inl (cI, nO, .inl (zA od))), (b 2, .inl (cI, nP, .inl (zA pt)))] := hD
    refine lv_aload_n hx hb dX2_search_18 rfl (lv_at hl 0 rfl) ?_
    refine lv_aload_n hx hb dX2_search_19 rfl (lv_at hl 0 rfl) ?_
    refine lv_iconst (v := zI 1) hx hb dX2_search_20 (by first | rfl | decide) ?_
    refine z_cr (va_runV (As := [.int (zI 1)]) (rest := [.ref (b 0)]) ⟨hx, hb, hml, hown, hts⟩ (kX2_firstEndFrom l D cI cZ cL b a sg len pl bt (zff len T pt od pl 0) ht nT nO nP T od pt 1 (by omega) (by omega) (by omega) (hT) (by omega) (by omega) (by omega) (by omega) (by omega) (hpt) (hod hz) (by omega)) (cwV 1 hts gX2_search_X2_firstEndFrom rfl rfl rfl (by decide +kernel) ⟨Nat.le_of_ble_eq_true rfl, Nat.le_of_ble_eq_true rfl⟩) (zPr_preV (ci := 2) (q0 := 0) hK (hP.sub (ws' := [(b 0, .inr (2, te b a sg len pl bt (zff len T pt od pl 0) ht)), (b 1, .inl (cI, nT, .inl (zA T))), (a 2, .inl (cI, nO, .inl (zA od))), (b 2, .inl (cI, nP, .inl (zA pt)))]) [0, 1, 2, 3] rfl) rfl rfl) rfl rfl hl.1 rfl (lv_room (Nat.le_of_ble_eq_true rfl)) dX2_search_21 ⟨Nat.zero_le _, Nat.zero_le _⟩) (fun r hr_ => ?_)
    subst hr_
    refine lv_aload_n hx hb dX2_search_24 rfl (lv_at hl 0 rfl) ?_
    refine va_get (D := D) (ci := 2) (v := .int (zI (zff len T pt od pl 0))) (C := RX2) (T := TX2) (N := 12) hx hb hts inX2_search_X2 hown hK.1 hP 0 rfl rfl 10 (by decide) (hts (.fieldLink RX2 89 "TextEnds" "firstHit" "I") (List.mem_of_getElem? (i := 2) rfl)) (fun _ h9 => h9) rfl dX2_search_25 ?_
    refine z_isub hx hb dX2_search_28 ?_
    refine va_put (D := D) (ci := 2) (v := .int (zI ((zff len T pt od pl 1) - (zff len T pt od pl 0)))) (ty := .int) (C := RX2) (T := TX2) (N := 12) hx hb hts inX2_search_X2 tyX2 tyX2_ok nmX2 hown hK.1 hP hD hS 0 rfl rfl 11 (by decide) (hts (.fieldLink RX2 92 "TextEnds" "hits" "I") (List.mem_of_getElem? (i := 3) rfl)) (fun _ h9 => h9) rfl (by decide +kernel) rfl rfl (Nat.le_of_ble_eq_true rfl) dX2_search_29 (fun H locs hP hD hS => ?_)
    have hP : va_P D vwCl [(b 0, .inr (2, te b a sg len pl bt (zff len T pt od pl 0) ((zff len T pt od pl 1) - (zff len T pt od pl 0)))), (b 1, .inl (cI, nT, .inl (zA T))), (a 2, .inl (cI, nO, .inl (zA od))), (b 2, .inl (cI, nP, .inl (zA pt)))] H := hP
    have hD : va_D A [(b 0, .inr (2, te b a sg len pl bt (zff len T pt od pl 0) ((zff len T pt od pl 1) - (zff len T pt od pl 0)))), (b 1, .inl (cI, nT, .inl (zA T))), (a 2, .inl (cI, nO, .inl (zA od))), (b 2, .inl (cI, nP, .inl (zA pt)))] := hD
    refine lv_aload_n hx hb dX2_search_32 rfl (lv_at hl 0 rfl) ?_
    refine va_get (D := D) (ci := 2) (v := .int (zI ((zff len T pt od pl 1) - (zff len T pt od pl 0)))) (C := RX2) (T := TX2) (N := 12) hx hb hts inX2_search_X2 hown hK.1 hP 0 rfl rfl 11 (by decide) (hts (.fieldLink RX2 92 "TextEnds" "hits" "I") (List.mem_of_getElem? (i := 3) rfl)) (fun _ h9 => h9) rfl dX2_search_33 ?_
    have hP : va_P D vwCl [(b 0, .inr (2, te b a sg len pl bt (if bt = 0 then fh else zff len T pt od pl 0) (if bt = 0 then ht else zff len T pt od pl 1 - zff len T pt od pl 0))), (b 1, .inl (cI, nT, .inl (zA T))), (a 2, .inl (cI, nO, .inl (zA od))), (b 2, .inl (cI, nP, .inl (zA pt)))] H := by (simp only [if_neg hz]; exact hP)
    have hD : va_D A [(b 0, .inr (2, te b a sg len pl bt (if bt = 0 then fh else zff len T pt od pl 0) (if bt = 0 then ht else zff len T pt od pl 1 - zff len T pt od pl 0))), (b 1, .inl (cI, nT, .inl (zA T))), (a 2, .inl (cI, nO, .inl (zA od))), (b 2, .inl (cI, nP, .inl (zA pt)))] := by (simp only [if_neg hz]; exact hD)
    exact W.iret (v := zI ((zff len T pt od pl 1) - (zff len T pt od pl 0))) hx hb hr (fun t ht_ hW_ => ⟨⟨(zff len T pt od pl 1) - (zff len T pt od pl 0), (), rfl, ⟨by rw [if_neg hz], trivial⟩, by rw [ht_]; exact hP, hD⟩, hS.F ht_⟩) hS.2.2 dX2_search_36
  · skip
    have hz := h_1
    refine lv_iconst (v := zI (-1)) hx hb dX2_search_7 (by first | rfl | decide) ?_
    have hP : va_P D vwCl [(b 0, .inr (2, te b a sg len pl bt (if bt = 0 then fh else zff len T pt od pl 0) (if bt = 0 then ht else zff len T pt od pl 1 - zff len T pt od pl 0))), (b 1, .inl (cI, nT, .inl (zA T))), (a 2, .inl (cI, nO, .inl (zA od))), (b 2, .inl (cI, nP, .inl (zA pt)))] s.heap := by (simp only [if_pos hz]; exact hP)
    have hD : va_D A [(b 0, .inr (2, te b a sg len pl bt (if bt = 0 then fh else zff len T pt od pl 0) (if bt = 0 then ht else zff len T pt od pl 1 - zff len T pt od pl 0))), (b 1, .inl (cI, nT, .inl (zA T))), (a 2, .inl (cI, nO, .inl (zA od))), (b 2, .inl (cI, nP, .inl (zA pt)))] := by (simp only [if_pos hz]; exact hD)
    exact W.iret (v := zI (-1)) hx hb hr (fun t ht_ hW_ => ⟨⟨(-1), (), rfl, ⟨by rw [if_pos hz], trivial⟩, by rw [ht_]; exact hP, hD⟩, hS.F ht_⟩) hS.2.2 dX2_search_8
set_option maxHeartbeats 4000000 in
set_option maxRecDepth 100000 in
/-- hit(k) -/
theorem kX2_hit (l : Launch) (D : va_G) (cI cZ cL : ClassId) (b a : Nat → Nat) (sg len pl bt fh ht : Int) (nO : Nat) (od : Int → Int) (k : Int) (bnO : (nO : Int) < 1073741824) (hht : 0 ≤ ht ∧ ht ≤ 1000000) (hfh : 0 ≤ fh ∧ fh ≤ 1000000) (hk : zR k) : Met l yX2_hit wsX2_hit ({ frames := 1, cells := 0, slots := 0, locals := 21 }) (zPr D cI cZ cL [.ref (b 0), .int (zI k)] [(b 0, .inr (2, te b a sg len pl bt fh ht)), (a 2, .inl (cI, nO, .inl (zA od)))]) (zQi (fun r => r = zhc ht nO od fh k)) 0 0 (fun _ => False) := by
  refine Met.ofW (cc := cX2_hit) (maxL := 2) (ret := (some .int)) (by decide) rfl ?_
  intro p e s m args below meth c s₁ B hml hv
  obtain ⟨rfl, hP, hK⟩ := hv
  have hx := B.exec
  have hb := B.bytes
  have hr := B.returns
  have hts := atoms_spec (ws := wsX2_hit) B.pre
  have hown : s.vm.findClass RX2 = some m.cls := findClass_of_methodNamed B.named
  have hlocks := B.notSynchronized
  have hP : va_P D vwCl [(b 0, .inr (2, te b a sg len pl bt fh ht)), (a 2, .inl (cI, nO, .inl (zA od)))] s.heap := hP
  have hl := lv_entry ([.ref (b 0), .int (zI k)]) (n := 2) (Nat.le_of_ble_eq_true rfl)
  rw [lg_entry_eq]
  generalize (lg_sl ([.ref (b 0), .int (zI k)]) ++ List.replicate (2 - (lg_sl ([.ref (b 0), .int (zI k)])).length) Slot.unset).toArray = ls at hl ⊢
  have hl : lv_has ls 2 [(0, .ref (b 0)), (1, .int (zI k))] := hl
  refine lv_iload_n hx hb dX2_hit_0 rfl (lv_at hl 1 rfl) ?_
  refine z_if_lt (tgt := 28) hx hb dX2_hit_1 (by decide) (by omega) (fun h_1 => ?_) (fun h_1 => ?_)
  · skip
    refine lv_iconst (v := zI (-1)) hx hb dX2_hit_28 (by first | rfl | decide) ?_
    exact W.iret (v := zI (-1)) hx hb hr (fun t ht_ hW_ => ⟨(-1), rfl, by show _ = zhc ht nO od fh k; unfold zhc; first | rw [if_neg (by omega)] | rw [if_pos ⟨by omega, by omega⟩], ht_⟩) (fun q h => by cases h) dX2_hit_29
  · skip
    refine lv_iload_n hx hb dX2_hit_4 rfl (lv_at hl 1 rfl) ?_
    refine lv_aload_n hx hb dX2_hit_5 rfl (lv_at hl 0 rfl) ?_
    refine va_get (D := D) (ci := 2) (v := .int (zI ht)) (C := RX2) (T := TX2) (N := 12) hx hb hts inX2_hit_X2 hown hK.1 hP 0 rfl rfl 11 (by decide) (hts (.fieldLink RX2 92 "TextEnds" "hits" "I") (List.mem_of_getElem? (i := 1) rfl)) (fun _ h9 => h9) rfl dX2_hit_6 ?_
    refine z_icmp_ge (tgt := 28) hx hb dX2_hit_9 (by decide) (by omega) (by omega) (fun h_2 => ?_) (fun h_2 => ?_)
    · skip
      refine lv_iconst (v := zI (-1)) hx hb dX2_hit_28 (by first | rfl | decide) ?_
      exact W.iret (v := zI (-1)) hx hb hr (fun t ht_ hW_ => ⟨(-1), rfl, by show _ = zhc ht nO od fh k; unfold zhc; first | rw [if_neg (by omega)] | rw [if_pos ⟨by omega, by omega⟩], ht_⟩) (fun q h => by cases h) dX2_hit_29
    · skip
      refine lv_aload_n hx hb dX2_hit_12 rfl (lv_at hl 0 rfl) ?_
      refine va_get (D := D) (ci := 2) (v := .ref (a 2)) (C := RX2) (T := TX2) (N := 12) hx hb hts inX2_hit_X2 hown hK.1 hP 0 rfl rfl 3 (by decide) (hts (.fieldLink RX2 34 "TextEnds" "order" "[I") (List.mem_of_getElem? (i := 2) rfl)) (fun _ h9 => h9) rfl dX2_hit_13 ?_
      refine lv_aload_n hx hb dX2_hit_16 rfl (lv_at hl 0 rfl) ?_
      refine va_get (D := D) (ci := 2) (v := .int (zI fh)) (C := RX2) (T := TX2) (N := 12) hx hb hts inX2_hit_X2 hown hK.1 hP 0 rfl rfl 10 (by decide) (hts (.fieldLink RX2 89 "TextEnds" "firstHit" "I") (List.mem_of_getElem? (i := 3) rfl)) (fun _ h9 => h9) rfl dX2_hit_17 ?_
      refine lv_iload_n hx hb dX2_hit_20 rfl (lv_at hl 1 rfl) ?_
      refine z_iadd hx hb dX2_hit_21 ?_
      refine z_cr (va_runS (As := [.ref (a 2), .int (zI (fh + k))]) (rest := []) ⟨hx, hb, hml, hown, hts⟩ (kX2_at l D cI cZ cL (a 2) nO od (fh + k) (by omega) (by omega)) (va_cwS 2 hts gX2_hit_X2_at rfl rfl rfl (by decide +kernel) ⟨Nat.le_of_ble_eq_true rfl, Nat.le_of_ble_eq_true rfl⟩) (zPr_pre hK (hP.sub (ws' := [(a 2, .inl (cI, nO, .inl (zA od)))]) [1] rfl)) rfl rfl hl.1 rfl (lv_room (Nat.le_of_ble_eq_true rfl)) dX2_hit_22 ⟨Nat.zero_le _, Nat.zero_le _⟩) (fun r hr_ => ?_)
      subst hr_
      refine lv_goto (tgt := 29) hx hb dX2_hit_25 (by decide) ?_
      exact W.iret (v := zI (zat nO od (fh + k))) hx hb hr (fun t ht_ hW_ => ⟨zat nO od (fh + k), rfl, by show _ = zhc ht nO od fh k; unfold zhc; first | rw [if_neg (by omega)] | rw [if_pos ⟨by omega, by omega⟩], ht_⟩) (fun q h => by cases h) dX2_hit_29
set_option maxHeartbeats 4000000 in
set_option maxRecDepth 100000 in
/-- longestAlike() -/
theorem kX2_longestAlike (l : Launch) (D : va_G) (cI cZ cL : ClassId) (b a : Nat → Nat) (sg len pl bt fh ht : Int) (nA : Nat) (al : Int → Int) (hlen : 0 ≤ len ∧ len ≤ 1000000) (hlA : len ≤ (nA : Int)) (bnA : (nA : Int) < 1073741824) (hal : zS al) : Met l yX2_longestAlike wsX2_longestAlike ({ frames := 1, cells := 0, slots := 0, locals := 30 }) (zPr D cI cZ cL [.ref (b 0)] [(b 0, .inr (2, te b a sg len pl bt fh ht)), (b 4, .inl (cI, nA, .inl (zA al)))]) (zQi (fun r => r = zmx al len)) 0 0 (fun _ => False) := by
  refine Met.ofW (cc := cX2_longestAlike) (maxL := 3) (ret := (some .int)) (by decide) rfl ?_
  intro p e s m args below meth c s₁ B hml hv
  obtain ⟨rfl, hP, hK⟩ := hv
  have hx := B.exec
  have hb := B.bytes
  have hr := B.returns
  have hts := atoms_spec (ws := wsX2_longestAlike) B.pre
  have hown : s.vm.findClass RX2 = some m.cls := findClass_of_methodNamed B.named
  have hlocks := B.notSynchronized
  have hP : va_P D vwCl [(b 0, .inr (2, te b a sg len pl bt fh ht)), (b 4, .inl (cI, nA, .inl (zA al)))] s.heap := hP
  have hl := lv_entry ([.ref (b 0)]) (n := 3) (Nat.le_of_ble_eq_true rfl)
  rw [lg_entry_eq]
  generalize (lg_sl ([.ref (b 0)]) ++ List.replicate (3 - (lg_sl ([.ref (b 0)])).length) Slot.unset).toArray = ls at hl ⊢
  have hl : lv_has ls 3 [(0, .ref (b 0))] := hl
  refine lv_iconst (v := zI 0) hx hb dX2_longestAlike_0 (by first | rfl | decide) ?_
  refine lv_istore_n (lv' := [(1, .int (zI 0)), (0, .ref (b 0))]) hx hb dX2_longestAlike_1 rfl hl (by decide) rfl (fun ls hl => ?_)
  refine lv_iconst (v := zI 1) hx hb dX2_longestAlike_2 (by first | rfl | decide) ?_
  refine lv_istore_n (lv' := [(2, .int (zI 1)), (1, .int (zI 0)), (0, .ref (b 0))]) hx hb dX2_longestAlike_3 rfl hl (by decide) rfl (fun ls hl => ?_)
  have loop4 : ∀ (nn : Nat) (k : Int) (mx : Int) (ls : Array Slot), (1 ≤ k ∧ (k ≤ len ∨ k = 1)) → (0 ≤ mx ∧ mx ≤ 1000000) → (mx = zit (stM al) (k - 1).toNat 0) → ((len - k).toNat) < nn → lv_has ls 3 [(0, .ref (b 0)), (1, .int (zI mx)), (2, .int (zI k))] → W p l e (headSpec wsX2_longestAlike ({ frames := 1, cells := 0, slots := 0, locals := 30 })).room s m ([.ref (b 0)] : List Value).toArray below meth c s.heap [] 0 0 (MQ below (zQi (fun r => r = zmx al len)) ([.ref (b 0)] : List Value).toArray s 0 0 (fun _ => False)) (F0 m 4 ls []) := by
    intro nn
    induction nn with
    | zero =>
      intros
      exact absurd (by assumption : _ < 0) (Nat.not_lt_zero _)
    | succ nn ih4 =>
      intro k mx ls h0 hm hq hmu hl
      refine lv_iload_n hx hb dX2_longestAlike_4 rfl (lv_at hl 2 rfl) ?_
      refine lv_aload_n hx hb dX2_longestAlike_5 rfl (lv_at hl 0 rfl) ?_
      refine va_get (D := D) (ci := 2) (v := .int (zI len)) (C := RX2) (T := TX2) (N := 12) hx hb hts inX2_longestAlike_X2 hown hK.1 hP 0 rfl rfl 7 (by decide) (hts (.fieldLink RX2 48 "TextEnds" "length" "I") (List.mem_of_getElem? (i := 1) rfl)) (fun _ h9 => h9) rfl dX2_longestAlike_6 ?_
      refine z_icmp_ge (tgt := 29) hx hb dX2_longestAlike_9 (by decide) (by omega) (by omega) (fun h_1 => ?_) (fun h_1 => ?_)
      · skip
        refine lv_iload_n hx hb dX2_longestAlike_29 rfl (lv_at hl 1 rfl) ?_
        exact W.iret (v := zI mx) hx hb hr (fun t ht_ hW_ => ⟨mx, rfl, by show _ = zmx al len; unfold zmx; rw [hq, show (k - 1).toNat = (len - 1).toNat by omega], ht_⟩) (fun q h => by cases h) dX2_longestAlike_30
      · skip
        have hk1 := hal k
        refine lv_iload_n hx hb dX2_longestAlike_12 rfl (lv_at hl 1 rfl) ?_
        refine lv_aload_n hx hb dX2_longestAlike_13 rfl (lv_at hl 0 rfl) ?_
        refine va_get (D := D) (ci := 2) (v := .ref (b 4)) (C := RX2) (T := TX2) (N := 12) hx hb hts inX2_longestAlike_X2 hown hK.1 hP 0 rfl rfl 6 (by decide) (hts (.fieldLink RX2 41 "TextEnds" "alike" "[I") (List.mem_of_getElem? (i := 2) rfl)) (fun _ h9 => h9) rfl dX2_longestAlike_14 ?_
        refine lv_iload_n hx hb dX2_longestAlike_17 rfl (lv_at hl 2 rfl) ?_
        refine z_iald hx hb hK.1 hP 1 0 rfl rfl dX2_longestAlike_18 (by omega) (by omega) (by omega) ?_
        refine va_mmax hx hb (hml.trans hl.1.symm) hown (hts (.methodLink RX2 114 Lib.Math.max.name) (List.mem_of_getElem? (i := 3) rfl)) (hts (.static Lib.Math.max.name) (List.mem_of_getElem? (i := 4) rfl)) (hts (.initialized "java/lang/Math") (List.mem_of_getElem? (i := 5) rfl)) (hts (.code Lib.Math.max.name Lib.Math.max.code 2 (some .int)) (List.mem_of_getElem? (i := 6) rfl)) (Nat.le_of_ble_eq_true rfl) (Nat.le_of_ble_eq_true rfl) (Nat.zero_le _) (Nat.zero_le _) dX2_longestAlike_19 ?_
        refine z_topx (b := zmax mx (al k)) (zmax_I (by omega) (by omega)) ?_
        refine lv_istore_n (lv' := [(1, .int (zI (zmax mx (al k)))), (0, .ref (b 0)), (2, .int (zI k))]) hx hb dX2_longestAlike_22 rfl hl (by decide) rfl (fun ls hl => ?_)
        refine lv_iinc (v := zI (k + 1)) (lv' := [(2, .int (zI (k + 1))), (1, .int (zI (zmax mx (al k)))), (0, .ref (b 0))]) hx hb dX2_longestAlike_23 hl (k := 2) rfl (zI_add _ _) (by decide) rfl (fun ls hl => ?_)
        refine lv_goto (tgt := 4) hx hb dX2_longestAlike_26 (by decide) ?_
        exact ih4 (k + 1) (zmax mx (al k)) ls (by omega) (by unfold zmax; have := hal k; split <;> omega) (stM_s hq h0.1) (by omega) (lv_sub hl [2, 1, 0] rfl)
  exact loop4 _ 1 0 ls (by omega) (by omega) (rfl) (Nat.lt_succ_self _) (lv_sub hl [2, 1, 0] rfl)
set_option maxHeartbeats 4000000 in
set_option maxRecDepth 100000 in
/-- repeated() -/
theorem kX2_repeated (l : Launch) (D : va_G) (cI cZ cL : ClassId) (b a : Nat → Nat) (sg len pl bt fh ht : Int) (nA : Nat) (al : Int → Int) (hlen : 0 ≤ len ∧ len ≤ 1000000) (hbt : bt = 0 ∨ bt = 1) (hlA : len ≤ (nA : Int)) (bnA : (nA : Int) < 1073741824) (hal : zS al) : Met l yX2_repeated wsX2_repeated ({ frames := 2, cells := 0, slots := 0, locals := 52 }) (zPr D cI cZ cL [.ref (b 0)] [(b 0, .inr (2, te b a sg len pl bt fh ht)), (b 4, .inl (cI, nA, .inl (zA al)))]) (zQi (fun r => r = zrp bt len al)) 0 0 (fun _ => False) := by
  refine Met.ofW (cc := cX2_repeated) (maxL := 1) (ret := (some .int)) (by decide) rfl ?_
  intro p e s m args below meth c s₁ B hml hv
  obtain ⟨rfl, hP, hK⟩ := hv
  have hx := B.exec
  have hb := B.bytes
  have hr := B.returns
  have hts := atoms_spec (ws := wsX2_repeated) B.pre
  have hown : s.vm.findClass RX2 = some m.cls := findClass_of_methodNamed B.named
  have hlocks := B.notSynchronized
  have hP : va_P D vwCl [(b 0, .inr (2, te b a sg len pl bt fh ht)), (b 4, .inl (cI, nA, .inl (zA al)))] s.heap := hP
  have hl := lv_entry ([.ref (b 0)]) (n := 1) (Nat.le_of_ble_eq_true rfl)
  rw [lg_entry_eq]
  generalize (lg_sl ([.ref (b 0)]) ++ List.replicate (1 - (lg_sl ([.ref (b 0)])).length) Slot.unset).toArray = ls at hl ⊢
  have hl : lv_has ls 1 [(0, .ref (b 0))] := hl
  refine lv_aload_n hx hb dX2_repeated_0 rfl (lv_at hl 0 rfl) ?_
  refine va_get (D := D) (ci := 2) (v := .int (zI bt)) (C := RX2) (T := TX2) (N := 12) hx hb hts inX2_repeated_X2 hown hK.1 hP 0 rfl rfl 9 (by decide) (hts (.fieldLink RX2 51 "TextEnds" "built" "Z") (List.mem_of_getElem? (i := 1) rfl)) (fun _ h9 => h9) rfl dX2_repeated_1 ?_
  refine z_if_eq (tgt := 14) hx hb dX2_repeated_4 (by decide) (by omega) (fun h_1 => ?_) (fun h_1 => ?_)
  · skip
    have hz := h_1
    refine lv_iconst (v := zI (-1)) hx hb dX2_repeated_14 (by first | rfl | decide) ?_
    exact W.iret (v := zI (-1)) hx hb hr (fun t ht_ hW_ => ⟨(-1), rfl, by show _ = zrp bt len al; unfold zrp; first | rw [if_pos hz] | rw [if_neg hz], ht_⟩) (fun q h => by cases h) dX2_repeated_15
  · skip
    have hz := h_1
    refine lv_aload_n hx hb dX2_repeated_7 rfl (lv_at hl 0 rfl) ?_
    refine z_cr (va_runV (As := []) (rest := []) ⟨hx, hb, hml, hown, hts⟩ (kX2_longestAlike l D cI cZ cL b a sg len pl bt fh ht nA al (by omega) (by omega) (by omega) (hal)) (cwV 0 hts gX2_repeated_X2_longestAlike rfl rfl rfl (by decide +kernel) ⟨Nat.le_of_ble_eq_true rfl, Nat.le_of_ble_eq_true rfl⟩) (zPr_preV (ci := 2) (q0 := 0) hK (hP.sub (ws' := [(b 0, .inr (2, te b a sg len pl bt fh ht)), (b 4, .inl (cI, nA, .inl (zA al)))]) [0, 1] rfl) rfl rfl) rfl rfl hl.1 rfl (lv_room (Nat.le_of_ble_eq_true rfl)) dX2_repeated_8 ⟨Nat.zero_le _, Nat.zero_le _⟩) (fun r hr_ => ?_)
    subst hr_
    refine lv_goto (tgt := 15) hx hb dX2_repeated_11 (by decide) ?_
    exact W.iret (v := zI (zmx al len)) hx hb hr (fun t ht_ hW_ => ⟨zmx al len, rfl, by show _ = zrp bt len al; unfold zrp; first | rw [if_pos hz] | rw [if_neg hz], ht_⟩) (fun q h => by cases h) dX2_repeated_15
set_option maxHeartbeats 4000000 in
set_option maxRecDepth 100000 in
/-- leastPlaceOf(longest) -/
theorem kX2_leastPlaceOf (l : Launch) (D : va_G) (cI cZ cL : ClassId) (b a : Nat → Nat) (sg len pl bt fh ht : Int) (nO nA : Nat) (od al : Int → Int) (lg : Int) (hlen : 0 ≤ len ∧ len ≤ 1000000) (hlO : len ≤ (nO : Int)) (bnO : (nO : Int) < 1073741824) (hlA : len ≤ (nA : Int)) (bnA : (nA : Int) < 1073741824) (hal : zS al) (hos : zS od) (hlg : zR lg) : Met l yX2_leastPlaceOf wsX2_leastPlaceOf ({ frames := 1, cells := 0, slots := 0, locals := 30 }) (zPr D cI cZ cL [.ref (b 0), .int (zI lg)] [(b 0, .inr (2, te b a sg len pl bt fh ht)), (a 2, .inl (cI, nO, .inl (zA od))), (b 4, .inl (cI, nA, .inl (zA al)))]) (zQi (fun r => r = zlp len nO al od lg)) 0 0 (fun _ => False) := by
  refine Met.ofW (cc := cX2_leastPlaceOf) (maxL := 4) (ret := (some .int)) (by decide) rfl ?_
  intro p e s m args below meth c s₁ B hml hv
  obtain ⟨rfl, hP, hK⟩ := hv
  have hx := B.exec
  have hb := B.bytes
  have hr := B.returns
  have hts := atoms_spec (ws := wsX2_leastPlaceOf) B.pre
  have hown : s.vm.findClass RX2 = some m.cls := findClass_of_methodNamed B.named
  have hlocks := B.notSynchronized
  have hP : va_P D vwCl [(b 0, .inr (2, te b a sg len pl bt fh ht)), (a 2, .inl (cI, nO, .inl (zA od))), (b 4, .inl (cI, nA, .inl (zA al)))] s.heap := hP
  have hl := lv_entry ([.ref (b 0), .int (zI lg)]) (n := 4) (Nat.le_of_ble_eq_true rfl)
  rw [lg_entry_eq]
  generalize (lg_sl ([.ref (b 0), .int (zI lg)]) ++ List.replicate (4 - (lg_sl ([.ref (b 0), .int (zI lg)])).length) Slot.unset).toArray = ls at hl ⊢
  have hl : lv_has ls 4 [(0, .ref (b 0)), (1, .int (zI lg))] := hl
  refine lv_iconst (v := zI 1) hx hb dX2_leastPlaceOf_0 (by first | rfl | decide) ?_
  refine lv_istore_n (lv' := [(2, .int (zI 1)), (0, .ref (b 0)), (1, .int (zI lg))]) hx hb dX2_leastPlaceOf_1 rfl hl (by decide) rfl (fun ls hl => ?_)
  have loop2 : ∀ (nn : Nat) (k : Int) (ls : Array Slot), (1 ≤ k ∧ (k ≤ len ∨ k = 1)) → (zfn al lg (len - k).toNat k = zfn al lg (len - 1).toNat 1) → ((len - k).toNat) < nn → lv_has ls 4 [(0, .ref (b 0)), (1, .int (zI lg)), (2, .int (zI k))] → W p l e (headSpec wsX2_leastPlaceOf ({ frames := 1, cells := 0, slots := 0, locals := 30 })).room s m ([.ref (b 0), .int (zI lg)] : List Value).toArray below meth c s.heap [] 0 0 (MQ below (zQi (fun r => r = zlp len nO al od lg)) ([.ref (b 0), .int (zI lg)] : List Value).toArray s 0 0 (fun _ => False)) (F0 m 2 ls []) := by
    intro nn
    induction nn with
    | zero =>
      intros
      exact absurd (by assumption : _ < 0) (Nat.not_lt_zero _)
    | succ nn ih2 =>
      intro k ls h0 hq hmu hl
      refine lv_iload_n hx hb dX2_leastPlaceOf_2 rfl (lv_at hl 2 rfl) ?_
      refine lv_aload_n hx hb dX2_leastPlaceOf_3 rfl (lv_at hl 0 rfl) ?_
      refine va_get (D := D) (ci := 2) (v := .int (zI len)) (C := RX2) (T := TX2) (N := 12) hx hb hts inX2_leastPlaceOf_X2 hown hK.1 hP 0 rfl rfl 7 (by decide) (hts (.fieldLink RX2 48 "TextEnds" "length" "I") (List.mem_of_getElem? (i := 1) rfl)) (fun _ h9 => h9) rfl dX2_leastPlaceOf_4 ?_
      refine z_icmp_ge (tgt := 26) hx hb dX2_leastPlaceOf_7 (by decide) (by omega) (by omega) (fun h_1 => ?_) (fun h_1 => ?_)
      · skip
        have hkk : zfn al lg (len - k).toNat k = k := by first | exact zfn_at (by with_reducible assumption) | exact zfn_0 (by omega)
        refine lv_aload_n hx hb dX2_leastPlaceOf_26 rfl (lv_at hl 0 rfl) ?_
        refine va_get (D := D) (ci := 2) (v := .ref (a 2)) (C := RX2) (T := TX2) (N := 12) hx hb hts inX2_leastPlaceOf_X2 hown hK.1 hP 0 rfl rfl 3 (by decide) (hts (.fieldLink RX2 34 "TextEnds" "order" "[I") (List.mem_of_getElem? (i := 3) rfl)) (fun _ h9 => h9) rfl dX2_leastPlaceOf_27 ?_
        refine lv_iload_n hx hb dX2_leastPlaceOf_30 rfl (lv_at hl 2 rfl) ?_
        refine lv_iconst (v := zI 1) hx hb dX2_leastPlaceOf_31 (by first | rfl | decide) ?_
        refine z_isub hx hb dX2_leastPlaceOf_32 ?_
        refine z_cr (va_runS (As := [.ref (a 2), .int (zI (k - 1))]) (rest := []) ⟨hx, hb, hml, hown, hts⟩ (kX2_at l D cI cZ cL (a 2) nO od (k - 1) (by omega) (by omega)) (va_cwS 2 hts gX2_leastPlaceOf_X2_at rfl rfl rfl (by decide +kernel) ⟨Nat.le_of_ble_eq_true rfl, Nat.le_of_ble_eq_true rfl⟩) (zPr_pre hK (hP.sub (ws' := [(a 2, .inl (cI, nO, .inl (zA od)))]) [1] rfl)) rfl rfl hl.1 rfl (lv_room (Nat.le_of_ble_eq_true rfl)) dX2_leastPlaceOf_33 ⟨Nat.zero_le _, Nat.zero_le _⟩) (fun r hr_ => ?_)
        subst hr_
        refine lv_istore_n (lv' := [(3, .int (zI (zat nO od (k - 1)))), (0, .ref (b 0)), (1, .int (zI lg)), (2, .int (zI k))]) hx hb dX2_leastPlaceOf_36 rfl hl (by decide) rfl (fun ls hl => ?_)
        have loop37 : ∀ (nn : Nat) (j : Int) (ls_ : Int) (ls : Array Slot), (1 ≤ j ∧ (j ≤ len ∨ j = 1)) → (-1000000 ≤ ls_ ∧ ls_ ≤ 1000000) → (zls al od lg (len - j).toNat j ls_ = zlp len nO al od lg) → ((len - j).toNat) < nn → lv_has ls 4 [(0, .ref (b 0)), (1, .int (zI lg)), (2, .int (zI j)), (3, .int (zI ls_))] → W p l e (headSpec wsX2_leastPlaceOf ({ frames := 1, cells := 0, slots := 0, locals := 30 })).room s m ([.ref (b 0), .int (zI lg)] : List Value).toArray below meth c s.heap [] 0 0 (MQ below (zQi (fun r => r = zlp len nO al od lg)) ([.ref (b 0), .int (zI lg)] : List Value).toArray s 0 0 (fun _ => False)) (F0 m 37 ls []) := by
          intro nn
          induction nn with
          | zero =>
            intros
            exact absurd (by assumption : _ < 0) (Nat.not_lt_zero _)
          | succ nn ih37 =>
            intro j ls_ ls g0 gl gq hmu hl
            refine lv_iload_n hx hb dX2_leastPlaceOf_37 rfl (lv_at hl 2 rfl) ?_
            refine lv_aload_n hx hb dX2_leastPlaceOf_38 rfl (lv_at hl 0 rfl) ?_
            refine va_get (D := D) (ci := 2) (v := .int (zI len)) (C := RX2) (T := TX2) (N := 12) hx hb hts inX2_leastPlaceOf_X2 hown hK.1 hP 0 rfl rfl 7 (by decide) (hts (.fieldLink RX2 48 "TextEnds" "length" "I") (List.mem_of_getElem? (i := 1) rfl)) (fun _ h9 => h9) rfl dX2_leastPlaceOf_39 ?_
            refine z_icmp_ge (tgt := 72) hx hb dX2_leastPlaceOf_42 (by decide) (by omega) (by omega) (fun h_2 => ?_) (fun h_2 => ?_)
            · skip
              refine lv_iload_n hx hb dX2_leastPlaceOf_72 rfl (lv_at hl 3 rfl) ?_
              exact W.iret (v := zI ls_) hx hb hr (fun t ht_ hW_ => ⟨ls_, rfl, by rw [← gq]; first | exact (zls_at (by with_reducible assumption)).symm | exact (zls_0 (by omega)).symm, ht_⟩) (fun q h => by cases h) dX2_leastPlaceOf_73
            · skip
              have hk2 := hal j
              have hk3 := hos j
              refine lv_aload_n hx hb dX2_leastPlaceOf_45 rfl (lv_at hl 0 rfl) ?_
              refine va_get (D := D) (ci := 2) (v := .ref (b 4)) (C := RX2) (T := TX2) (N := 12) hx hb hts inX2_leastPlaceOf_X2 hown hK.1 hP 0 rfl rfl 6 (by decide) (hts (.fieldLink RX2 41 "TextEnds" "alike" "[I") (List.mem_of_getElem? (i := 2) rfl)) (fun _ h9 => h9) rfl dX2_leastPlaceOf_46 ?_
              refine lv_iload_n hx hb dX2_leastPlaceOf_49 rfl (lv_at hl 2 rfl) ?_
              refine z_iald hx hb hK.1 hP 2 0 rfl rfl dX2_leastPlaceOf_50 (by omega) (by omega) (by omega) ?_
              refine lv_iload_n hx hb dX2_leastPlaceOf_51 rfl (lv_at hl 1 rfl) ?_
              refine z_icmp_ne (tgt := 72) hx hb dX2_leastPlaceOf_52 (by decide) (by omega) (by omega) (fun h_3 => ?_) (fun h_3 => ?_)
              · skip
                refine lv_iload_n hx hb dX2_leastPlaceOf_72 rfl (lv_at hl 3 rfl) ?_
                exact W.iret (v := zI ls_) hx hb hr (fun t ht_ hW_ => ⟨ls_, rfl, by rw [← gq]; first | exact (zls_at (by with_reducible assumption)).symm | exact (zls_0 (by omega)).symm, ht_⟩) (fun q h => by cases h) dX2_leastPlaceOf_73
              · skip
                refine lv_iload_n hx hb dX2_leastPlaceOf_55 rfl (lv_at hl 3 rfl) ?_
                refine lv_aload_n hx hb dX2_leastPlaceOf_56 rfl (lv_at hl 0 rfl) ?_
                refine va_get (D := D) (ci := 2) (v := .ref (a 2)) (C := RX2) (T := TX2) (N := 12) hx hb hts inX2_leastPlaceOf_X2 hown hK.1 hP 0 rfl rfl 3 (by decide) (hts (.fieldLink RX2 34 "TextEnds" "order" "[I") (List.mem_of_getElem? (i := 3) rfl)) (fun _ h9 => h9) rfl dX2_leastPlaceOf_57 ?_
                refine lv_iload_n hx hb dX2_leastPlaceOf_60 rfl (lv_at hl 2 rfl) ?_
                refine z_iald hx hb hK.1 hP 1 0 rfl rfl dX2_leastPlaceOf_61 (by omega) (by omega) (by omega) ?_
                refine va_mmin hx hb (hml.trans hl.1.symm) hown (hts (.methodLink RX2 109 Lib.Math.min.name) (List.mem_of_getElem? (i := 4) rfl)) (hts (.static Lib.Math.min.name) (List.mem_of_getElem? (i := 5) rfl)) (hts (.initialized "java/lang/Math") (List.mem_of_getElem? (i := 6) rfl)) (hts (.code Lib.Math.min.name Lib.Math.min.code 2 (some .int)) (List.mem_of_getElem? (i := 7) rfl)) (Nat.le_of_ble_eq_true rfl) (Nat.le_of_ble_eq_true rfl) (Nat.zero_le _) (Nat.zero_le _) dX2_leastPlaceOf_62 ?_
                refine z_topx (b := zmin ls_ (od j)) (zmin_I (by omega) (by omega)) ?_
                refine lv_istore_n (lv' := [(3, .int (zI (zmin ls_ (od j)))), (0, .ref (b 0)), (1, .int (zI lg)), (2, .int (zI j))]) hx hb dX2_leastPlaceOf_65 rfl hl (by decide) rfl (fun ls hl => ?_)
                refine lv_iinc (v := zI (j + 1)) (lv' := [(2, .int (zI (j + 1))), (3, .int (zI (zmin ls_ (od j)))), (0, .ref (b 0)), (1, .int (zI lg))]) hx hb dX2_leastPlaceOf_66 hl (k := 3) rfl (zI_add _ _) (by decide) rfl (fun ls hl => ?_)
                refine lv_goto (tgt := 37) hx hb dX2_leastPlaceOf_69 (by decide) ?_
                exact ih37 (j + 1) (zmin ls_ (od j)) ls (by omega) (by have := hos j; have := zmin_or (a := ls_) (b := od j); omega) (by rw [← gq, show (len - j).toNat = (len - (j + 1)).toNat + 1 by omega, zls_nx (by with_reducible assumption)]) (by omega) (lv_sub hl [2, 3, 0, 1] rfl)
        exact loop37 _ k (zat nO od (k - 1)) ls (by omega) (zat_S hos _ _) (by unfold zlp; rw [← hq, hkk]) (Nat.lt_succ_self _) (lv_sub hl [1, 2, 3, 0] rfl)
      · skip
        have hk1 := hal k
        refine lv_aload_n hx hb dX2_leastPlaceOf_10 rfl (lv_at hl 0 rfl) ?_
        refine va_get (D := D) (ci := 2) (v := .ref (b 4)) (C := RX2) (T := TX2) (N := 12) hx hb hts inX2_leastPlaceOf_X2 hown hK.1 hP 0 rfl rfl 6 (by decide) (hts (.fieldLink RX2 41 "TextEnds" "alike" "[I") (List.mem_of_getElem? (i := 2) rfl)) (fun _ h9 => h9) rfl dX2_leastPlaceOf_11 ?_
        refine lv_iload_n hx hb dX2_leastPlaceOf_14 rfl (lv_at hl 2 rfl) ?_
        refine z_iald hx hb hK.1 hP 2 0 rfl rfl dX2_leastPlaceOf_15 (by omega) (by omega) (by omega) ?_
        refine lv_iload_n hx hb dX2_leastPlaceOf_16 rfl (lv_at hl 1 rfl) ?_
        refine z_icmp_eq (tgt := 26) hx hb dX2_leastPlaceOf_17 (by decide) (by omega) (by omega) (fun h_4 => ?_) (fun h_4 => ?_)
        · skip
          have hkk : zfn al lg (len - k).toNat k = k := by first | exact zfn_at (by with_reducible assumption) | exact zfn_0 (by omega)
          refine lv_aload_n hx hb dX2_leastPlaceOf_26 rfl (lv_at hl 0 rfl) ?_
          refine va_get (D := D) (ci := 2) (v := .ref (a 2)) (C := RX2) (T := TX2) (N := 12) hx hb hts inX2_leastPlaceOf_X2 hown hK.1 hP 0 rfl rfl 3 (by decide) (hts (.fieldLink RX2 34 "TextEnds" "order" "[I") (List.mem_of_getElem? (i := 3) rfl)) (fun _ h9 => h9) rfl dX2_leastPlaceOf_27 ?_
          refine lv_iload_n hx hb dX2_leastPlaceOf_30 rfl (lv_at hl 2 rfl) ?_
          refine lv_iconst (v := zI 1) hx hb dX2_leastPlaceOf_31 (by first | rfl | decide) ?_
          refine z_isub hx hb dX2_leastPlaceOf_32 ?_
          refine z_cr (va_runS (As := [.ref (a 2), .int (zI (k - 1))]) (rest := []) ⟨hx, hb, hml, hown, hts⟩ (kX2_at l D cI cZ cL (a 2) nO od (k - 1) (by omega) (by omega)) (va_cwS 2 hts gX2_leastPlaceOf_X2_at rfl rfl rfl (by decide +kernel) ⟨Nat.le_of_ble_eq_true rfl, Nat.le_of_ble_eq_true rfl⟩) (zPr_pre hK (hP.sub (ws' := [(a 2, .inl (cI, nO, .inl (zA od)))]) [1] rfl)) rfl rfl hl.1 rfl (lv_room (Nat.le_of_ble_eq_true rfl)) dX2_leastPlaceOf_33 ⟨Nat.zero_le _, Nat.zero_le _⟩) (fun r hr_ => ?_)
          subst hr_
          refine lv_istore_n (lv' := [(3, .int (zI (zat nO od (k - 1)))), (0, .ref (b 0)), (1, .int (zI lg)), (2, .int (zI k))]) hx hb dX2_leastPlaceOf_36 rfl hl (by decide) rfl (fun ls hl => ?_)
          have loop37 : ∀ (nn : Nat) (j : Int) (ls_ : Int) (ls : Array Slot), (1 ≤ j ∧ (j ≤ len ∨ j = 1)) → (-1000000 ≤ ls_ ∧ ls_ ≤ 1000000) → (zls al od lg (len - j).toNat j ls_ = zlp len nO al od lg) → ((len - j).toNat) < nn → lv_has ls 4 [(0, .ref (b 0)), (1, .int (zI lg)), (2, .int (zI j)), (3, .int (zI ls_))] → W p l e (headSpec wsX2_leastPlaceOf ({ frames := 1, cells := 0, slots := 0, locals := 30 })).room s m ([.ref (b 0), .int (zI lg)] : List Value).toArray below meth c s.heap [] 0 0 (MQ below (zQi (fun r => r = zlp len nO al od lg)) ([.ref (b 0), .int (zI lg)] : List Value).toArray s 0 0 (fun _ => False)) (F0 m 37 ls []) := by
            intro nn
            induction nn with
            | zero =>
              intros
              exact absurd (by assumption : _ < 0) (Nat.not_lt_zero _)
            | succ nn ih37 =>
              intro j ls_ ls g0 gl gq hmu hl
              refine lv_iload_n hx hb dX2_leastPlaceOf_37 rfl (lv_at hl 2 rfl) ?_
              refine lv_aload_n hx hb dX2_leastPlaceOf_38 rfl (lv_at hl 0 rfl) ?_
              refine va_get (D := D) (ci := 2) (v := .int (zI len)) (C := RX2) (T := TX2) (N := 12) hx hb hts inX2_leastPlaceOf_X2 hown hK.1 hP 0 rfl rfl 7 (by decide) (hts (.fieldLink RX2 48 "TextEnds" "length" "I") (List.mem_of_getElem? (i := 1) rfl)) (fun _ h9 => h9) rfl dX2_leastPlaceOf_39 ?_
              refine z_icmp_ge (tgt := 72) hx hb dX2_leastPlaceOf_42 (by decide) (by omega) (by omega) (fun h_5 => ?_) (fun h_5 => ?_)
              · skip
                refine lv_iload_n hx hb dX2_leastPlaceOf_72 rfl (lv_at hl 3 rfl) ?_
                exact W.iret (v := zI ls_) hx hb hr (fun t ht_ hW_ => ⟨ls_, rfl, by rw [← gq]; first | exact (zls_at (by with_reducible assumption)).symm | exact (zls_0 (by omega)).symm, ht_⟩) (fun q h => by cases h) dX2_leastPlaceOf_73
              · skip
                have hk2 := hal j
                have hk3 := hos j
                refine lv_aload_n hx hb dX2_leastPlaceOf_45 rfl (lv_at hl 0 rfl) ?_
                refine va_get (D := D) (ci := 2) (v := .ref (b 4)) (C := RX2) (T := TX2) (N := 12) hx hb hts inX2_leastPlaceOf_X2 hown hK.1 hP 0 rfl rfl 6 (by decide) (hts (.fieldLink RX2 41 "TextEnds" "alike" "[I") (List.mem_of_getElem? (i := 2) rfl)) (fun _ h9 => h9) rfl dX2_leastPlaceOf_46 ?_
                refine lv_iload_n hx hb dX2_leastPlaceOf_49 rfl (lv_at hl 2 rfl) ?_
                refine z_iald hx hb hK.1 hP 2 0 rfl rfl dX2_leastPlaceOf_50 (by omega) (by omega) (by omega) ?_
                refine lv_iload_n hx hb dX2_leastPlaceOf_51 rfl (lv_at hl 1 rfl) ?_
                refine z_icmp_ne (tgt := 72) hx hb dX2_leastPlaceOf_52 (by decide) (by omega) (by omega) (fun h_6 => ?_) (fun h_6 => ?_)
                · skip
                  refine lv_iload_n hx hb dX2_leastPlaceOf_72 rfl (lv_at hl 3 rfl) ?_
                  exact W.iret (v := zI ls_) hx hb hr (fun t ht_ hW_ => ⟨ls_, rfl, by rw [← gq]; first | exact (zls_at (by with_reducible assumption)).symm | exact (zls_0 (by omega)).symm, ht_⟩) (fun q h => by cases h) dX2_leastPlaceOf_73
                · skip
                  refine lv_iload_n hx hb dX2_leastPlaceOf_55 rfl (lv_at hl 3 rfl) ?_
                  refine lv_aload_n hx hb dX2_leastPlaceOf_56 rfl (lv_at hl 0 rfl) ?_
                  refine va_get (D := D) (ci := 2) (v := .ref (a 2)) (C := RX2) (T := TX2) (N := 12) hx hb hts inX2_leastPlaceOf_X2 hown hK.1 hP 0 rfl rfl 3 (by decide) (hts (.fieldLink RX2 34 "TextEnds" "order" "[I") (List.mem_of_getElem? (i := 3) rfl)) (fun _ h9 => h9) rfl dX2_leastPlaceOf_57 ?_
                  refine lv_iload_n hx hb dX2_leastPlaceOf_60 rfl (lv_at hl 2 rfl) ?_
                  refine z_iald hx hb hK.1 hP 1 0 rfl rfl dX2_leastPlaceOf_61 (by omega) (by omega) (by omega) ?_
                  refine va_mmin hx hb (hml.trans hl.1.symm) hown (hts (.methodLink RX2 109 Lib.Math.min.name) (List.mem_of_getElem? (i := 4) rfl)) (hts (.static Lib.Math.min.name) (List.mem_of_getElem? (i := 5) rfl)) (hts (.initialized "java/lang/Math") (List.mem_of_getElem? (i := 6) rfl)) (hts (.code Lib.Math.min.name Lib.Math.min.code 2 (some .int)) (List.mem_of_getElem? (i := 7) rfl)) (Nat.le_of_ble_eq_true rfl) (Nat.le_of_ble_eq_true rfl) (Nat.zero_le _) (Nat.zero_le _) dX2_leastPlaceOf_62 ?_
                  refine z_topx (b := zmin ls_ (od j)) (zmin_I (by omega) (by omega)) ?_
                  refine lv_istore_n (lv' := [(3, .int (zI (zmin ls_ (od j)))), (0, .ref (b 0)), (1, .int (zI lg)), (2, .int (zI j))]) hx hb dX2_leastPlaceOf_65 rfl hl (by decide) rfl (fun ls hl => ?_)
                  refine lv_iinc (v := zI (j + 1)) (lv' := [(2, .int (zI (j + 1))), (3, .int (zI (zmin ls_ (od j)))), (0, .ref (b 0)), (1, .int (zI lg))]) hx hb dX2_leastPlaceOf_66 hl (k := 3) rfl (zI_add _ _) (by decide) rfl (fun ls hl => ?_)
                  refine lv_goto (tgt := 37) hx hb dX2_leastPlaceOf_69 (by decide) ?_
                  exact ih37 (j + 1) (zmin ls_ (od j)) ls (by omega) (by have := hos j; have := zmin_or (a := ls_) (b := od j); omega) (by rw [← gq, show (len - j).toNat = (len - (j + 1)).toNat + 1 by omega, zls_nx (by with_reducible assumption)]) (by omega) (lv_sub hl [2, 3, 0, 1] rfl)
          exact loop37 _ k (zat nO od (k - 1)) ls (by omega) (zat_S hos _ _) (by unfold zlp; rw [← hq, hkk]) (Nat.lt_succ_self _) (lv_sub hl [1, 2, 3, 0] rfl)
        · skip
          refine lv_iinc (v := zI (k + 1)) (lv' := [(2, .int (zI (k + 1))), (0, .ref (b 0)), (1, .int (zI lg))]) hx hb dX2_leastPlaceOf_20 hl (k := 2) rfl (zI_add _ _) (by decide) rfl (fun ls hl => ?_)
          refine lv_goto (tgt := 2) hx hb dX2_leastPlaceOf_23 (by decide) ?_
          exact ih2 (k + 1) ls (by omega) (by rw [← hq, show (len - k).toNat = (len - (k + 1)).toNat + 1 by omega, zfn_nx (by with_reducible assumption)]) (by omega) (lv_sub hl [1, 2, 0] rfl)
  exact loop2 _ 1 ls (by omega) (rfl) (Nat.lt_succ_self _) (lv_sub hl [1, 2, 0] rfl)
set_option maxHeartbeats 4000000 in
set_option maxRecDepth 100000 in
/-- repeatedAt() -/
theorem kX2_repeatedAt (l : Launch) (D : va_G) (cI cZ cL : ClassId) (b a : Nat → Nat) (sg len pl bt fh ht : Int) (nO nA : Nat) (od al : Int → Int) (hlen : 0 ≤ len ∧ len ≤ 1000000) (hbt : bt = 0 ∨ bt = 1) (hlO : len ≤ (nO : Int)) (bnO : (nO : Int) < 1073741824) (hlA : len ≤ (nA : Int)) (bnA : (nA : Int) < 1073741824) (hal : zS al) (hos : zS od) (hmx : zR (zmx al len)) : Met l yX2_repeatedAt wsX2_repeatedAt ({ frames := 2, cells := 0, slots := 0, locals := 53 }) (zPr D cI cZ cL [.ref (b 0)] [(b 0, .inr (2, te b a sg len pl bt fh ht)), (a 2, .inl (cI, nO, .inl (zA od))), (b 4, .inl (cI, nA, .inl (zA al)))]) (zQi (fun r => r = zra2 bt len nO al od)) 0 0 (fun _ => False) := by
  refine Met.ofW (cc := cX2_repeatedAt) (maxL := 2) (ret := (some .int)) (by decide) rfl ?_
  intro p e s m args below meth c s₁ B hml hv
  obtain ⟨rfl, hP, hK⟩ := hv
  have hx := B.exec
  have hb := B.bytes
  have hr := B.returns
  have hts := atoms_spec (ws := wsX2_repeatedAt) B.pre
  have hown : s.vm.findClass RX2 = some m.cls := findClass_of_methodNamed B.named
  have hlocks := B.notSynchronized
  have hP : va_P D vwCl [(b 0, .inr (2, te b a sg len pl bt fh ht)), (a 2, .inl (cI, nO, .inl (zA od))), (b 4, .inl (cI, nA, .inl (zA al)))] s.heap := hP
  have hl := lv_entry ([.ref (b 0)]) (n := 2) (Nat.le_of_ble_eq_true rfl)
  rw [lg_entry_eq]
  generalize (lg_sl ([.ref (b 0)]) ++ List.replicate (2 - (lg_sl ([.ref (b 0)])).length) Slot.unset).toArray = ls at hl ⊢
  have hl : lv_has ls 2 [(0, .ref (b 0))] := hl
  refine lv_aload_n hx hb dX2_repeatedAt_0 rfl (lv_at hl 0 rfl) ?_
  refine va_get (D := D) (ci := 2) (v := .int (zI bt)) (C := RX2) (T := TX2) (N := 12) hx hb hts inX2_repeatedAt_X2 hown hK.1 hP 0 rfl rfl 9 (by decide) (hts (.fieldLink RX2 51 "TextEnds" "built" "Z") (List.mem_of_getElem? (i := 1) rfl)) (fun _ h9 => h9) rfl dX2_repeatedAt_1 ?_
  refine z_if_eq (tgt := 14) hx hb dX2_repeatedAt_4 (by decide) (by omega) (fun h_1 => ?_) (fun h_1 => ?_)
  · skip
    have hz := h_1
    refine lv_iconst (v := zI 0) hx hb dX2_repeatedAt_14 (by first | rfl | decide) ?_
    refine lv_istore_n (lv' := [(1, .int (zI 0)), (0, .ref (b 0))]) hx hb dX2_repeatedAt_15 rfl hl (by decide) rfl (fun ls hl => ?_)
    refine lv_iload_n hx hb dX2_repeatedAt_16 rfl (lv_at hl 0 rfl) ?_
    refine z_if_le (tgt := 28) hx hb dX2_repeatedAt_17 (by decide) (by omega) (fun h_2 => ?_) (fun h_2 => ?_)
    · skip
      refine lv_iconst (v := zI (-1)) hx hb dX2_repeatedAt_28 (by first | rfl | decide) ?_
      exact W.iret (v := zI (-1)) hx hb hr (fun t ht_ hW_ => ⟨(-1), rfl, by show _ = zra2 bt len nO al od; unfold zra2; first | rw [if_pos (Or.inl hz)] | rw [if_pos (by omega)] | rw [if_neg (by omega)], ht_⟩) (fun q h => by cases h) dX2_repeatedAt_29
    · skip
      exact absurd h_2 (by decide)
  · skip
    have hz := h_1
    refine lv_aload_n hx hb dX2_repeatedAt_7 rfl (lv_at hl 0 rfl) ?_
    refine z_cr (va_runV (As := []) (rest := []) ⟨hx, hb, hml, hown, hts⟩ (kX2_longestAlike l D cI cZ cL b a sg len pl bt fh ht nA al (by omega) (by omega) (by omega) (hal)) (cwV 0 hts gX2_repeatedAt_X2_longestAlike rfl rfl rfl (by decide +kernel) ⟨Nat.le_of_ble_eq_true rfl, Nat.le_of_ble_eq_true rfl⟩) (zPr_preV (ci := 2) (q0 := 0) hK (hP.sub (ws' := [(b 0, .inr (2, te b a sg len pl bt fh ht)), (b 4, .inl (cI, nA, .inl (zA al)))]) [0, 2] rfl) rfl rfl) rfl rfl hl.1 rfl (lv_room (Nat.le_of_ble_eq_true rfl)) dX2_repeatedAt_8 ⟨Nat.zero_le _, Nat.zero_le _⟩) (fun r hr_ => ?_)
    subst hr_
    refine lv_goto (tgt := 15) hx hb dX2_repeatedAt_11 (by decide) ?_
    refine lv_istore_n (lv' := [(1, .int (zI (zmx al len))), (0, .ref (b 0))]) hx hb dX2_repeatedAt_15 rfl hl (by decide) rfl (fun ls hl => ?_)
    refine lv_iload_n hx hb dX2_repeatedAt_16 rfl (lv_at hl 0 rfl) ?_
    refine z_if_le (tgt := 28) hx hb dX2_repeatedAt_17 (by decide) (by omega) (fun h_3 => ?_) (fun h_3 => ?_)
    · skip
      refine lv_iconst (v := zI (-1)) hx hb dX2_repeatedAt_28 (by first | rfl | decide) ?_
      exact W.iret (v := zI (-1)) hx hb hr (fun t ht_ hW_ => ⟨(-1), rfl, by show _ = zra2 bt len nO al od; unfold zra2; first | rw [if_pos (Or.inl hz)] | rw [if_pos (by omega)] | rw [if_neg (by omega)], ht_⟩) (fun q h => by cases h) dX2_repeatedAt_29
    · skip
      refine lv_aload_n hx hb dX2_repeatedAt_20 rfl (lv_at hl 1 rfl) ?_
      refine lv_iload_n hx hb dX2_repeatedAt_21 rfl (lv_at hl 0 rfl) ?_
      refine z_cr (va_runV (As := [.int (zI (zmx al len))]) (rest := []) ⟨hx, hb, hml, hown, hts⟩ (kX2_leastPlaceOf l D cI cZ cL b a sg len pl bt fh ht nO nA od al (zmx al len) (by omega) (by omega) (by omega) (by omega) (by omega) (hal) (hos) (by omega)) (cwV 1 hts gX2_repeatedAt_X2_leastPlaceOf rfl rfl rfl (by decide +kernel) ⟨Nat.le_of_ble_eq_true rfl, Nat.le_of_ble_eq_true rfl⟩) (zPr_preV (ci := 2) (q0 := 0) hK (hP.sub (ws' := [(b 0, .inr (2, te b a sg len pl bt fh ht)), (a 2, .inl (cI, nO, .inl (zA od))), (b 4, .inl (cI, nA, .inl (zA al)))]) [0, 1, 2] rfl) rfl rfl) rfl rfl hl.1 rfl (lv_room (Nat.le_of_ble_eq_true rfl)) dX2_repeatedAt_22 ⟨Nat.zero_le _, Nat.zero_le _⟩) (fun r hr_ => ?_)
      subst hr_
      refine lv_goto (tgt := 29) hx hb dX2_repeatedAt_25 (by decide) ?_
      exact W.iret (v := zI (zlp len nO al od (zmx al len))) hx hb hr (fun t ht_ hW_ => ⟨zlp len nO al od (zmx al len), rfl, by show _ = zra2 bt len nO al od; unfold zra2; first | rw [if_pos (Or.inl hz)] | rw [if_pos (by omega)] | rw [if_neg (by omega)], ht_⟩) (fun q h => by cases h) dX2_repeatedAt_29
set_option maxHeartbeats 4000000 in
set_option maxRecDepth 100000 in
/-- different() -/
theorem kX2_different (l : Launch) (D : va_G) (cI cZ cL : ClassId) (b a : Nat → Nat) (sg len pl bt fh ht : Int) (nO nA : Nat) (od al : Int → Int) (hlen : 0 ≤ len ∧ len ≤ 1000000) (hbt : bt = 0 ∨ bt = 1) (hlO : len ≤ (nO : Int)) (bnO : (nO : Int) < 1073741824) (hlA : len ≤ (nA : Int)) (bnA : (nA : Int) < 1073741824) : Met l yX2_different wsX2_different ({ frames := 0, cells := 0, slots := 0, locals := 0 }) (zPr D cI cZ cL [.ref (b 0)] [(b 0, .inr (2, te b a sg len pl bt fh ht)), (a 2, .inl (cI, nO, .inl (zA od))), (b 4, .inl (cI, nA, .inl (zA al)))]) (zQi (fun r => r = zdf bt len (fun i => len - od i - al i))) 0 0 (fun _ => False) := by
  refine Met.ofW (cc := cX2_different) (maxL := 3) (ret := (some .int)) (by decide) rfl ?_
  intro p e s m args below meth c s₁ B hml hv
  obtain ⟨rfl, hP, hK⟩ := hv
  have hx := B.exec
  have hb := B.bytes
  have hr := B.returns
  have hts := atoms_spec (ws := wsX2_different) B.pre
  have hown : s.vm.findClass RX2 = some m.cls := findClass_of_methodNamed B.named
  have hlocks := B.notSynchronized
  have hP : va_P D vwCl [(b 0, .inr (2, te b a sg len pl bt fh ht)), (a 2, .inl (cI, nO, .inl (zA od))), (b 4, .inl (cI, nA, .inl (zA al)))] s.heap := hP
  have hl := lv_entry ([.ref (b 0)]) (n := 3) (Nat.le_of_ble_eq_true rfl)
  rw [lg_entry_eq]
  generalize (lg_sl ([.ref (b 0)]) ++ List.replicate (3 - (lg_sl ([.ref (b 0)])).length) Slot.unset).toArray = ls at hl ⊢
  have hl : lv_has ls 3 [(0, .ref (b 0))] := hl
  refine lv_aload_n hx hb dX2_different_0 rfl (lv_at hl 0 rfl) ?_
  refine va_get (D := D) (ci := 2) (v := .int (zI bt)) (C := RX2) (T := TX2) (N := 12) hx hb hts inX2_different_X2 hown hK.1 hP 0 rfl rfl 9 (by decide) (hts (.fieldLink RX2 51 "TextEnds" "built" "Z") (List.mem_of_getElem? (i := 1) rfl)) (fun _ h9 => h9) rfl dX2_different_1 ?_
  refine z_if_ne (tgt := 9) hx hb dX2_different_4 (by decide) (by omega) (fun h_1 => ?_) (fun h_1 => ?_)
  · skip
    have hz := h_1
    refine lv_iconst (v := zI 0) hx hb dX2_different_9 (by first | rfl | decide) ?_
    refine lv_istore_n (lv' := [(1, .int (zI 0)), (0, .ref (b 0))]) hx hb dX2_different_10 rfl hl (by decide) rfl (fun ls hl => ?_)
    refine lv_iconst (v := zI 0) hx hb dX2_different_11 (by first | rfl | decide) ?_
    refine lv_istore_n (lv' := [(2, .int (zI 0)), (1, .int (zI 0)), (0, .ref (b 0))]) hx hb dX2_different_12 rfl hl (by decide) rfl (fun ls hl => ?_)
    have loop13 : ∀ (nn : Nat) (k : Int) (mx : Int) (ls : Array Slot), (0 ≤ k ∧ k ≤ len) → (mx = zit (stD (fun i => len - od i - al i)) k.toNat 0) → ((len - k).toNat) < nn → lv_has ls 3 [(0, .ref (b 0)), (1, .int (zI mx)), (2, .int (zI k))] → W p l e (headSpec wsX2_different ({ frames := 0, cells := 0, slots := 0, locals := 0 })).room s m ([.ref (b 0)] : List Value).toArray below meth c s.heap [] 0 0 (MQ below (zQi (fun r => r = zdf bt len (fun i => len - od i - al i))) ([.ref (b 0)] : List Value).toArray s 0 0 (fun _ => False)) (F0 m 13 ls []) := by
      intro nn
      induction nn with
      | zero =>
        intros
        exact absurd (by assumption : _ < 0) (Nat.not_lt_zero _)
      | succ nn ih13 =>
        intro k mx ls h0 hq hmu hl
        refine lv_iload_n hx hb dX2_different_13 rfl (lv_at hl 2 rfl) ?_
        refine lv_aload_n hx hb dX2_different_14 rfl (lv_at hl 0 rfl) ?_
        refine va_get (D := D) (ci := 2) (v := .int (zI len)) (C := RX2) (T := TX2) (N := 12) hx hb hts inX2_different_X2 hown hK.1 hP 0 rfl rfl 7 (by decide) (hts (.fieldLink RX2 48 "TextEnds" "length" "I") (List.mem_of_getElem? (i := 2) rfl)) (fun _ h9 => h9) rfl dX2_different_15 ?_
        refine z_icmp_ge (tgt := 48) hx hb dX2_different_18 (by decide) (by omega) (by omega) (fun h_2 => ?_) (fun h_2 => ?_)
        · skip
          refine lv_iload_n hx hb dX2_different_48 rfl (lv_at hl 1 rfl) ?_
          exact W.iret (v := zI mx) hx hb hr (fun t ht_ hW_ => ⟨mx, rfl, by show _ = zdf bt len (fun i => len - od i - al i); unfold zdf; rw [if_neg hz, hq, show k = len by omega], ht_⟩) (fun q h => by cases h) dX2_different_49
        · skip
          refine lv_iload_n hx hb dX2_different_21 rfl (lv_at hl 1 rfl) ?_
          refine lv_aload_n hx hb dX2_different_22 rfl (lv_at hl 0 rfl) ?_
          refine va_get (D := D) (ci := 2) (v := .int (zI len)) (C := RX2) (T := TX2) (N := 12) hx hb hts inX2_different_X2 hown hK.1 hP 0 rfl rfl 7 (by decide) (hts (.fieldLink RX2 48 "TextEnds" "length" "I") (List.mem_of_getElem? (i := 2) rfl)) (fun _ h9 => h9) rfl dX2_different_23 ?_
          refine lv_aload_n hx hb dX2_different_26 rfl (lv_at hl 0 rfl) ?_
          refine va_get (D := D) (ci := 2) (v := .ref (a 2)) (C := RX2) (T := TX2) (N := 12) hx hb hts inX2_different_X2 hown hK.1 hP 0 rfl rfl 3 (by decide) (hts (.fieldLink RX2 34 "TextEnds" "order" "[I") (List.mem_of_getElem? (i := 3) rfl)) (fun _ h9 => h9) rfl dX2_different_27 ?_
          refine lv_iload_n hx hb dX2_different_30 rfl (lv_at hl 2 rfl) ?_
          refine z_iald hx hb hK.1 hP 1 0 rfl rfl dX2_different_31 (by omega) (by omega) (by omega) ?_
          refine z_isub hx hb dX2_different_32 ?_
          refine lv_aload_n hx hb dX2_different_33 rfl (lv_at hl 0 rfl) ?_
          refine va_get (D := D) (ci := 2) (v := .ref (b 4)) (C := RX2) (T := TX2) (N := 12) hx hb hts inX2_different_X2 hown hK.1 hP 0 rfl rfl 6 (by decide) (hts (.fieldLink RX2 41 "TextEnds" "alike" "[I") (List.mem_of_getElem? (i := 4) rfl)) (fun _ h9 => h9) rfl dX2_different_34 ?_
          refine lv_iload_n hx hb dX2_different_37 rfl (lv_at hl 2 rfl) ?_
          refine z_iald hx hb hK.1 hP 2 0 rfl rfl dX2_different_38 (by omega) (by omega) (by omega) ?_
          refine z_isub hx hb dX2_different_39 ?_
          refine z_iadd hx hb dX2_different_40 ?_
          refine lv_istore_n (lv' := [(1, .int (zI (mx + ((len - (od k)) - (al k))))), (0, .ref (b 0)), (2, .int (zI k))]) hx hb dX2_different_41 rfl hl (by decide) rfl (fun ls hl => ?_)
          refine lv_iinc (v := zI (k + 1)) (lv' := [(2, .int (zI (k + 1))), (1, .int (zI (mx + ((len - (od k)) - (al k))))), (0, .ref (b 0))]) hx hb dX2_different_42 hl (k := 2) rfl (zI_add _ _) (by decide) rfl (fun ls hl => ?_)
          refine lv_goto (tgt := 13) hx hb dX2_different_45 (by decide) ?_
          exact ih13 (k + 1) (mx + ((len - (od k)) - (al k))) ls (by omega) (stD_s hq h0.1 rfl) (by omega) (lv_sub hl [2, 1, 0] rfl)
    exact loop13 _ 0 0 ls (by omega) (rfl) (Nat.lt_succ_self _) (lv_sub hl [2, 1, 0] rfl)
  · skip
    have hz := h_1
    refine lv_iconst (v := zI (-1)) hx hb dX2_different_7 (by first | rfl | decide) ?_
    exact W.iret (v := zI (-1)) hx hb hr (fun t ht_ hW_ => ⟨(-1), rfl, by show _ = zdf bt len (fun i => len - od i - al i); unfold zdf; rw [if_pos hz], ht_⟩) (fun q h => by cases h) dX2_different_8
set_option maxHeartbeats 4000000 in
set_option maxRecDepth 100000 in
/-- noteStanding() -/
theorem kX2_noteStanding (l : Launch) (D : va_G) (cI cZ cL : ClassId) (b a : Nat → Nat) (sg len pl bt fh ht : Int) (nO nS : Nat) (od sd : Int → Int) (szz : Nat) (hlen : 0 ≤ len ∧ len ≤ 1000000) (hlO : len ≤ (nO : Int)) (bnO : (nO : Int) < 1073741824) (bnS : (nS : Int) < 1073741824) (hos : zS od) : Met l yX2_noteStanding wsX2_noteStanding ({ frames := 1, cells := 0, slots := 0, locals := 22 }) (zPw D cI cZ cL szz [.ref (b 0)] [(b 0, .inr (2, te b a sg len pl bt fh ht)), (a 2, .inl (cI, nO, .inl (zA od))), (b 3, .inl (cI, nS, .inl (zA sd)))]) (zQw D (va_A [(b 0, .inr (2, te b a sg len pl bt fh ht)), (a 2, .inl (cI, nO, .inl (zA od))), (b 3, .inl (cI, nS, .inl (zA sd)))] szz) (fun _ : Unit => True) (fun _ : Unit => [(b 0, .inr (2, te b a sg len pl bt fh ht)), (a 2, .inl (cI, nO, .inl (zA od))), (b 3, .inl (cI, nS, .inl (zA (zit (stK nS od) len.toNat sd))))])) 0 0 (va_A [(b 0, .inr (2, te b a sg len pl bt fh ht)), (a 2, .inl (cI, nO, .inl (zA od))), (b 3, .inl (cI, nS, .inl (zA sd)))] szz) := by
  refine Met.ofW (cc := cX2_noteStanding) (maxL := 2) (ret := none) (by decide) rfl ?_
  intro p e s m args below meth c s₁ B hml hv
  obtain ⟨rfl, hsz, hP, hK, hD0⟩ := hv
  have hx := B.exec
  have hb := B.bytes
  have hr := B.returns
  have hts := atoms_spec (ws := wsX2_noteStanding) B.pre
  have hown : s.vm.findClass RX2 = some m.cls := findClass_of_methodNamed B.named
  have hlocks := B.notSynchronized
  subst hsz
  have hD := hD0.self (sz := s.heap.size)
  generalize hAe : va_A [(b 0, .inr (2, te b a sg len pl bt fh ht)), (a 2, .inl (cI, nO, .inl (zA od))), (b 3, .inl (cI, nS, .inl (zA sd)))] s.heap.size = A at hD ⊢
  have hA : ∀ q : Nat, s.heap.size ≤ q → A q := fun q h => by rw [← hAe]; exact Or.inr h
  have hS : va_S A s.heap s.heap [] := va_S.rf
  clear hD0
  have hP : va_P D vwCl [(b 0, .inr (2, te b a sg len pl bt fh ht)), (a 2, .inl (cI, nO, .inl (zA od))), (b 3, .inl (cI, nS, .inl (zA sd)))] s.heap := hP
  have hl := lv_entry ([.ref (b 0)]) (n := 2) (Nat.le_of_ble_eq_true rfl)
  rw [lg_entry_eq]
  generalize (lg_sl ([.ref (b 0)]) ++ List.replicate (2 - (lg_sl ([.ref (b 0)])).length) Slot.unset).toArray = ls at hl ⊢
  have hl : lv_has ls 2 [(0, .ref (b 0))] := hl
  refine lv_iconst (v := zI 0) hx hb dX2_noteStanding_0 (by first | rfl | decide) ?_
  refine lv_istore_n (lv' := [(1, .int (zI 0)), (0, .ref (b 0))]) hx hb dX2_noteStanding_1 rfl hl (by decide) rfl (fun ls hl => ?_)
  have loop2 : ∀ (nn : Nat) (i : Int) (sq : Int → Int) (H : Heap) (locs : List Loc) (ls : Array Slot), (0 ≤ i ∧ i ≤ len) → (sq = zit (stK nS od) i.toNat sd) → ((len - i).toNat) < nn → va_P D vwCl [(b 0, .inr (2, te b a sg len pl bt fh ht)), (a 2, .inl (cI, nO, .inl (zA od))), (b 3, .inl (cI, nS, .inl (zA sq)))] H → va_D A [(b 0, .inr (2, te b a sg len pl bt fh ht)), (a 2, .inl (cI, nO, .inl (zA od))), (b 3, .inl (cI, nS, .inl (zA sq)))] → va_S A s.heap H locs → lv_has ls 2 [(0, .ref (b 0)), (1, .int (zI i))] → W p l e (headSpec wsX2_noteStanding ({ frames := 1, cells := 0, slots := 0, locals := 22 })).room s m ([.ref (b 0)] : List Value).toArray below meth c H locs 0 0 (MQ below (zQw D A (fun _ : Unit => True) (fun _ : Unit => [(b 0, .inr (2, te b a sg len pl bt fh ht)), (a 2, .inl (cI, nO, .inl (zA od))), (b 3, .inl (cI, nS, .inl (zA (zit (stK nS od) len.toNat sd))))])) ([.ref (b 0)] : List Value).toArray s 0 0 A) (F0 m 2 ls []) := by
    intro nn
    induction nn with
    | zero =>
      intros
      exact absurd (by assumption : _ < 0) (Nat.not_lt_zero _)
    | succ nn ih2 =>
      intro i sq H locs ls h0 hq hmu hP hD hS hl
      refine lv_iload_n hx hb dX2_noteStanding_2 rfl (lv_at hl 1 rfl) ?_
      refine lv_aload_n hx hb dX2_noteStanding_3 rfl (lv_at hl 0 rfl) ?_
      refine va_get (D := D) (ci := 2) (v := .int (zI len)) (C := RX2) (T := TX2) (N := 12) hx hb hts inX2_noteStanding_X2 hown hK.1 hP 0 rfl rfl 7 (by decide) (hts (.fieldLink RX2 48 "TextEnds" "length" "I") (List.mem_of_getElem? (i := 1) rfl)) (fun _ h9 => h9) rfl dX2_noteStanding_4 ?_
      refine z_icmp_ge (tgt := 30) hx hb dX2_noteStanding_7 (by decide) (by omega) (by omega) (fun h_1 => ?_) (fun h_1 => ?_)
      · skip
        have hwe : sq = (zit (stK nS od) len.toNat sd) := by rw [hq, show i = len by omega]
        rw [hwe] at hP hD
        clear hwe
        exact W.vret hx hb hr (fun t ht_ hW_ => ⟨⟨(), rfl, trivial, by rw [ht_]; exact hP, hD⟩, hS.F ht_⟩) hS.2.2 dX2_noteStanding_30
      · skip
        have hk1 := hos i
        refine lv_aload_n hx hb dX2_noteStanding_10 rfl (lv_at hl 0 rfl) ?_
        refine va_get (D := D) (ci := 2) (v := .ref (b 3)) (C := RX2) (T := TX2) (N := 12) hx hb hts inX2_noteStanding_X2 hown hK.1 hP 0 rfl rfl 5 (by decide) (hts (.fieldLink RX2 38 "TextEnds" "standing" "[I") (List.mem_of_getElem? (i := 2) rfl)) (fun _ h9 => h9) rfl dX2_noteStanding_11 ?_
        refine lv_aload_n hx hb dX2_noteStanding_14 rfl (lv_at hl 0 rfl) ?_
        refine va_get (D := D) (ci := 2) (v := .ref (a 2)) (C := RX2) (T := TX2) (N := 12) hx hb hts inX2_noteStanding_X2 hown hK.1 hP 0 rfl rfl 3 (by decide) (hts (.fieldLink RX2 34 "TextEnds" "order" "[I") (List.mem_of_getElem? (i := 3) rfl)) (fun _ h9 => h9) rfl dX2_noteStanding_15 ?_
        refine lv_iload_n hx hb dX2_noteStanding_18 rfl (lv_at hl 1 rfl) ?_
        refine z_iald hx hb hK.1 hP 1 0 rfl rfl dX2_noteStanding_19 (by omega) (by omega) (by omega) ?_
        refine lv_iload_n hx hb dX2_noteStanding_20 rfl (lv_at hl 1 rfl) ?_
        refine z_cw (wc := [(b 3, .inl (cI, nS, .inl (zA sq)))]) (wr := [(b 0, .inr (2, te b a sg len pl bt fh ht)), (a 2, .inl (cI, nO, .inl (zA od)))]) (Wt := (fun _ : Unit => [(b 0, .inr (2, te b a sg len pl bt fh ht)), (a 2, .inl (cI, nO, .inl (zA od))), (b 3, .inl (cI, nS, .inl (zA (zput nS sq (od i) i))))])) [2] [0, 1] [0, 1, 2] hP hD hS hA rfl rfl (by decide) (by decide) (by decide) (by decide) (fun _ => rfl) (fun _ => rfl) (fun hPc hDc => va_runS (As := [.ref (b 3), .int (zI (od i)), .int (zI i)]) (rest := []) ⟨hx, hb, hml, hown, hts⟩ (kX2_put l D cI cZ cL (b 3) nS sq (od i) i _ (by omega) (by omega)) (va_cwS 3 hts gX2_noteStanding_X2_put rfl rfl rfl (by decide +kernel) ⟨Nat.le_of_ble_eq_true rfl, Nat.le_of_ble_eq_true rfl⟩) (zPw_pre hK hPc hDc) rfl rfl hl.1 rfl (lv_room (Nat.le_of_ble_eq_true rfl)) dX2_noteStanding_21 ⟨Nat.zero_le _, Nat.zero_le _⟩) rfl (fun u H locs hp_ hP hD hS => ?_)
        have hP : va_P D vwCl [(b 0, .inr (2, te b a sg len pl bt fh ht)), (a 2, .inl (cI, nO, .inl (zA od))), (b 3, .inl (cI, nS, .inl (zA (zput nS sq (od i) i))))] H := hP
        have hD : va_D A [(b 0, .inr (2, te b a sg len pl bt fh ht)), (a 2, .inl (cI, nO, .inl (zA od))), (b 3, .inl (cI, nS, .inl (zA (zput nS sq (od i) i))))] := hD
        refine lv_iinc (v := zI (i + 1)) (lv' := [(1, .int (zI (i + 1))), (0, .ref (b 0))]) hx hb dX2_noteStanding_24 hl (k := 1) rfl (zI_add _ _) (by decide) rfl (fun ls hl => ?_)
        refine lv_goto (tgt := 2) hx hb dX2_noteStanding_27 (by decide) ?_
        exact ih2 (i + 1) (zput nS sq (od i) i) _ _ ls (by omega) (stK_s hq h0.1) (by omega) (hP) (hD) hS (lv_sub hl [1, 0] rfl)
  exact loop2 _ 0 sd _ _ ls (by omega) (rfl) (Nat.lt_succ_self _) hP hD hS (lv_sub hl [1, 0] rfl)
end
