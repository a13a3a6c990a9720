/-! A pass of induction over the places 0 .. n: X are the things to be placed; thing x, of letter t x, goes to the next place of its letter's area when x + 1 is met. -/
def ps_fix (lo hi : Nat → Nat) (q : Nat) : Prop := ∀ c, ¬ (lo c ≤ q ∧ q < hi c)
def ps_Hyp (n : Nat) (X : Nat → Bool) (t lo hi : Nat → Nat) (O0 : Nat → Int) : Prop :=
  (∀ c, lo c ≤ hi c ∧ hi c ≤ n + 1) ∧
  (∀ c c' q, lo c ≤ q → q < hi c → lo c' ≤ q → q < hi c' → c = c') ∧
  (∀ c, hi c - lo c = te_ct (fun x => X x && t x == c) n) ∧
  (∀ x, X x = true → x < n) ∧
  (∀ x : Nat, X x = true → (∃ q, q ≤ n ∧ ps_fix lo hi q ∧ O0 q = (x : Int) + 1 ∧ q < lo (t x)) ∨ (X (x + 1) = true ∧ (t (x + 1) = t x ∨ hi (t (x + 1)) ≤ lo (t x)))) ∧
  (∀ (q q' y : Nat), q ≤ n → q' ≤ n → ps_fix lo hi q → ps_fix lo hi q' → X y = true → O0 q = (y : Int) + 1 → O0 q' = (y : Int) + 1 → q = q') ∧
  (∀ (q z : Nat), q ≤ n → ps_fix lo hi q → O0 q = (z : Int) → X z = false)
def ps_Step (X : Nat → Bool) (t : Nat → Nat) (p : Nat) (O : Nat → Int) (N : Nat → Nat) (O' : Nat → Int) (N' : Nat → Nat) : Prop :=
  (∀ x : Nat, X x = true → O p = (x : Int) + 1 → O' = te_fu O (N (t x)) (x : Int) ∧ N' = te_fu N (t x) (N (t x) + 1)) ∧
  ((∀ x : Nat, X x = true → O p ≠ (x : Int) + 1) → O' = O ∧ N' = N)
def ps_live (n : Nat) (lo hi N : Nat → Nat) (q : Nat) : Prop := q ≤ n ∧ (ps_fix lo hi q ∨ ∃ c, lo c ≤ q ∧ q < N c)
def ps_Inv (n : Nat) (X : Nat → Bool) (t lo hi : Nat → Nat) (O0 : Nat → Int) (p : Nat) (O : Nat → Int) (N : Nat → Nat) : Prop :=
  (∀ q, ps_fix lo hi q → O q = O0 q) ∧
  (∀ c, lo c ≤ N c ∧ N c ≤ hi c) ∧
  (∀ c q, lo c ≤ q → q < N c → ∃ x : Nat, X x = true ∧ t x = c ∧ O q = (x : Int) ∧ ∃ r, r < p ∧ r < q ∧ O r = (x : Int) + 1) ∧
  (∀ r, r < p → ∀ x : Nat, X x = true → O r = (x : Int) + 1 → ∃ q, lo (t x) ≤ q ∧ q < N (t x) ∧ O q = (x : Int)) ∧
  (∀ c q q', lo c ≤ q → q < q' → q' < N c → ∀ r r', r < p → r' < p → O r = O q + 1 → O r' = O q' + 1 → r < r') ∧
  (∀ c r, lo c ≤ r → r < hi c → r < p → r < N c) ∧
  (∀ (q q' z : Nat), ps_live n lo hi N q → ps_live n lo hi N q' → O q = (z : Int) → O q' = (z : Int) → (X z = true ∨ ∃ y, X y = true ∧ z = y + 1) → q = q')
section
variable {n : Nat} {X : Nat → Bool} {t lo hi : Nat → Nat} {O0 : Nat → Int} {p : Nat} {O : Nat → Int} {N : Nat → Nat}
theorem ps_0 (h : ps_Hyp n X t lo hi O0) : ps_Inv n X t lo hi O0 0 O0 lo := by
  obtain ⟨h1, h2, h3, h4, h5, h6, h7⟩ := h
  refine ⟨fun q _ => rfl, fun c => ⟨Nat.le_refl _, (h1 c).1⟩, fun c q a b => absurd b (by omega), fun r a => absurd a (by omega), fun c q q' a b d => absurd d (by omega), fun c r _ _ a => absurd a (by omega), ?_⟩
  intro q q' z hq hq' e e' hz
  obtain ⟨a1, a2⟩ := hq
  obtain ⟨b1, b2⟩ := hq'
  have fq : ps_fix lo hi q := by
    rcases a2 with a | ⟨c, a, b⟩
    · exact a
    · omega
  have fq' : ps_fix lo hi q' := by
    rcases b2 with a | ⟨c, a, b⟩
    · exact a
    · omega
  rcases hz with hz | ⟨y, hy, ez⟩
  · rw [h7 q z a1 fq e] at hz; cases hz
  · exact h6 q q' y a1 b1 fq fq' hy (by rw [e, ez]; rfl) (by rw [e', ez]; rfl)
/-- things of a full area are all placed -/
theorem ps_full (h : ps_Hyp n X t lo hi O0) (I : ps_Inv n X t lo hi O0 p O N) {c : Nat} (hc : hi c ≤ N c) {x : Nat} (hx : X x = true) (ht : t x = c) : ∃ q, lo c ≤ q ∧ q < N c ∧ O q = (x : Int) := by
  obtain ⟨h1, h2, h3, h4, h5, h6, h7⟩ := h
  obtain ⟨i1, iN, i2, i3, i4, i5, i6⟩ := I
  have hP : ∀ q, lo c ≤ q → q < N c → (O q).toNat < n ∧ (X (O q).toNat && t (O q).toNat == c) = true := by
    intro q a b
    obtain ⟨x, e1, e2, e3, -⟩ := i2 c q a b
    rw [e3, Int.toNat_natCast]
    exact ⟨h4 x e1, by simp [e1, e2]⟩
  have hne : ∀ q q', lo c ≤ q → q < q' → q' < N c → (O q).toNat ≠ (O q').toNat := by
    intro q q' a b d e
    obtain ⟨x, e1, e2, e3, -⟩ := i2 c q a (by omega)
    obtain ⟨x', f1, f2, f3, -⟩ := i2 c q' (by omega) d
    rw [e3, f3, Int.toNat_natCast, Int.toNat_natCast] at e
    have := i6 q q' x ⟨by have := (h1 c).2; have := (iN c).2; omega, Or.inr ⟨c, a, by omega⟩⟩ ⟨by have := (h1 c).2; have := (iN c).2; omega, Or.inr ⟨c, by omega, d⟩⟩ e3 (by rw [f3, e]) (Or.inl e1)
    omega
  obtain ⟨q, a, b, e⟩ := te_ph_all (P := fun x => X x && t x == c) hP hne (by rw [← h3 c]; omega) (h4 x hx) (by simp [hx, ht])
  obtain ⟨x', f1, f2, f3, -⟩ := i2 c q a b
  rw [f3, Int.toNat_natCast] at e
  exact ⟨q, a, b, by rw [f3, e]⟩
/-- the place that is looked at now is filled -/
theorem ps_filled (h : ps_Hyp n X t lo hi O0) (I : ps_Inv n X t lo hi O0 p O N) {c : Nat} (ha : lo c ≤ p) (hb : p < hi c) : p < N c := by
  refine Classical.byContradiction fun hno => ?_
  have hfull := @ps_full n X t lo hi O0 p O N h I
  obtain ⟨h1, h2, h3, h4, h5, h6, h7⟩ := h
  obtain ⟨i1, iN, i2, i3, i4, i5, i6⟩ := I
  have hB : ∀ d x : Nat, x + d = n → X x = true → t x = c → ∃ q, lo c ≤ q ∧ q < N c ∧ O q = (x : Int) := by
    intro d
    induction d with
    | zero => intro x e hx; have := h4 x hx; omega
    | succ d ih =>
      intro x e hx ht
      have key : ∀ r, r < p → O r = (x : Int) + 1 → ∃ q, lo c ≤ q ∧ q < N c ∧ O q = (x : Int) := by
        intro r hr er
        have := i3 r hr x hx er
        rw [ht] at this
        exact this
      rcases h5 x hx with ⟨q, a1, a2, a3, a4⟩ | ⟨hx1, hs⟩
      · have := (iN c).1
        exact key q (by rw [ht] at a4; omega) (by rw [i1 q a2, a3])
      · rcases hs with hs | hs
        · obtain ⟨q, b1, b2, b3⟩ := ih (x + 1) (by omega) hx1 (by rw [hs, ht])
          exact key q (by omega) (by rw [b3]; rfl)
        · have hlt : hi (t (x + 1)) ≤ N (t (x + 1)) := by
            have l1 := (h1 (t (x + 1))).1
            rcases Nat.lt_or_ge (lo (t (x + 1))) (hi (t (x + 1))) with l | l
            · have := i5 (t (x + 1)) (hi (t (x + 1)) - 1) (by omega) (by omega) (by rw [ht] at hs; omega)
              omega
            · have := (iN (t (x + 1))).1; omega
          obtain ⟨q, b1, b2, b3⟩ := hfull hlt hx1 rfl
          have := (iN (t (x + 1))).2
          exact key q (by rw [ht] at hs; omega) (by rw [b3]; rfl)
  have hcov := te_ph_cov (f := fun q => (O q).toNat) (a := lo c) (b := N c) (n := n) (P := fun x => X x && t x == c) (by
    intro x hx hPx
    simp at hPx
    obtain ⟨q, b1, b2, b3⟩ := hB (n - x) x (by omega) hPx.1 hPx.2
    exact ⟨q, b1, b2, by show (O q).toNat = x; rw [b3]; rfl⟩)
  rw [← h3 c] at hcov
  have := (iN c).1
  omega
theorem ps_live_of (h : ps_Hyp n X t lo hi O0) (I : ps_Inv n X t lo hi O0 p O N) {r : Nat} (hr : r ≤ p) (hn : r ≤ n) : ps_live n lo hi N r := by
  refine ⟨hn, ?_⟩
  refine Classical.byContradiction fun hno => ?_
  have hf : ps_fix lo hi r := by
    intro c hc
    apply hno
    right
    refine ⟨c, hc.1, ?_⟩
    rcases Nat.lt_or_ge r p with l | l
    · exact I.2.2.2.2.2.1 c r hc.1 hc.2 l
    · rw [show r = p by omega] at hc ⊢
      exact ps_filled h I hc.1 hc.2
  exact hno (Or.inl hf)
theorem ps_next (h : ps_Hyp n X t lo hi O0) (I : ps_Inv n X t lo hi O0 p O N) (hp : p ≤ n) {O' : Nat → Int} {N' : Nat → Nat} (hs : ps_Step X t p O N O' N') : ps_Inv n X t lo hi O0 (p + 1) O' N' := by
  have hfill := @ps_filled n X t lo hi O0 p O N h I
  have hlive := @ps_live_of n X t lo hi O0 p O N h I
  have hfull := @ps_full n X t lo hi O0 p O N h I
  obtain ⟨h1, h2, h3, h4, h5, h6, h7⟩ := h
  obtain ⟨i1, iN, i2, i3, i4, i5, i6⟩ := I
  by_cases hx : ∃ x : Nat, X x = true ∧ O p = (x : Int) + 1
  · obtain ⟨x, hx, ep⟩ := hx
    obtain ⟨eO, eN⟩ := hs.1 x hx ep
    have lp : ps_live n lo hi N p := hlive (Nat.le_refl p) hp
    have hnp : ∀ c q, lo c ≤ q → q < N c → O q ≠ (x : Int) := by
      intro c q a b e
      obtain ⟨x', e1, e2, e3, r, hr, -, er⟩ := i2 c q a b
      have : x' = x := by omega
      subst this
      have := i6 r p (x' + 1) (hlive (by omega) (by omega)) lp (by rw [er]; rfl) (by rw [ep]; rfl) (Or.inr ⟨x', hx, rfl⟩)
      omega
    have hsh : N (t x) < hi (t x) := by
      rcases Nat.lt_or_ge (N (t x)) (hi (t x)) with l | l
      · exact l
      · obtain ⟨q, a, b, e⟩ := hfull l hx rfl
        exact absurd e (hnp _ q a b)
    have hps : p < N (t x) := by
      rcases h5 x hx with ⟨q, a1, a2, a3, a4⟩ | ⟨hx1, hss⟩
      · have := i6 q p (x + 1) ⟨a1, Or.inl a2⟩ lp (by rw [i1 q a2, a3]; rfl) (by rw [ep]; rfl) (Or.inr ⟨x, hx, rfl⟩)
        have := (iN (t x)).1
        omega
      · rcases lp.2 with a | ⟨c', a, b⟩
        · have := h7 p (x + 1) hp a (by rw [← i1 p a, ep]; rfl)
          rw [hx1] at this; cases this
        · obtain ⟨x', e1, e2, e3, -⟩ := i2 c' p a b
          have : x' = x + 1 := by omega
          subst this
          rcases hss with hss | hss
          · rw [← hss, e2]; exact b
          · have := (iN c').2
            have := (iN (t x)).1
            rw [e2] at hss
            omega
    generalize hse : N (t x) = s at *
    have hsn : s ≤ n := by have := (h1 (t x)).2; omega
    have hlos : lo (t x) ≤ s := by rw [← hse]; exact (iN _).1
    have hOs : O' s = (x : Int) := by rw [eO]; exact te_fu_eq _ _ _
    have hOn : ∀ q, q ≠ s → O' q = O q := fun q hq => by rw [eO]; exact te_fu_ne hq
    have hNs : N' (t x) = s + 1 := by rw [eN]; exact te_fu_eq _ _ _
    have hNn : ∀ c, c ≠ t x → N' c = N c := fun c hc => by rw [eN]; exact te_fu_ne hc
    have hNle : ∀ c, N c ≤ N' c := by
      intro c
      by_cases e : c = t x
      · rw [e, hNs, hse]; omega
      · rw [hNn c e]; exact Nat.le_refl _
    have hsc : ∀ c, lo c ≤ s → s < hi c → c = t x := fun c a b => h2 c (t x) s a b hlos hsh
    have hN'hi : ∀ c, N' c ≤ hi c := by
      intro c
      by_cases e : c = t x
      · rw [e, hNs]; omega
      · rw [hNn c e]; exact (iN c).2
    have hold : ∀ c q, lo c ≤ q → q < N' c → q ≠ s → q < N c := by
      intro c q a b hq
      by_cases e : c = t x
      · rw [e, hNs] at b; rw [e, hse]; omega
      · rw [hNn c e] at b; exact b
    have hqs : ∀ c q, lo c ≤ q → q < N c → q ≠ s := by
      intro c q a b e
      have := hsc c (by omega) (by have := (iN c).2; omega)
      rw [this, hse] at b; omega
    refine ⟨?_, ?_, ?_, ?_, ?_, ?_, ?_⟩
    · intro q hq
      rw [hOn q (fun e => hq (t x) (by rw [e]; exact ⟨hlos, hsh⟩))]
      exact i1 q hq
    · intro c
      exact ⟨Nat.le_trans (iN c).1 (hNle c), hN'hi c⟩
    · intro c q a b
      by_cases e : q = s
      · have hc := hsc c (by omega) (by have := hN'hi c; omega)
        exact ⟨x, hx, hc.symm, by rw [e]; exact hOs, p, by omega, by omega, by rw [hOn p (by omega)]; exact ep⟩
      · obtain ⟨x', e1, e2, e3, r, f1, f2, f3⟩ := i2 c q a (hold c q a b e)
        exact ⟨x', e1, e2, by rw [hOn q e]; exact e3, r, by omega, f2, by rw [hOn r (by omega)]; exact f3⟩
    · intro r hr x' hx' er
      rw [hOn r (by omega)] at er
      by_cases e : r = p
      · rw [e, ep] at er
        have : x' = x := by omega
        subst this
        exact ⟨s, hlos, by rw [hNs]; omega, hOs⟩
      · obtain ⟨q, a, b, f⟩ := i3 r (by omega) x' hx' er
        exact ⟨q, a, Nat.lt_of_lt_of_le b (hNle _), by rw [hOn q (hqs _ q a b)]; exact f⟩
    · intro c q q' a b d r r' hr hr' er er'
      rw [hOn r (by omega)] at er
      rw [hOn r' (by omega)] at er'
      by_cases e : q' = s
      · have hc := hsc c (by omega) (by have := hN'hi c; omega)
        rw [e, hOs] at er'
        have hq : q < N c := by rw [hc, hse]; omega
        rw [hOn q (by omega)] at er
        have hr'p : r' = p := i6 r' p (x + 1) (hlive (by omega) (by omega)) lp (by rw [er']; rfl) (by rw [ep]; rfl) (Or.inr ⟨x, hx, rfl⟩)
        have : r ≠ p := by
          intro e2
          rw [e2, ep] at er
          exact hnp c q a hq (by omega)
        omega
      · have hq' := hold c q' (by omega) d e
        have hq : q < N c := by omega
        rw [hOn q (hqs c q a hq)] at er
        rw [hOn q' e] at er'
        have n1 : r ≠ p := by
          intro e2
          rw [e2, ep] at er
          exact hnp c q a hq (by omega)
        have n2 : r' ≠ p := by
          intro e2
          rw [e2, ep] at er'
          exact hnp c q' (by omega) hq' (by omega)
        exact i4 c q q' a b hq' r r' (by omega) (by omega) er er'
    · intro c r a b d
      refine Nat.lt_of_lt_of_le ?_ (hNle c)
      by_cases e : r = p
      · rw [e] at a b ⊢
        exact hfill a b
      · exact i5 c r a b (by omega)
    · have hl : ∀ q, q ≠ s → ps_live n lo hi N' q → ps_live n lo hi N q := by
        intro q hq hl
        refine ⟨hl.1, ?_⟩
        rcases hl.2 with a | ⟨c, a, b⟩
        · exact Or.inl a
        · exact Or.inr ⟨c, a, hold c q a b hq⟩
      have hkey : ∀ q, q ≠ s → ps_live n lo hi N q → O q = (x : Int) → False := by
        intro q hq hl e
        rcases hl.2 with a | ⟨c, a, b⟩
        · have := h7 q x hl.1 a (by rw [← i1 q a]; exact e)
          rw [hx] at this; cases this
        · exact hnp c q a b e
      intro q q' z lq lq' e e' hz
      by_cases f : q = s <;> by_cases f' : q' = s
      · omega
      · rw [f, hOs] at e
        rw [hOn q' f'] at e'
        exact (hkey q' f' (hl q' f' lq') (by rw [e', e])).elim
      · rw [f', hOs] at e'
        rw [hOn q f] at e
        exact (hkey q f (hl q f lq) (by rw [e', e])).elim
      · rw [hOn q f] at e
        rw [hOn q' f'] at e'
        exact i6 q q' z (hl q f lq) (hl q' f' lq') e e' hz
  · obtain ⟨eO, eN⟩ := hs.2 (fun x a b => hx ⟨x, a, b⟩)
    subst eO; subst eN
    have hno : ∀ c q, lo c ≤ q → q < N' c → O' p ≠ O' q + 1 := by
      intro c q a b e
      obtain ⟨x, e1, e2, e3, -⟩ := i2 c q a b
      exact hx ⟨x, e1, by rw [e, e3]⟩
    refine ⟨i1, iN, ?_, ?_, ?_, ?_, i6⟩
    · intro c q a b
      obtain ⟨x', e1, e2, e3, r, f1, f2, f3⟩ := i2 c q a b
      exact ⟨x', e1, e2, e3, r, by omega, f2, f3⟩
    · intro r hr x hX er
      have : r ≠ p := fun e => hx ⟨x, hX, by rw [← e]; exact er⟩
      exact i3 r (by omega) x hX er
    · intro c q q' a b d r r' hr hr' er er'
      have n1 : r ≠ p := fun e => hno c q a (by omega) (by rw [← e]; exact er)
      have n2 : r' ≠ p := fun e => hno c q' (by omega) d (by rw [← e]; exact er')
      exact i4 c q q' a b d r r' (by omega) (by omega) er er'
    · intro c r a b d
      by_cases e : r = p
      · rw [e] at a b ⊢
        exact hfill a b
      · exact i5 c r a b (by omega)
end
/-- what a pass leaves: the places of no area as they were; each area holds its things, each once, in the order of the places that hold what comes behind them -/
theorem ps_end {n : Nat} {X : Nat → Bool} {t lo hi : Nat → Nat} {O0 : Nat → Int} {Os : Nat → Nat → Int} {Ns : Nat → Nat → Nat} (h : ps_Hyp n X t lo hi O0) (hO : Os 0 = O0) (hN : Ns 0 = lo) (hs : ∀ p, p ≤ n → ps_Step X t p (Os p) (Ns p) (Os (p + 1)) (Ns (p + 1))) : ∀ p, p ≤ n + 1 → ps_Inv n X t lo hi O0 p (Os p) (Ns p) := by
  intro p
  induction p with
  | zero => intro _; rw [hO, hN]; exact ps_0 h
  | succ p ih => intro hp; exact ps_next h (ih (by omega)) (by omega) (hs p (by omega))
theorem ps_fin {n : Nat} {X : Nat → Bool} {t lo hi : Nat → Nat} {O0 : Nat → Int} {O : Nat → Int} {N : Nat → Nat} (h : ps_Hyp n X t lo hi O0) (I : ps_Inv n X t lo hi O0 (n + 1) O N) :
    (∀ q, ps_fix lo hi q → O q = O0 q) ∧
    (∀ x : Nat, X x = true → ∃ q, lo (t x) ≤ q ∧ q < hi (t x) ∧ O q = (x : Int)) ∧
    (∀ c q, lo c ≤ q → q < hi c → ∃ x : Nat, X x = true ∧ t x = c ∧ O q = (x : Int)) ∧
    (∀ c q q', lo c ≤ q → q < q' → q' < hi c → ∀ r r', r ≤ n → r' ≤ n → O r = O q + 1 → O r' = O q' + 1 → r < r') ∧
    (∀ (q q' z : Nat), q ≤ n → q' ≤ n → O q = (z : Int) → O q' = (z : Int) → (X z = true ∨ ∃ y, X y = true ∧ z = y + 1) → q = q') := by
  have hNhi : ∀ c, N c = hi c := by
    intro c
    have a := (h.1 c).1
    have b := (h.1 c).2
    have d := (I.2.1 c).1
    have e := (I.2.1 c).2
    rcases Nat.lt_or_ge (lo c) (hi c) with l | l
    · have := I.2.2.2.2.2.1 c (hi c - 1) (by omega) (by omega) (by omega)
      omega
    · omega
  refine ⟨I.1, ?_, ?_, ?_, ?_⟩
  · intro x hx
    obtain ⟨q, a, b, e⟩ := ps_full h I (by rw [hNhi]; exact Nat.le_refl _) hx rfl
    rw [hNhi] at b
    exact ⟨q, a, b, e⟩
  · intro c q a b
    obtain ⟨x, e1, e2, e3, -⟩ := I.2.2.1 c q a (by rw [hNhi]; exact b)
    exact ⟨x, e1, e2, e3⟩
  · intro c q q' a b d r r' hr hr' er er'
    exact I.2.2.2.2.1 c q q' a b (by rw [hNhi]; exact d) r r' (by omega) (by omega) er er'
  · intro q q' z hq hq' e e' hz
    exact I.2.2.2.2.2.2 q q' z (ps_live_of h I (by omega) hq) (ps_live_of h I (by omega) hq') e e' hz
