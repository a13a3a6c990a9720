/-! the passes of the program as passes of induction -/
theorem ps_room {n : Nat} {X : Nat → Bool} {t lo hi : Nat → Nat} {O0 : Nat → Int} {p : Nat} {O : Nat → Int} {N : Nat → Nat} (h : ps_Hyp n X t lo hi O0) (I : ps_Inv n X t lo hi O0 p O N) (hp : p ≤ n) {x : Nat} (hx : X x = true) (ep : O p = (x : Int) + 1) : N (t x) < hi (t x) := by
  have lp : ps_live n lo hi N p := ps_live_of h I (Nat.le_refl p) hp
  rcases Nat.lt_or_ge (N (t x)) (hi (t x)) with l | l
  · exact l
  · obtain ⟨q, a, b, e⟩ := ps_full h I l hx rfl
    obtain ⟨x', e1, e2, e3, r, hr, -, er⟩ := I.2.2.1 _ q a b
    have : x' = x := by omega
    subst this
    have := I.2.2.2.2.2.2 r p (x' + 1) (ps_live_of h I (by omega) (by omega)) lp (by rw [er]; rfl) (by rw [ep]; rfl) (Or.inr ⟨x', hx, rfl⟩)
    omega
def Bk (n : Nat) (t : Nat → Nat) (c : Nat) : Nat := te_ct (fun x => decide (t x < c)) n
def Fc (n : Nat) (t : Nat → Nat) (c : Nat) : Nat := te_ct (fun x => sx_fal n t x && t x == c) n
def Rc (n : Nat) (t : Nat → Nat) (c : Nat) : Nat := te_ct (fun x => sx_ris n t x && t x == c) n
def Mk (n : Nat) (t : Nat → Nat) (c : Nat) : Nat := Bk n t c + Fc n t c
theorem te_ct_imp {P Q : Nat → Bool} {n : Nat} (h : ∀ x, x < n → P x = true → Q x = true) : te_ct P n ≤ te_ct Q n := by
  induction n with
  | zero => exact Nat.le_refl 0
  | succ n ih =>
    have := ih (fun x hx => h x (by omega))
    rw [te_ct, te_ct]
    by_cases q : P n = true
    · rw [if_pos q, if_pos (h n (by omega) q)]; omega
    · rw [if_neg q]; split <;> omega
theorem te_ct_inj {P Q : Nat → Bool} {m n : Nat} (f : Nat → Nat) (h : ∀ l, l < m → P l = true → f l < n ∧ Q (f l) = true) (hi : ∀ l l', l < m → l' < m → P l = true → P l' = true → f l = f l' → l = l') : te_ct P m ≤ te_ct Q n := by
  rw [te_ct_list, te_ct_list, ← List.length_map (f := f)]
  refine List.Nodup.length_le_of_subset ?_ ?_
  · rw [List.Nodup, List.pairwise_map]
    refine List.Pairwise.imp_of_mem ?_ (te_ct_nd P m)
    intro a b ha hb hab e
    obtain ⟨a1, a2⟩ := te_ct_mem.mp ha
    obtain ⟨b1, b2⟩ := te_ct_mem.mp hb
    exact hab (hi a b a1 b1 a2 b2 e)
  · intro y hy
    obtain ⟨l, hl, e⟩ := List.mem_map.mp hy
    obtain ⟨a1, a2⟩ := te_ct_mem.mp hl
    rw [← e]
    exact te_ct_mem.mpr (h l a1 a2)
section
variable {n : Nat} {t : Nat → Nat}
theorem Bk_mono {c d : Nat} (h : c ≤ d) : Bk n t c ≤ Bk n t d := te_ct_imp (fun x _ hx => by simp at hx ⊢; omega)
theorem Bk_le {c : Nat} : Bk n t c ≤ n := te_ct_le _ _
theorem Bk_s (c : Nat) : Bk n t (c + 1) = Mk n t c + Rc n t c := bk_next n t c
theorem Mk_ge (c : Nat) : Bk n t c ≤ Mk n t c := Nat.le_add_right _ _
theorem Mk_le (c : Nat) : Mk n t c ≤ Bk n t (c + 1) := by rw [Bk_s]; omega
theorem Bk_0 : Bk n t 0 = 0 := by
  have : ∀ m, te_ct (fun x => decide (t x < 0)) m = 0 := by
    intro m
    induction m with
    | zero => rfl
    | succ m ih => rw [te_ct, ih]; simp
  exact this n
theorem Bk_all {g : Nat} (h : ∀ x, x < n → t x < g) {c : Nat} (hc : g ≤ c) : Bk n t c = n := by
  have : ∀ m, m ≤ n → te_ct (fun x => decide (t x < c)) m = m := by
    intro m
    induction m with
    | zero => intro _; rfl
    | succ m ih =>
      intro hm
      have := h m (by omega)
      rw [te_ct, ih (by omega), if_pos (by simp; omega)]
  exact this n (Nat.le_refl n)
/-- every place of the order is in a bucket -/
theorem Bk_find {g : Nat} (h : ∀ x, x < n → t x < g) {s : Nat} (hs : s < n) : ∃ c, Bk n t c ≤ s ∧ s < Bk n t (c + 1) := by
  have key : ∀ d, s < Bk n t d → ∃ c, Bk n t c ≤ s ∧ s < Bk n t (c + 1) := by
    intro d
    induction d with
    | zero => intro h0; rw [Bk_0] at h0; omega
    | succ d ih =>
      intro h0
      rcases Nat.lt_or_ge s (Bk n t d) with l | l
      · exact ih l
      · exact ⟨d, l, h0⟩
  exact key g (by rw [Bk_all h (Nat.le_refl g)]; exact hs)
theorem bk_apart {c d s : Nat} (h1 : Bk n t c ≤ s) (h2 : s < Bk n t (c + 1)) (h3 : Bk n t d ≤ s) (h4 : s < Bk n t (d + 1)) : c = d := by
  rcases Nat.lt_trichotomy c d with l | l | l
  · have := Bk_mono (n := n) (t := t) (show c + 1 ≤ d from l); omega
  · exact l
  · have := Bk_mono (n := n) (t := t) (show d + 1 ≤ c from l); omega
/-- what lies in the order ahead of the falling pass: valleys in the rising parts of their buckets, each once -/
def ipS (n : Nat) (t : Nat → Nat) (od : Int → Int) : Prop :=
  (∀ v, sx_val n t v = true → ∃ s : Nat, Mk n t (t v) ≤ s ∧ s < Bk n t (t v + 1) ∧ od s = (v : Int)) ∧
  (∀ s z : Nat, s < n → od s = (z : Int) → sx_val n t z = true ∧ Mk n t (t z) ≤ s ∧ s < Bk n t (t z + 1)) ∧
  (∀ s s' z : Nat, s < n → s' < n → od s = (z : Int) → od s' = (z : Int) → s = s')
def shF (n : Nat) (od : Int → Int) : Nat → Int := fun q => if q = 0 then (n : Int) else od ((q : Int) - 1)
theorem shF_s {od : Int → Int} (q : Nat) : shF n od (q + 1) = od q := by
  rw [shF, if_neg (by omega)]; congr 1; omega
theorem ipF_hyp {od : Int → Int} (h : ipS n t od) : ps_Hyp n (sx_fal n t) t (fun c => Bk n t c + 1) (fun c => Mk n t c + 1) (shF n od) := by
  obtain ⟨s1, s2, s3⟩ := h
  have fx0 : ps_fix (fun c => Bk n t c + 1) (fun c => Mk n t c + 1) 0 := fun c hc => by have := hc.1; simp at this
  have fxs : ∀ s c0, Mk n t c0 ≤ s → s < Bk n t (c0 + 1) → ps_fix (fun c => Bk n t c + 1) (fun c => Mk n t c + 1) (s + 1) := by
    intro s c0 a b c hc
    have g1 : Bk n t c + 1 ≤ s + 1 := hc.1
    have g2 : s + 1 < Mk n t c + 1 := hc.2
    have := Mk_le (n := n) (t := t) c
    have := Mk_ge (n := n) (t := t) c0
    have := bk_apart (c := c) (d := c0) (s := s) (n := n) (t := t) (by omega) (by omega) (by omega) b
    subst this
    omega
  refine ⟨?_, ?_, ?_, ?_, ?_, ?_, ?_⟩
  · intro c
    have := Mk_ge (n := n) (t := t) c
    have := Mk_le (n := n) (t := t) c
    have := Bk_le (n := n) (t := t) (c := c + 1)
    exact ⟨by show Bk n t c + 1 ≤ Mk n t c + 1; omega, by show Mk n t c + 1 ≤ n + 1; omega⟩
  · intro c c' q a b a' b'
    have g1 : Bk n t c + 1 ≤ q := a
    have g2 : q < Mk n t c + 1 := b
    have g3 : Bk n t c' + 1 ≤ q := a'
    have g4 : q < Mk n t c' + 1 := b'
    have := Mk_le (n := n) (t := t) c
    have := Mk_le (n := n) (t := t) c'
    exact bk_apart (s := q - 1) (n := n) (t := t) (by omega) (by omega) (by omega) (by omega)
  · intro c
    show Mk n t c + 1 - (Bk n t c + 1) = Fc n t c
    unfold Mk; omega
  · intro x hx; exact (sx_fal_iff.mp hx).1
  · intro x hx
    rcases sx_fal_next hx with e | e | ⟨e1, e2⟩
    · exact Or.inl ⟨0, by omega, fx0, by rw [shF, if_pos rfl]; omega, by show 0 < Bk n t (t x) + 1; omega⟩
    · right
      refine ⟨e, ?_⟩
      rcases sx_fal_dn hx with q | ⟨q1, q2, q3⟩
      · have := (sx_fal_iff.mp e).1; omega
      · rcases Nat.lt_or_ge (t (x + 1)) (t x) with l | l
        · right
          have := Mk_le (n := n) (t := t) (t (x + 1))
          have := Bk_mono (n := n) (t := t) (show t (x + 1) + 1 ≤ t x from l)
          show Mk n t (t (x + 1)) + 1 ≤ Bk n t (t x) + 1
          omega
        · left; omega
    · left
      obtain ⟨s, a, b, e⟩ := s1 (x + 1) e1
      have := Bk_le (n := n) (t := t) (c := t (x + 1) + 1)
      have := Bk_mono (n := n) (t := t) (show t (x + 1) + 1 ≤ t x from e2)
      exact ⟨s + 1, by omega, fxs s _ a b, by rw [shF_s, e]; rfl, by show s + 1 < Bk n t (t x) + 1; omega⟩
  · intro q q' y hq hq' f f' hy e e'
    cases q with
    | zero =>
      cases q' with
      | zero => rfl
      | succ s' =>
        rw [shF, if_pos rfl] at e
        rw [shF_s] at e'
        have := sx_val_in (s2 s' n (by omega) (by rw [e', ← e])).1
        omega
    | succ s =>
      rw [shF_s] at e
      cases q' with
      | zero =>
        rw [shF, if_pos rfl] at e'
        have := sx_val_in (s2 s n (by omega) (by rw [e, ← e'])).1
        omega
      | succ s' =>
        rw [shF_s] at e'
        have := s3 s s' (y + 1) (by omega) (by omega) (by rw [e]; rfl) (by rw [e']; rfl)
        omega
  · intro q z hq f e
    cases q with
    | zero =>
      rw [shF, if_pos rfl] at e
      rw [show z = n by omega, sx_fal]; simp
    | succ s =>
      rw [shF_s] at e
      have := (sx_val_iff.mp (s2 s z (by omega) e).1).1
      rw [sx_fal, this]; simp
/-- what lies in the order ahead of the rising pass: the falling ends in their parts of the buckets -/
def ipT (n : Nat) (t : Nat → Nat) (od : Int → Int) : Prop :=
  (∀ x, sx_fal n t x = true → ∃ s : Nat, Bk n t (t x) ≤ s ∧ s < Mk n t (t x) ∧ od s = (x : Int)) ∧
  (∀ c s : Nat, Bk n t c ≤ s → s < Mk n t c → ∃ x : Nat, sx_fal n t x = true ∧ t x = c ∧ od s = (x : Int)) ∧
  (∀ s s' z : Nat, s < n → s' < n → od s = (z : Int) → od s' = (z : Int) → sx_fal n t z = true → s = s')
def shR (n : Nat) (od : Int → Int) : Nat → Int := fun q => if q = 0 ∨ n < q then -1 else od ((n : Int) - q)
theorem shR_s {od : Int → Int} {s : Nat} (h : s < n) : shR n od (n - s) = od s := by
  rw [shR, if_neg (by omega)]; congr 1; omega
theorem ipR_hyp {od : Int → Int} (h : ipT n t od) {g : Nat} (hg : ∀ x, x < n → t x < g) : ps_Hyp n (sx_ris n t) t (fun c => n - Bk n t (c + 1) + 1) (fun c => n - Mk n t c + 1) (shR n od) := by
  obtain ⟨s1, s2, s3⟩ := h
  have hB : ∀ c, Bk n t c ≤ n := fun c => Bk_le
  have hM : ∀ c, Mk n t c ≤ n := fun c => Nat.le_trans (Mk_le c) Bk_le
  -- a fixed place that is one of the order holds a falling end
  have fx : ∀ q, q ≤ n → ps_fix (fun c => n - Bk n t (c + 1) + 1) (fun c => n - Mk n t c + 1) q → q = 0 ∨ ∃ s x : Nat, s < n ∧ q = n - s ∧ sx_fal n t x = true ∧ shR n od q = (x : Int) := by
    intro q hq f
    rcases Nat.eq_zero_or_pos q with e | e
    · exact Or.inl e
    · right
      obtain ⟨c, c1, c2⟩ := Bk_find hg (s := n - q) (by omega)
      rcases Nat.lt_or_ge (n - q) (Mk n t c) with l | l
      · obtain ⟨x, x1, x2, x3⟩ := s2 c (n - q) c1 l
        refine ⟨n - q, x, by omega, by omega, x1, ?_⟩
        rw [show q = n - (n - q) by omega, shR_s (by omega)]; exact x3
      · exact absurd ⟨by show n - Bk n t (c + 1) + 1 ≤ q; omega, by show q < n - Mk n t c + 1; omega⟩ (f c)
  have fxs : ∀ s c0, Bk n t c0 ≤ s → s < Mk n t c0 → ps_fix (fun c => n - Bk n t (c + 1) + 1) (fun c => n - Mk n t c + 1) (n - s) := by
    intro s c0 a b c hc
    have g1 : n - Bk n t (c + 1) + 1 ≤ n - s := hc.1
    have g2 : n - s < n - Mk n t c + 1 := hc.2
    have := Mk_le (n := n) (t := t) c0
    have := Mk_ge (n := n) (t := t) c
    have := hB (c + 1)
    have := hM c
    have := hM c0
    have := bk_apart (c := c) (d := c0) (s := s) (n := n) (t := t) (by omega) (by omega) a (by omega)
    subst this
    omega
  refine ⟨?_, ?_, ?_, ?_, ?_, ?_, ?_⟩
  · intro c
    have := Mk_le (n := n) (t := t) c
    exact ⟨by show n - Bk n t (c + 1) + 1 ≤ n - Mk n t c + 1; omega, by show n - Mk n t c + 1 ≤ n + 1; omega⟩
  · intro c c' q a b a' b'
    have g1 : n - Bk n t (c + 1) + 1 ≤ q := a
    have g2 : q < n - Mk n t c + 1 := b
    have g3 : n - Bk n t (c' + 1) + 1 ≤ q := a'
    have g4 : q < n - Mk n t c' + 1 := b'
    have := Mk_ge (n := n) (t := t) c
    have := Mk_ge (n := n) (t := t) c'
    have := hB (c + 1)
    have := hB (c' + 1)
    exact bk_apart (s := n - q) (n := n) (t := t) (by omega) (by omega) (by omega) (by omega)
  · intro c
    show n - Mk n t c + 1 - (n - Bk n t (c + 1) + 1) = Rc n t c
    have := Bk_s (n := n) (t := t) c
    have := hB (c + 1)
    omega
  · intro x hx; exact sx_ris_in hx
  · intro x hx
    obtain ⟨u1, u2, u3⟩ := sx_ris_up hx
    rcases sx_two (t := t) u1 with f | f
    · left
      have hne : t x ≠ t (x + 1) := fun e => by
        have := (sx_fal_iff.mp f).2
        rw [u3 e] at this; cases this
      obtain ⟨s, a, b, e⟩ := s1 (x + 1) f
      have := hM (t (x + 1))
      have := Bk_mono (n := n) (t := t) (show t x + 1 ≤ t (x + 1) by omega)
      have := hB (t x + 1)
      exact ⟨n - s, by omega, fxs s _ a b, by rw [shR_s (by omega), e]; rfl, by show n - s < n - Bk n t (t x + 1) + 1; omega⟩
    · right
      refine ⟨f, ?_⟩
      rcases Nat.lt_or_ge (t x) (t (x + 1)) with l | l
      · right
        have := Mk_ge (n := n) (t := t) (t (x + 1))
        have := Bk_mono (n := n) (t := t) (show t x + 1 ≤ t (x + 1) from l)
        show n - Mk n t (t (x + 1)) + 1 ≤ n - Bk n t (t x + 1) + 1
        omega
      · left; omega
  · intro q q' y hq hq' f f' hy e e'
    rcases fx q hq f with q0 | ⟨s, x, a1, a2, a3, a4⟩
    · rw [q0, shR, if_pos (Or.inl rfl)] at e; omega
    · rcases fx q' hq' f' with q0 | ⟨s', x', b1, b2, b3, b4⟩
      · rw [q0, shR, if_pos (Or.inl rfl)] at e'; omega
      · have ex : x = y + 1 := by rw [e] at a4; omega
        have := s3 s s' x a1 b1 (by rw [← shR_s (od := od) a1, ← a2]; exact a4) (by rw [← shR_s (od := od) b1, ← b2, e', ex]; rfl) a3
        omega
  · intro q z hq f e
    rcases fx q hq f with q0 | ⟨s, x, a1, a2, a3, a4⟩
    · rw [q0, shR, if_pos (Or.inl rfl)] at e; omega
    · have : x = z := by omega
      subst this
      exact (sx_fal_iff.mp a3).2
end
