/-! valleys that are alike up to the next valley; names; the shorter text -/
def sAl (n : Nat) (t : Nat → Nat) (v w : Nat) : Prop := ∃ k, 1 ≤ k ∧ (∀ m, m ≤ k → sx_le n t (v + m) = sx_le n t (w + m)) ∧ sx_val n t (v + k) = true ∧ sx_val n t (w + k) = true ∧ (∀ m, 0 < m → m < k → sx_val n t (v + m) = false ∧ sx_val n t (w + m) = false)
section
variable {n : Nat} {t : Nat → Nat} {v w u : Nat}
theorem sAl_symm (h : sAl n t v w) : sAl n t w v := by
  obtain ⟨k, a, b, c, d, e⟩ := h
  exact ⟨k, a, fun m hm => (b m hm).symm, d, c, fun m h1 h2 => ⟨(e m h1 h2).2, (e m h1 h2).1⟩⟩
theorem sAl_tr (h : sAl n t v w) (h' : sAl n t w u) : sAl n t v u := by
  obtain ⟨k, a, b, c, d, e⟩ := h
  obtain ⟨k', a', b', c', d', e'⟩ := h'
  have : k = k' := by
    rcases Nat.lt_trichotomy k k' with l | l | l
    · have := (e' k (by omega) l).1; rw [d] at this; cases this
    · exact l
    · have := (e k' (by omega) l).2; rw [c'] at this; cases this
  subst this
  exact ⟨k, a, fun m hm => by rw [b m hm, b' m hm], c, d', fun m h1 h2 => ⟨(e m h1 h2).1, (e' m h1 h2).2⟩⟩
theorem ris_back {k : Nat} (hl : ∀ m, m ≤ k → sx_le n t (v + m) = sx_le n t (w + m)) (hk : v + k < n) (hr : sx_ris n t (v + k) = sx_ris n t (w + k)) : ∀ m, m ≤ k → sx_ris n t (v + m) = sx_ris n t (w + m) := by
  have key : ∀ d m, m + d = k → sx_ris n t (v + m) = sx_ris n t (w + m) := by
    intro d
    induction d with
    | zero => intro m e; rw [show m = k by omega]; exact hr
    | succ d ih =>
      intro m e
      have h1 := ih (m + 1) (by omega)
      have hw : w + m < n := sx_le_in (t := t) (by rw [← hl m (by omega), sx_le_lt (by omega)]; omega)
      rw [sx_ris_eq (i := v + m) (by omega), sx_ris_eq (i := w + m) hw, show v + m + 1 = v + (m + 1) by omega, show w + m + 1 = w + (m + 1) by omega, hl m (by omega), hl (m + 1) (by omega), h1]
  intro m hm
  exact key (k - m) m (by omega)
/-- the letters up to v's next valley are w's too: then w's is there too, or w comes first -/
theorem sAl_or {k : Nat} (h1 : 1 ≤ k) (hl : ∀ m, m ≤ k → sx_le n t (v + m) = sx_le n t (w + m)) (hv : sx_val n t (v + k) = true) (hn : ∀ m, 0 < m → m < k → sx_val n t (v + m) = false) : sAl n t v w ∨ sx_fal n t (w + k) = true := by
  have hvr := (sx_val_iff.mp hv).1
  have hvn := sx_ris_in hvr
  have hw : w + k < n := sx_le_in (t := t) (by rw [← hl k (Nat.le_refl k), sx_le_lt hvn]; omega)
  rcases sx_two (t := t) hw with q | q
  · exact Or.inr q
  · left
    have hb := ris_back hl hvn (by rw [hvr, q])
    have hval : ∀ m, 0 < m → m ≤ k → sx_val n t (w + m) = sx_val n t (v + m) := by
      intro m h0 hm
      unfold sx_val
      rw [hb m hm, show w + m - 1 = w + (m - 1) by omega, show v + m - 1 = v + (m - 1) by omega, hb (m - 1) (by omega), decide_eq_true (show 1 ≤ w + m by omega), decide_eq_true (show 1 ≤ v + m by omega)]
    exact ⟨k, h1, hl, hv, by rw [hval k (by omega) (Nat.le_refl k)]; exact hv, fun m a b => ⟨hn m a b, by rw [hval m a (by omega)]; exact hn m a b⟩⟩
theorem sx_le_in2 {i : Nat} (h : sx_ris n t i = true) : sx_le n t i = (t i : Int) := sx_le_lt (sx_ris_in h)
theorem sAl_lt (h : sx_lt n t v w) (hna : ¬ sAl n t v w) (hu : sAl n t v u) : sx_lt n t u w := by
  obtain ⟨k, a, b, c, d, e⟩ := hu
  obtain ⟨m, m1, m2⟩ := h
  rcases Nat.lt_or_ge k m with l | l
  · rcases sAl_or a (fun j hj => m1 j (by omega)) c (fun j h1 h2 => (e j h1 h2).1) with q | q
    · exact absurd q hna
    · have hc := (sx_val_iff.mp c).1
      have ht : t (w + k) = t (v + k) := by
        have := m1 k l
        rw [sx_le_in2 hc, sx_le_lt (sx_fal_iff.mp q).1] at this; omega
      have h2 : sx_lt n t w v := (sx_lt_sk k (fun j hj => (m1 j (by omega)).symm)).mpr (sx_lt_type q hc ht)
      exact absurd ⟨m, m1, m2⟩ (sx_lt_as h2)
  · exact ⟨m, fun j hj => by rw [← b j (by omega), m1 j hj], by rw [← b m l]; exact m2⟩
theorem sAl_gt (h : sx_lt n t w v) (hna : ¬ sAl n t v w) (hu : sAl n t v u) : sx_lt n t w u := by
  obtain ⟨k, a, b, c, d, e⟩ := hu
  obtain ⟨m, m1, m2⟩ := h
  rcases Nat.lt_or_ge k m with l | l
  · rcases sAl_or a (fun j hj => (m1 j (by omega)).symm) c (fun j h1 h2 => (e j h1 h2).1) with q | q
    · exact absurd q hna
    · have hd := (sx_val_iff.mp d).1
      have ht : t (w + k) = t (u + k) := by
        have h1 := m1 k l
        have h2 := b k (Nat.le_refl k)
        rw [h2, sx_le_in2 hd, sx_le_lt (sx_fal_iff.mp q).1] at h1; omega
      exact (sx_lt_sk k (fun j hj => by rw [m1 j (by omega), b j (by omega)])).mpr (sx_lt_type q hd ht)
  · exact ⟨m, fun j hj => by rw [← b j (by omega), m1 j hj], by rw [← b m l]; exact m2⟩
/-- in the induced order of unsorted seeds: valleys that are not alike stand as they should -/
theorem ipI_al {S : Nat → Nat} {m : Nat} (hS : sdS n t S m) {g : Int → Int} (I : ipI n t S m g) {s s' x y : Nat} (hs : s < n) (hs' : s' < n) (ex : g s = (x : Int)) (ey : g s' = (y : Int)) (h : sx_lt n t x y) (hn : ¬ sAl n t x y) : s < s' := by
  let alF : Nat → Nat → Prop := fun x y => ∃ k, (∀ m, m ≤ k → sx_le n t (x + m) = sx_le n t (y + m)) ∧ sx_val n t (x + k) = true ∧ sx_val n t (y + k) = true ∧ ∀ m, m < k → sx_fal n t (x + m) = true ∧ sx_fal n t (y + m) = true
  have nv : ∀ {i}, sx_fal n t i = true → sx_val n t i = false := by
    intro i hi
    cases q : sx_val n t i with
    | false => rfl
    | true => have := (sx_val_iff.mp q).1; rw [(sx_fal_iff.mp hi).2] at this; cases this
  refine ipI_lt hS I (fun x y => ¬ alF x y) (fun x y => ¬ sAl n t x y) ?_ ?_ ?_ ?_ s s' x y hs hs' ex ey h hn
  · intro x y hq fx fy ht ⟨k, a, b, c, d⟩
    have hx := (sx_fal_iff.mp fx).1
    have hy := (sx_fal_iff.mp fy).1
    refine hq ⟨k + 1, ?_, by rw [show x + (k + 1) = x + 1 + k by omega]; exact b, by rw [show y + (k + 1) = y + 1 + k by omega]; exact c, ?_⟩
    · intro j hj
      cases j with
      | zero => rw [Nat.add_zero, Nat.add_zero, sx_le_lt hx, sx_le_lt hy, ht]
      | succ j => rw [show x + (j + 1) = x + 1 + j by omega, show y + (j + 1) = y + 1 + j by omega]; exact a j (by omega)
    · intro j hj
      cases j with
      | zero => exact ⟨fx, fy⟩
      | succ j => rw [show x + (j + 1) = x + 1 + j by omega, show y + (j + 1) = y + 1 + j by omega]; exact d j (by omega)
  · intro k l hk hl hq ht _
    refine absurd ⟨0, ?_, hS.1 k hk, hS.1 l hl, fun m hm => absurd hm (by omega)⟩ hq
    intro j hj
    rw [show j = 0 by omega, Nat.add_zero, Nat.add_zero, sx_le_lt (sx_val_in (hS.1 k hk)), sx_le_lt (sx_val_in (hS.1 l hl)), ht]
  · intro x y hq fx fy ht ⟨k, a, b, c, d⟩
    have h1 : 1 ≤ k := by
      rcases Nat.eq_zero_or_pos k with e | e
      · rw [e, Nat.add_zero, nv fx] at b; cases b
      · exact e
    exact hq ⟨k, h1, a, b, c, fun j j0 j1 => ⟨nv (d j j1).1, nv (d j j1).2⟩⟩
  · intro x y hq rx ry ht ⟨k, a, b, c, d, e⟩
    have nx : ∀ {i}, sx_ris n t i = true → sx_val n t (i + 1) = false := by
      intro i hi
      cases q : sx_val n t (i + 1) with
      | false => rfl
      | true =>
        have := (sx_val_iff.mp q).2.2
        rw [Nat.add_sub_cancel] at this
        rw [(sx_fal_iff.mp this).2] at hi; cases hi
    refine hq ⟨k + 1, by omega, ?_, by rw [show x + (k + 1) = x + 1 + k by omega]; exact c, by rw [show y + (k + 1) = y + 1 + k by omega]; exact d, ?_⟩
    · intro j hj
      cases j with
      | zero => rw [Nat.add_zero, Nat.add_zero, sx_le_in2 rx, sx_le_in2 ry, ht]
      | succ j => rw [show x + (j + 1) = x + 1 + j by omega, show y + (j + 1) = y + 1 + j by omega]; exact b j (by omega)
    · intro j j0 j1
      cases j with
      | zero => omega
      | succ j =>
        cases j with
        | zero => exact ⟨nx rx, nx ry⟩
        | succ j => rw [show x + (j + 1 + 1) = x + 1 + (j + 1) by omega, show y + (j + 1 + 1) = y + 1 + (j + 1) by omega]; exact e (j + 1) (by omega) (by omega)
/-- sorted seeds: the whole order -/
theorem ipI_sorted {S : Nat → Nat} {m : Nat} (hS : sdS n t S m) {g : Int → Int} (I : ipI n t S m g) (hs : ∀ k l, k < l → l < m → sx_lt n t (S k) (S l)) {s s' x y : Nat} (h1 : s < n) (h2 : s' < n) (ex : g s = (x : Int)) (ey : g s' = (y : Int)) (h : sx_lt n t x y) : s < s' := by
  refine ipI_lt hS I (fun _ _ => True) (fun _ _ => True) (fun _ _ _ _ _ _ => trivial) ?_ (fun _ _ _ _ _ _ => trivial) (fun _ _ _ _ _ _ => trivial) s s' x y h1 h2 ex ey h trivial
  intro k l hk hl _ _ hlt
  rcases Nat.lt_trichotomy k l with q | q | q
  · exact q
  · rw [q] at hlt; exact absurd hlt sx_lt_ir
  · exact absurd hlt (sx_lt_as (hs l k q hk))
/-- valleys in an order in which those that are not alike stand as they should -/
def sPo (n : Nat) (t S : Nat → Nat) (m : Nat) : Prop := sdS n t S m ∧ ∀ k l, k < l → l < m → sx_lt n t (S k) (S l) ∨ sAl n t (S k) (S l)
/-- names: c i of the i-th: the same as the one before if they are alike, else one more -/
def sNm (n : Nat) (t S : Nat → Nat) (m : Nat) (c : Nat → Nat) : Prop := c 0 = 0 ∧ ∀ i, i + 1 < m → (sAl n t (S i) (S (i + 1)) → c (i + 1) = c i) ∧ (¬ sAl n t (S i) (S (i + 1)) → c (i + 1) = c i + 1)
theorem sNm_up {S c : Nat → Nat} {m : Nat} (hN : sNm n t S m c) : ∀ i j, i ≤ j → j < m → c i ≤ c j := by
  intro i j hij
  induction j with
  | zero => intro _; rw [show i = 0 by omega]; exact Nat.le_refl _
  | succ j ih =>
    intro hj
    rcases Nat.lt_or_ge j i with l | l
    · rw [show i = j + 1 by omega]; exact Nat.le_refl _
    · have := ih l (by omega)
      by_cases q : sAl n t (S j) (S (j + 1))
      · rw [(hN.2 j hj).1 q]; exact this
      · rw [(hN.2 j hj).2 q]; omega
theorem sNm_eq {S c : Nat → Nat} {m : Nat} (hN : sNm n t S m c) : ∀ i j, i < j → j < m → c i = c j → sAl n t (S i) (S j) := by
  intro i j hij
  induction j with
  | zero => omega
  | succ j ih =>
    intro hj e
    have h1 := sNm_up hN i j (by omega) (by omega)
    have q : sAl n t (S j) (S (j + 1)) := by
      refine Classical.byContradiction fun hn => ?_
      rw [(hN.2 j hj).2 hn] at e; omega
    rw [(hN.2 j hj).1 q] at e
    rcases Nat.lt_or_ge i j with l | l
    · exact sAl_tr (ih l (by omega) e) q
    · rw [show i = j by omega]; exact q
theorem sNm_lt {S c : Nat → Nat} {m : Nat} (hP : sPo n t S m) (hN : sNm n t S m c) {i j : Nat} (hij : i < j) (hj : j < m) (hc : c i < c j) : sx_lt n t (S i) (S j) := by
  rcases hP.2 i j hij hj with h | h
  · exact h
  · -- all between are alike then
    exfalso
    have key : ∀ k, i < k → k < j → sAl n t (S i) (S k) := by
      intro k h1 h2
      refine Classical.byContradiction fun hn => ?_
      rcases hP.2 i k h1 (by omega) with a | a
      · have hkj : ¬ sAl n t (S k) (S j) := fun q => hn (sAl_tr h (sAl_symm q))
        rcases hP.2 k j h2 hj with b | b
        · exact sx_lt_as b (sAl_lt a hn h)
        · exact hkj b
      · exact hn a
    have hcc : ∀ k, i ≤ k → k ≤ j → c k = c i := by
      intro k
      induction k with
      | zero => intro h1 _; rw [show i = 0 by omega]
      | succ k ih =>
        intro h1 h2
        rcases Nat.lt_or_ge k i with l | l
        · rw [show k + 1 = i by omega]
        · have e := ih l (by omega)
          have a1 : k = i ∨ sAl n t (S i) (S k) := by
            rcases Nat.lt_or_ge i k with l2 | l2
            · exact Or.inr (key k l2 (by omega))
            · exact Or.inl (by omega)
          have a2 : sAl n t (S i) (S (k + 1)) := by
            rcases Nat.lt_or_ge (k + 1) j with l2 | l2
            · exact key (k + 1) (by omega) l2
            · rw [show k + 1 = j by omega]; exact h
          have a3 : sAl n t (S k) (S (k + 1)) := by
            rcases a1 with a | a
            · rw [a]; rw [a] at a2; exact a2
            · exact sAl_tr (sAl_symm a) a2
          rw [(hN.2 k (by omega)).1 a3]; exact e
    have := hcc j (by omega) (Nat.le_refl j)
    omega
/-- the text of the names, in the order of the places, is ordered as the valleys are -/
theorem sRed {V S c nm : Nat → Nat} {m : Nat} (hV : ∀ j, j < m → sx_val n t (V j) = true) (hVu : ∀ j j', j < j' → j' < m → V j < V j') (hVa : ∀ v, sx_val n t v = true → ∃ j, j < m ∧ V j = v) (hP : sPo n t S m) (hN : sNm n t S m c) (hnm : ∀ i j, i < m → j < m → S i = V j → nm j = c i) : ∀ j j', j < m → j' < m → sx_lt m nm j j' → sx_lt n t (V j) (V j') := by
  have hVi : ∀ j j', j < m → j' < m → V j = V j' → j = j' := by
    intro j j' h1 h2 e
    rcases Nat.lt_trichotomy j j' with l | l | l
    · have := hVu j j' l h2; omega
    · exact l
    · have := hVu j' j l h1; omega
  have next : ∀ j k, j < m → sx_val n t (V j + k) = true → 1 ≤ k → (∀ i, 0 < i → i < k → sx_val n t (V j + i) = false) → j + 1 < m ∧ V (j + 1) = V j + k := by
    intro j k hj hv hk hno
    obtain ⟨j2, h1, h2⟩ := hVa _ hv
    have l1 : j < j2 := by
      rcases Nat.lt_trichotomy j j2 with l | l | l
      · exact l
      · rw [l] at h2; omega
      · have := hVu j2 j l hj; omega
    refine ⟨by omega, ?_⟩
    rcases Nat.lt_or_ge (j + 1) j2 with l | l
    · have a := hVu j (j + 1) (by omega) (by omega)
      have b := hVu (j + 1) j2 l h1
      have := hno (V (j + 1) - V j) (by omega) (by omega)
      rw [show V j + (V (j + 1) - V j) = V (j + 1) by omega, hV (j + 1) (by omega)] at this
      cases this
    · rw [show j + 1 = j2 by omega]; exact h2
  have key : ∀ d j j', (m - j) + (m - j') ≤ d → j < m → j' < m → sx_lt m nm j j' → sx_lt n t (V j) (V j') := by
    intro d
    induction d with
    | zero => intro j j' h1 h2; omega
    | succ d ih =>
      intro j j' hd hj hj' h
      have hne : j ≠ j' := fun e => by rw [e] at h; exact absurd h sx_lt_ir
      obtain ⟨i, i1, i2⟩ := hP.1.2.2 _ (hV j hj)
      obtain ⟨i', i1', i2'⟩ := hP.1.2.2 _ (hV j' hj')
      have e1 := hnm i j i1 hj i2
      have e2 := hnm i' j' i1' hj' i2'
      have hle := sx_lt_head h
      rw [sx_le_lt hj, sx_le_lt hj'] at hle
      have hii : i ≠ i' := fun e => by
        rw [e] at i2
        exact hne (hVi j j' hj hj' (by rw [← i2, i2']))
      rcases Nat.lt_or_ge (nm j) (nm j') with l | l
      · rw [e1, e2] at l
        have hlt : i < i' := by
          rcases Nat.lt_or_ge i i' with q | q
          · exact q
          · have := sNm_up hN i' i q i1; omega
        have := sNm_lt hP hN hlt i1' l
        rw [i2, i2'] at this
        exact this
      · have ee : nm j = nm j' := by omega
        have hal : sAl n t (V j) (V j') := by
          rw [← i2, ← i2']
          rcases Nat.lt_or_ge i i' with q | q
          · exact sNm_eq hN i i' q i1' (by rw [← e1, ← e2, ee])
          · exact sAl_symm (sNm_eq hN i' i (by omega) i1 (by rw [← e1, ← e2, ee]))
        obtain ⟨k, a, b, c1, c2, c3⟩ := hal
        obtain ⟨n1, n2⟩ := next j k hj c1 a (fun i h1 h2 => (c3 i h1 h2).1)
        obtain ⟨n3, n4⟩ := next j' k hj' c2 a (fun i h1 h2 => (c3 i h1 h2).2)
        have h2 : sx_lt m nm (j + 1) (j' + 1) := (sx_lt_s (by rw [sx_le_lt hj, sx_le_lt hj', ee])).mp h
        have h3 := ih (j + 1) (j' + 1) (by omega) n1 n3 h2
        rw [n2, n4] at h3
        exact (sx_lt_sk k (fun i hi => b i (by omega))).mpr h3
  intro j j' hj hj' h
  exact key _ j j' (Nat.le_refl _) hj hj' h
end
