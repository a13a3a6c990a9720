/-! seeds, both passes, and the order that comes out -/
def spS (n : Nat) (t S : Nat → Nat) (l : Nat) : Nat := Mk n t (t (S l)) + te_ct (fun l' => t (S l') == t (S l)) l
/-- the seeds: the m valleys, each once -/
def sdS (n : Nat) (t S : Nat → Nat) (m : Nat) : Prop := (∀ k, k < m → sx_val n t (S k) = true) ∧ (∀ k l, k < m → l < m → S k = S l → k = l) ∧ (∀ v, sx_val n t v = true → ∃ k, k < m ∧ S k = v)
section
variable {n : Nat} {t S : Nat → Nat} {m : Nat}
theorem spS_lt (h : sdS n t S m) {l : Nat} (hl : l < m) : spS n t S l < Bk n t (t (S l) + 1) := by
  have h1 : te_ct (fun l' => t (S l') == t (S l)) m ≤ Rc n t (t (S l)) := te_ct_inj S (fun k hk hP => ⟨sx_val_in (h.1 k hk), by
    rw [(sx_val_iff.mp (h.1 k hk)).1]; exact hP⟩) (fun k k' hk hk' _ _ e => h.2.1 k k' hk hk' e)
  have h2 := te_ct_lt (P := fun l' => t (S l') == t (S l)) hl (by simp)
  have h3 := Bk_s (n := n) (t := t) (t (S l))
  unfold spS
  omega
theorem spS_ge {l : Nat} : Mk n t (t (S l)) ≤ spS n t S l := Nat.le_add_right _ _
theorem spS_up {k l : Nat} (hkl : k < l) (e : t (S k) = t (S l)) : spS n t S k < spS n t S l := by
  have := te_ct_lt (P := fun l' => t (S l') == t (S l)) hkl (by simp [e])
  unfold spS
  rw [e]
  omega
theorem spS_inj (h : sdS n t S m) {k l : Nat} (hk : k < m) (hl : l < m) (e : spS n t S k = spS n t S l) : k = l := by
  have a1 := spS_lt h hk
  have a2 := spS_lt h hl
  have b1 := spS_ge (n := n) (t := t) (S := S) (l := k)
  have b2 := spS_ge (n := n) (t := t) (S := S) (l := l)
  have c1 := Mk_ge (n := n) (t := t) (t (S k))
  have c2 := Mk_ge (n := n) (t := t) (t (S l))
  have : t (S k) = t (S l) := bk_apart (n := n) (t := t) (s := spS n t S k) (by omega) a1 (by omega) (by omega)
  rcases Nat.lt_trichotomy k l with q | q | q
  · have := spS_up (n := n) q this; omega
  · exact q
  · have := spS_up (n := n) q this.symm; omega
end
section
variable {len sg : Int} {lt : Int → Int} {rf ns od sd : Int → Int} {nO nN nR nS : Nat} {S : Nat → Nat} {m : Nat}
theorem simS (hl : 1 ≤ len ∧ len ≤ 1000000) (hlO : len ≤ (nO : Int)) (hsg : 0 ≤ sg) (hsn : sg ≤ (nN : Int)) (hsR : sg ≤ (nR : Int)) (hlt : ∀ i, 0 ≤ i → i < len → 0 ≤ lt i ∧ lt i < sg) (hrf : ∀ c : Nat, c < sg.toNat → rf c = (Mk len.toNat (zt lt) c : Nat)) (hod : zS od) (hS : sdS len.toNat (zt lt) S m) (hmS : (m : Int) ≤ nS) (hsd : ∀ k : Nat, k < m → sd k = (S k : Int)) : ∀ k : Nat, k ≤ m →
    (∀ l : Nat, l < k → (zit (stS nO nN nS len lt sd) k (zfill 0 len (fun _ => -1) od, sbN sg nR rf 0 ns)).1 (spS len.toNat (zt lt) S l : Nat) = (S l : Int)) ∧
    (∀ s : Nat, s < len.toNat → (zit (stS nO nN nS len lt sd) k (zfill 0 len (fun _ => -1) od, sbN sg nR rf 0 ns)).1 s = -1 ∨ ∃ l, l < k ∧ s = spS len.toNat (zt lt) S l) ∧
    (∀ c : Nat, c < sg.toNat → (zit (stS nO nN nS len lt sd) k (zfill 0 len (fun _ => -1) od, sbN sg nR rf 0 ns)).2 c = ((Mk len.toNat (zt lt) c + te_ct (fun l => zt lt (S l) == c) k : Nat) : Int)) ∧
    (∀ i, i < 0 ∨ sg ≤ i → (zit (stS nO nN nS len lt sd) k (zfill 0 len (fun _ => -1) od, sbN sg nR rf 0 ns)).2 i = ns i) ∧
    zS (zit (stS nO nN nS len lt sd) k (zfill 0 len (fun _ => -1) od, sbN sg nR rf 0 ns)).1 := by
  intro k
  induction k with
  | zero =>
    intro _
    refine ⟨fun l h => absurd h (by omega), fun s hs => Or.inl ?_, ?_, ?_, ?_⟩
    · show zfill 0 len (fun _ => -1) od s = -1
      rw [zfill_in (by omega) (by omega)]
    · intro c hc
      show sbN sg nR rf 0 ns c = _
      rw [sbN, zfill_in (by omega) (by omega), show (c : Int) + 0 = c by omega, zat_in (by omega) (by omega), hrf c hc]; rfl
    · intro i hi
      show sbN sg nR rf 0 ns i = _
      rw [sbN, zfill_out hi]
    · exact zS_fill (fun _ _ _ => by omega) hod
  | succ k ih =>
    intro hk
    obtain ⟨a1, a2, a3, a4, a5⟩ := ih (by omega)
    rw [zit]
    generalize zit (stS nO nN nS len lt sd) k (zfill 0 len (fun _ => -1) od, sbN sg nR rf 0 ns) = q at a1 a2 a3 a4 a5
    have hv := sx_val_in (hS.1 k (by omega))
    obtain ⟨e1, e2⟩ := zla_t hlt hv
    have ez : zat nS sd k = (S k : Int) := by rw [zat_in (by omega) (by omega), hsd k (by omega)]
    have esp : zat nN q.2 (zla len lt (S k)) = (spS len.toNat (zt lt) S k : Nat) := by
      rw [e1, zat_in (by omega) (by omega), a3 _ e2]; rfl
    have hsp := spS_lt hS (show k < m by omega)
    have hB := Bk_le (n := len.toNat) (t := zt lt) (c := zt lt (S k) + 1)
    have ho : pfO nO nN len lt q.1 q.2 (S k) = zup q.1 (spS len.toNat (zt lt) S k : Nat) (S k : Int) := by
      rw [pfO, esp, zput_in (by omega) (by omega)]
    have hn : pfN nN len lt q.2 (S k) = zup q.2 (zt lt (S k) : Int) ((spS len.toNat (zt lt) S k : Nat) + 1) := by
      rw [pfN, esp, e1, zput_in (by omega) (by omega)]
    unfold stS
    rw [ez, ho, hn]
    refine ⟨?_, ?_, ?_, ?_, ?_⟩
    · intro l hlk
      show zup q.1 _ _ _ = _
      by_cases e : l = k
      · rw [e, zup_eq]
      · rw [zup_ne (fun z => e (spS_inj hS (by omega) (by omega) (by omega)))]; exact a1 l (by omega)
    · intro s hs
      show zup q.1 _ _ _ = _ ∨ _
      by_cases e : s = spS len.toNat (zt lt) S k
      · exact Or.inr ⟨k, by omega, e⟩
      · rw [zup_ne (by omega)]
        rcases a2 s hs with h | ⟨l, h1, h2⟩
        · exact Or.inl h
        · exact Or.inr ⟨l, by omega, h2⟩
    · intro c hc
      show zup q.2 _ _ _ = _
      rw [te_ct]
      by_cases e : c = zt lt (S k)
      · rw [e, zup_eq, if_pos (by simp), spS]; omega
      · rw [zup_ne (by omega), a3 c hc, if_neg (by simp; omega)]; rfl
    · intro i hi
      show zup q.2 _ _ _ = _
      rw [zup_ne (by omega)]; exact a4 i hi
    · exact zS_up a5 (by omega)
end
/-- the key of an end in the falling pass: where it stands, one on; 0 for the end of nothing -/
def ipK (n : Nat) (t S : Nat → Nat) (m : Nat) (g : Int → Int) (z r : Nat) : Prop := (z = n ∧ r = 0) ∨ (sx_fal n t z = true ∧ ∃ s : Nat, s < n ∧ g s = (z : Int) ∧ r = s + 1) ∨ (∃ l, l < m ∧ S l = z ∧ r = spS n t S l + 1)
/-- what the passes leave in the order g -/
def ipI (n : Nat) (t S : Nat → Nat) (m : Nat) (g : Int → Int) : Prop :=
  (∀ x, x < n → ∃ s : Nat, s < n ∧ g s = (x : Int)) ∧
  (∀ (s x : Nat), s < n → g s = (x : Int) → x < n ∧ (sx_fal n t x = true → Bk n t (t x) ≤ s ∧ s < Mk n t (t x)) ∧ (sx_ris n t x = true → Mk n t (t x) ≤ s ∧ s < Bk n t (t x + 1))) ∧
  (∀ s : Nat, s < n → ∃ x : Nat, x < n ∧ g s = (x : Int)) ∧
  (∀ s s' x : Nat, s < n → s' < n → g s = (x : Int) → g s' = (x : Int) → s = s') ∧
  (∀ s s' x y r r' : Nat, s < s' → s' < n → r < n → r' < n → g s = (x : Int) → g s' = (y : Int) → sx_ris n t x = true → sx_ris n t y = true → t x = t y → g r = (x : Int) + 1 → g r' = (y : Int) + 1 → r < r') ∧
  (∀ s s' x y r r' : Nat, s < s' → s' < n → g s = (x : Int) → g s' = (y : Int) → sx_fal n t x = true → sx_fal n t y = true → t x = t y → ipK n t S m g (x + 1) r → ipK n t S m g (y + 1) r' → r < r')
section
variable {n : Nat} {t S : Nat → Nat} {m : Nat}
theorem ipI_of (hS : sdS n t S m) {gg : Nat} (hg : ∀ x, x < n → t x < gg) {od0 od1 od2 : Int → Int} {OF OR : Nat → Int} {NF NR : Nat → Nat}
    (s1 : ∀ l, l < m → od0 (spS n t S l : Nat) = (S l : Int)) (hipS : ipS n t od0)
    (IF : ps_Inv n (sx_fal n t) t (fun c => Bk n t c + 1) (fun c => Mk n t c + 1) (shF n od0) (n + 1) OF NF) (rF : ∀ s : Nat, s < n → od1 s = OF (s + 1)) (rF0 : OF 0 = (n : Int))
    (hipT : ipT n t od1)
    (IR : ps_Inv n (sx_ris n t) t (fun c => n - Bk n t (c + 1) + 1) (fun c => n - Mk n t c + 1) (shR n od1) (n + 1) OR NR) (rR : ∀ s : Nat, s < n → od2 s = OR (n - s)) : ipI n t S m od2 := by
  obtain ⟨f1, f2, f3, f4, f5⟩ := ps_fin (ipF_hyp hipS) IF
  obtain ⟨g1, g2, g3, g4, g5⟩ := ps_fin (ipR_hyp hipT hg) IR
  have hB : ∀ c, Bk n t c ≤ n := fun c => Bk_le
  have hM : ∀ c, Mk n t c ≤ n := fun c => Nat.le_trans (Mk_le c) Bk_le
  -- falling parts stay as they were
  have stay : ∀ c s, Bk n t c ≤ s → s < Mk n t c → od2 s = od1 s := by
    intro c s a b
    have := hM c
    rw [rR s (by omega), g1 (n - s), shR_s (by omega)]
    intro c' hc'
    have h1 : n - Bk n t (c' + 1) + 1 ≤ n - s := hc'.1
    have h2 : n - s < n - Mk n t c' + 1 := hc'.2
    have := Mk_ge (n := n) (t := t) c'
    have := Mk_le (n := n) (t := t) c
    have := hB (c' + 1)
    have := hM c'
    have := bk_apart (c := c') (d := c) (s := s) (n := n) (t := t) (by omega) (by omega) a (by omega)
    subst this
    omega
  have rise : ∀ c s, Mk n t c ≤ s → s < Bk n t (c + 1) → ∃ x : Nat, sx_ris n t x = true ∧ t x = c ∧ od2 s = (x : Int) := by
    intro c s a b
    have := hB (c + 1)
    have := hM c
    obtain ⟨x, x1, x2, x3⟩ := g3 c (n - s) (by show n - Bk n t (c + 1) + 1 ≤ n - s; omega) (by show n - s < n - Mk n t c + 1; omega)
    exact ⟨x, x1, x2, by rw [rR s (by omega)]; exact x3⟩
  have fall : ∀ c s, Bk n t c ≤ s → s < Mk n t c → ∃ x : Nat, sx_fal n t x = true ∧ t x = c ∧ od2 s = (x : Int) := by
    intro c s a b
    obtain ⟨x, x1, x2, x3⟩ := hipT.2.1 c s a b
    exact ⟨x, x1, x2, by rw [stay c s a b]; exact x3⟩
  have part : ∀ s, s < n → ∃ c, (Bk n t c ≤ s ∧ s < Mk n t c) ∨ (Mk n t c ≤ s ∧ s < Bk n t (c + 1)) := by
    intro s hs
    obtain ⟨c, c1, c2⟩ := Bk_find hg hs
    refine ⟨c, ?_⟩
    omega
  have loc : ∀ (s x : Nat), s < n → od2 s = (x : Int) → x < n ∧ (sx_fal n t x = true → Bk n t (t x) ≤ s ∧ s < Mk n t (t x)) ∧ (sx_ris n t x = true → Mk n t (t x) ≤ s ∧ s < Bk n t (t x + 1)) := by
    intro s x hs e
    obtain ⟨c, h | h⟩ := part s hs
    · obtain ⟨y, y1, y2, y3⟩ := fall c s h.1 h.2
      have : y = x := by omega
      subst this
      refine ⟨(sx_fal_iff.mp y1).1, fun _ => by rw [y2]; exact h, fun z => ?_⟩
      rw [(sx_fal_iff.mp y1).2] at z; cases z
    · obtain ⟨y, y1, y2, y3⟩ := rise c s h.1 h.2
      have : y = x := by omega
      subst this
      refine ⟨sx_ris_in y1, fun z => ?_, fun _ => by rw [y2]; exact h⟩
      rw [(sx_fal_iff.mp z).2] at y1; cases y1
  have uniq : ∀ s s' x : Nat, s < n → s' < n → od2 s = (x : Int) → od2 s' = (x : Int) → s = s' := by
    intro s s' x hs hs' e e'
    obtain ⟨hx, -, -⟩ := loc s x hs e
    rcases sx_two (t := t) hx with q | q
    · have a := (loc s x hs e).2.1 q
      have a' := (loc s' x hs' e').2.1 q
      exact hipT.2.2 s s' x hs hs' (by rw [← stay _ s a.1 a.2]; exact e) (by rw [← stay _ s' a'.1 a'.2]; exact e') q
    · have := g5 (n - s) (n - s') x (by omega) (by omega) (by rw [← rR s hs]; exact e) (by rw [← rR s' hs']; exact e') (Or.inl q)
      omega
  refine ⟨?_, loc, ?_, uniq, ?_, ?_⟩
  · intro x hx
    rcases sx_two (t := t) hx with q | q
    · obtain ⟨s, a, b, e⟩ := hipT.1 x q
      have := hM (t x)
      exact ⟨s, by omega, by rw [stay _ s a b]; exact e⟩
    · obtain ⟨r, a, b, e⟩ := g2 x q
      have a' : n - Bk n t (t x + 1) + 1 ≤ r := a
      have b' : r < n - Mk n t (t x) + 1 := b
      refine ⟨n - r, by omega, ?_⟩
      rw [rR (n - r) (by omega), show n - (n - r) = r by omega]; exact e
  · intro s hs
    obtain ⟨c, h | h⟩ := part s hs
    · obtain ⟨x, x1, -, x3⟩ := fall c s h.1 h.2
      exact ⟨x, (sx_fal_iff.mp x1).1, x3⟩
    · obtain ⟨x, x1, -, x3⟩ := rise c s h.1 h.2
      exact ⟨x, sx_ris_in x1, x3⟩
  · intro s s' x y r r' hss hs' hr hr' ex ey hx hy hxy er er'
    have a := (loc s x (by omega) ex).2.2 hx
    have b := (loc s' y hs' ey).2.2 hy
    rw [← hxy] at b
    have := hB (t x + 1)
    have h1 := g4 (t x) (n - s') (n - s) (by show n - Bk n t (t x + 1) + 1 ≤ n - s'; omega) (by omega) (by show n - s < n - Mk n t (t x) + 1; omega) (n - r') (n - r) (by omega) (by omega) (by rw [← rR r' hr', ← rR s' hs', er', ey]) (by rw [← rR r hr, ← rR s (by omega), er, ex])
    omega
  · intro s s' x y r r' hss hs' ex ey hx hy hxy kx ky
    have a := (loc s x (by omega) ex).2.1 hx
    have b := (loc s' y hs' ey).2.1 hy
    rw [← hxy] at b
    have key : ∀ z r, ipK n t S m od2 z r → r ≤ n ∧ OF r = (z : Int) := by
      intro z r hk
      rcases hk with ⟨h1, h2⟩ | ⟨h1, s0, h2, h3, h4⟩ | ⟨l, h1, h2, h3⟩
      · rw [h2, h1]; exact ⟨by omega, rF0⟩
      · have c := (loc s0 z h2 h3).2.1 h1
        rw [h4]
        exact ⟨by omega, by rw [← rF s0 h2, ← stay _ s0 c.1 c.2]; exact h3⟩
      · have c := spS_lt hS h1
        have c2 := hB (t (S l) + 1)
        have c3 := spS_ge (n := n) (t := t) (S := S) (l := l)
        rw [h3]
        refine ⟨by omega, ?_⟩
        rw [f1 (spS n t S l + 1), shF_s, s1 l h1, h2]
        intro c' hc'
        have k1 : Bk n t c' + 1 ≤ spS n t S l + 1 := hc'.1
        have k2 : spS n t S l + 1 < Mk n t c' + 1 := hc'.2
        have := Mk_le (n := n) (t := t) c'
        have := Mk_ge (n := n) (t := t) (t (S l))
        have := bk_apart (c := c') (d := t (S l)) (s := spS n t S l) (n := n) (t := t) (by omega) (by omega) (by omega) c
        subst this
        omega
    obtain ⟨p1, p2⟩ := key _ _ kx
    obtain ⟨p3, p4⟩ := key _ _ ky
    have := hM (t x)
    have ex1 : OF (s + 1) = (x : Int) := by rw [← rF s (by omega), ← stay _ s a.1 a.2]; exact ex
    have ey1 : OF (s' + 1) = (y : Int) := by rw [← rF s' hs', ← stay _ s' b.1 b.2]; exact ey
    exact f4 (t x) (s + 1) (s' + 1) (by show Bk n t (t x) + 1 ≤ s + 1; omega) (by omega) (by show s' + 1 < Mk n t (t x) + 1; omega) r r' p1 p3 (by rw [p2, ex1]; rfl) (by rw [p4, ey1]; rfl)
/-- the order of the ends, as far as the seeds' order reaches -/
theorem ipI_lt (hS : sdS n t S m) {g : Int → Int} (I : ipI n t S m g) (Q Q2 : Nat → Nat → Prop)
    (q1 : ∀ x y, Q x y → sx_fal n t x = true → sx_fal n t y = true → t x = t y → Q (x + 1) (y + 1))
    (q2 : ∀ k l, k < m → l < m → Q (S k) (S l) → t (S k) = t (S l) → sx_lt n t (S k) (S l) → k < l)
    (q3 : ∀ x y, Q2 x y → sx_fal n t x = true → sx_fal n t y = true → t x = t y → Q x y)
    (q4 : ∀ x y, Q2 x y → sx_ris n t x = true → sx_ris n t y = true → t x = t y → Q2 (x + 1) (y + 1)) :
    ∀ s s' x y : Nat, s < n → s' < n → g s = (x : Int) → g s' = (y : Int) → sx_lt n t x y → Q2 x y → s < s' := by
  obtain ⟨i1, i2, i3, i4, i5, i6⟩ := I
  -- where a key stands
  have kloc : ∀ z r, ipK n t S m g z r → z < n → (sx_fal n t z = true → Bk n t (t z) + 1 ≤ r ∧ r ≤ Mk n t (t z)) ∧ (sx_fal n t z = false → Mk n t (t z) + 1 ≤ r ∧ r ≤ Bk n t (t z + 1)) := by
    intro z r hk hz
    rcases hk with ⟨h1, -⟩ | ⟨h1, s, h2, h3, h4⟩ | ⟨l, h1, h2, h3⟩
    · omega
    · have := (i2 s z h2 h3).2.1 h1
      exact ⟨fun _ => by omega, fun q => by rw [h1] at q; cases q⟩
    · have a := spS_lt hS h1
      have b := spS_ge (n := n) (t := t) (S := S) (l := l)
      have c := (sx_val_iff.mp (hS.1 l h1)).1
      rw [h2] at a b c
      exact ⟨fun q => (by rw [(sx_fal_iff.mp q).2] at c; cases c), fun _ => by omega⟩
  have kex : ∀ x, sx_fal n t x = true → ∃ r, ipK n t S m g (x + 1) r := by
    intro x hx
    rcases sx_fal_next hx with e | e | ⟨e, -⟩
    · exact ⟨0, Or.inl ⟨e, rfl⟩⟩
    · obtain ⟨s, a, b⟩ := i1 (x + 1) (sx_fal_iff.mp e).1
      exact ⟨s + 1, Or.inr (Or.inl ⟨e, s, a, b, rfl⟩)⟩
    · obtain ⟨l, a, b⟩ := hS.2.2 (x + 1) e
      exact ⟨_, Or.inr (Or.inr ⟨l, a, b, rfl⟩)⟩
  have FC : ∀ d x y r r', (n - x) + (n - y) ≤ d → sx_lt n t x y → Q x y → ipK n t S m g x r → ipK n t S m g y r' → r < r' := by
    intro d
    induction d with
    | zero =>
      intro x y r r' hd hlt _ kx ky
      have hx : x = n := by
        rcases kx with ⟨h1, -⟩ | ⟨h1, -⟩ | ⟨l, h1, h2, -⟩
        · exact h1
        · have := (sx_fal_iff.mp h1).1; omega
        · have := sx_val_in (hS.1 l h1); omega
      have hy : y = n := by
        rcases ky with ⟨h1, -⟩ | ⟨h1, -⟩ | ⟨l, h1, h2, -⟩
        · exact h1
        · have := (sx_fal_iff.mp h1).1; omega
        · have := sx_val_in (hS.1 l h1); omega
      rw [hx, hy] at hlt
      exact absurd hlt sx_lt_ir
    | succ d ih =>
      intro x y r r' hd hlt hQ kx ky
      have hyn : y < n := by
        rcases Nat.lt_or_ge y n with l | l
        · exact l
        · have h1 := sx_lt_head hlt
          rw [sx_le_ge l] at h1
          have hxn : n ≤ x := by
            rcases Nat.lt_or_ge x n with l2 | l2
            · rw [sx_le_lt l2] at h1; omega
            · exact l2
          have hx : x = n := by
            rcases kx with ⟨h1, -⟩ | ⟨h1, -⟩ | ⟨l, h1, h2, -⟩
            · exact h1
            · have := (sx_fal_iff.mp h1).1; omega
            · have := sx_val_in (hS.1 l h1); omega
          have hy : y = n := by
            rcases ky with ⟨h1, -⟩ | ⟨h1, -⟩ | ⟨l, h1, h2, -⟩
            · exact h1
            · have := (sx_fal_iff.mp h1).1; omega
            · have := sx_val_in (hS.1 l h1); omega
          rw [hx, hy] at hlt
          exact absurd hlt sx_lt_ir
      have ly := kloc y r' ky hyn
      have hMy := Mk_ge (n := n) (t := t) (t y)
      rcases Nat.lt_or_ge x n with hxn | hxn
      · have lx := kloc x r kx hxn
        have hMx := Mk_le (n := n) (t := t) (t x)
        have hle := sx_lt_head hlt
        rw [sx_le_lt hxn, sx_le_lt hyn] at hle
        have cy : Bk n t (t y) + 1 ≤ r' := by
          cases q : sx_fal n t y with
          | true => exact (ly.1 q).1
          | false => have := (ly.2 q).1; omega
        have cx : r ≤ Bk n t (t x + 1) := by
          cases q : sx_fal n t x with
          | true => have := (lx.1 q).2; omega
          | false => exact (lx.2 q).2
        rcases Nat.lt_or_ge (t x) (t y) with l | l
        · have := Bk_mono (n := n) (t := t) (show t x + 1 ≤ t y from l)
          omega
        · have ht : t x = t y := by omega
          cases fx : sx_fal n t x with
          | true =>
            cases fy : sx_fal n t y with
            | true =>
              have hl2 : sx_lt n t (x + 1) (y + 1) := (sx_lt_s (by rw [sx_le_lt hxn, sx_le_lt hyn, ht])).mp hlt
              obtain ⟨ρ, k1⟩ := kex x fx
              obtain ⟨ρ', k2⟩ := kex y fy
              have hρ := ih (x + 1) (y + 1) ρ ρ' (by omega) hl2 (q1 x y hQ fx fy ht) k1 k2
              rcases kx with ⟨h1, -⟩ | ⟨h1, s, h2, h3, h4⟩ | ⟨l0, h1, h2, h3⟩
              · omega
              · rcases ky with ⟨g1, -⟩ | ⟨g1, s', g2, g3, g4⟩ | ⟨l1, g1, g2, g3⟩
                · omega
                · rcases Nat.lt_trichotomy s s' with a | a | a
                  · omega
                  · rw [a] at h3
                    have : x = y := by omega
                    rw [this] at hlt
                    exact absurd hlt sx_lt_ir
                  · have := i6 s' s y x ρ' ρ a h2 g3 h3 fy fx ht.symm k2 k1
                    omega
                · have c := (sx_val_iff.mp (hS.1 l1 g1)).1
                  rw [g2, (sx_fal_iff.mp fy).2] at c; cases c
              · have c := (sx_val_iff.mp (hS.1 l0 h1)).1
                rw [h2, (sx_fal_iff.mp fx).2] at c; cases c
            | false =>
              have a1 := (lx.1 fx).2
              have a2 := (ly.2 fy).1
              rw [ht] at a1
              omega
          | false =>
            cases fy : sx_fal n t y with
            | true =>
              have rx : sx_ris n t x = true := by
                rcases sx_two (t := t) hxn with z | z
                · rw [fx] at z; cases z
                · exact z
              exact absurd (sx_lt_type fy rx ht.symm) (sx_lt_as hlt)
            | false =>
              rcases kx with ⟨h1, -⟩ | ⟨h1, -⟩ | ⟨l0, h1, h2, h3⟩
              · omega
              · rw [fx] at h1; cases h1
              · rcases ky with ⟨g1, -⟩ | ⟨g1, -⟩ | ⟨l1, g1, g2, g3⟩
                · omega
                · rw [fy] at g1; cases g1
                · have hkl := q2 l0 l1 h1 g1 (by rw [h2, g2]; exact hQ) (by rw [h2, g2]; exact ht) (by rw [h2, g2]; exact hlt)
                  have := spS_up (n := n) (t := t) (S := S) hkl (by rw [h2, g2]; exact ht)
                  omega
      · have hr : r = 0 := by
          rcases kx with ⟨-, h1⟩ | ⟨h1, -⟩ | ⟨l, h1, h2, -⟩
          · exact h1
          · have := (sx_fal_iff.mp h1).1; omega
          · have := sx_val_in (hS.1 l h1); omega
        cases q : sx_fal n t y with
        | true => have := (ly.1 q).1; omega
        | false => have := (ly.2 q).1; omega
  have RC : ∀ d s s' x y : Nat, (n - x) + (n - y) ≤ d → s < n → s' < n → g s = (x : Int) → g s' = (y : Int) → sx_lt n t x y → Q2 x y → s < s' := by
    intro d
    induction d with
    | zero =>
      intro s s' x y hd hs hs' ex ey
      have := (i2 s x hs ex).1
      omega
    | succ d ih =>
      intro s s' x y hd hs hs' ex ey hlt hQ
      have lx := i2 s x hs ex
      have ly := i2 s' y hs' ey
      have hxn := lx.1
      have hyn := ly.1
      have hMy := Mk_ge (n := n) (t := t) (t y)
      have hMx := Mk_le (n := n) (t := t) (t x)
      have hle := sx_lt_head hlt
      rw [sx_le_lt hxn, sx_le_lt hyn] at hle
      have cy : Bk n t (t y) ≤ s' := by
        rcases sx_two (t := t) hyn with q | q
        · exact (ly.2.1 q).1
        · have := (ly.2.2 q).1; omega
      have cx : s < Bk n t (t x + 1) := by
        rcases sx_two (t := t) hxn with q | q
        · have := (lx.2.1 q).2; omega
        · exact (lx.2.2 q).2
      rcases Nat.lt_or_ge (t x) (t y) with l | l
      · have := Bk_mono (n := n) (t := t) (show t x + 1 ≤ t y from l)
        omega
      · have ht : t x = t y := by omega
        rcases sx_two (t := t) hxn with fx | fx <;> rcases sx_two (t := t) hyn with fy | fy
        · have := FC ((n - x) + (n - y)) x y (s + 1) (s' + 1) (Nat.le_refl _) hlt (q3 x y hQ fx fy ht) (Or.inr (Or.inl ⟨fx, s, hs, ex, rfl⟩)) (Or.inr (Or.inl ⟨fy, s', hs', ey, rfl⟩))
          omega
        · have a1 := (lx.2.1 fx).2
          have a2 := (ly.2.2 fy).1
          rw [ht] at a1
          omega
        · exact absurd (sx_lt_type fy fx ht.symm) (sx_lt_as hlt)
        · have hl2 : sx_lt n t (x + 1) (y + 1) := (sx_lt_s (by rw [sx_le_lt hxn, sx_le_lt hyn, ht])).mp hlt
          have ux := (sx_ris_up fx).1
          have uy := (sx_ris_up fy).1
          obtain ⟨σ, a, b⟩ := i1 (x + 1) ux
          obtain ⟨σ', a', b'⟩ := i1 (y + 1) uy
          have hσ := ih σ σ' (x + 1) (y + 1) (by omega) a a' b b' hl2 (q4 x y hQ fx fy ht)
          rcases Nat.lt_trichotomy s s' with c | c | c
          · exact c
          · rw [c] at ex
            have : x = y := by omega
            rw [this] at hlt
            exact absurd hlt sx_lt_ir
          · have := i5 s' s y x σ' σ c hs a' a ey ex fy fx ht.symm (by rw [b']; rfl) (by rw [b]; rfl)
            omega
  intro s s' x y hs hs' ex ey hlt hQ
  exact RC _ s s' x y (Nat.le_refl _) hs hs' ex ey hlt hQ
end
