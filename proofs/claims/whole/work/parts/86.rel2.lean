/-! what the calls do to both states -/
section
variable {rm sg pr len pl bt fh ht fi ht2 fo : Int} {T pt od sd al od2 : Int → Int}
theorem fok_iff {sg rm sz x : Int} : fok sg rm sz x = true ↔ 0 ≤ x ∧ x < sg ∧ sz < rm := by simp [fok]
theorem zup_S {T : Int → Int} {k x : Int} (hT : zS T) (h0 : -1000000 ≤ x) (h1 : x ≤ 1000000) : zS (zup T k x) := by
  intro i
  unfold zup
  split
  · exact ⟨h0, h1⟩
  · exact hT i
theorem lRel_fed (h : lRel rm sg pr len pl bt fh ht fi ht2 fo T pt od sd al od2) {x : Int} (hf : fok sg rm len x = true) : lRel rm sg pr (len + 1) pl 0 fh 0 fi ht2 0 (zup T len x) pt od sd al od2 := by
  obtain ⟨r1, r2, r3, r4, r5, r6, r7, r8, r9, r10, r11, r12⟩ := h
  obtain ⟨f1, f2, f3⟩ := fok_iff.mp hf
  refine ⟨⟨by omega, by omega, by omega⟩, r2, r3, Or.inl rfl, ?_, r6, fun z => absurd rfl z, Or.inl rfl, fun _ => rfl, fun z => absurd rfl z, ⟨by omega, by omega, by omega, fun z => absurd rfl z⟩, r12⟩
  intro i i0 i1
  by_cases q : i = len
  · rw [q, zup_eq]; exact ⟨f1, f2⟩
  · rw [zup_ne q]; exact r5 i i0 (by omega)
theorem lRel_feed (h : lRel rm sg pr len pl bt fh ht fi ht2 fo T pt od sd al od2) (x : Int) : lRel rm sg pr (if fok sg rm len x = true then len + 1 else len) pl (if fok sg rm len x = true then 0 else bt) fh (if fok sg rm len x = true then 0 else ht) fi ht2 (if fok sg rm len x = true then 0 else fo) (if fok sg rm len x = true then zup T len x else T) pt od sd al od2 := by
  by_cases q : fok sg rm len x = true
  · simp only [if_pos q]; exact lRel_fed h q
  · simp only [if_neg q]; exact h
theorem feed_S (h : lRel rm sg pr len pl bt fh ht fi ht2 fo T pt od sd al od2) (x : Int) (hT : zS T) : zS (if fok sg rm len x = true then zup T len x else T) := by
  by_cases q : fok sg rm len x = true
  · obtain ⟨f1, f2, f3⟩ := fok_iff.mp q
    have := h.2.2.1
    rw [if_pos q]; exact zup_S hT (by omega) (by omega)
  · rw [if_neg q]; exact hT
theorem lRel_patFeed (h : lRel rm sg pr len pl bt fh ht fi ht2 fo T pt od sd al od2) (x : Int) : lRel rm sg pr len (if fok sg pr pl x = true then pl + 1 else pl) bt fh (if fok sg pr pl x = true then 0 else ht) fi ht2 (if fok sg pr pl x = true then 0 else fo) T (if fok sg pr pl x = true then zup pt pl x else pt) od sd al od2 := by
  by_cases q : fok sg pr pl x = true
  · simp only [if_pos q]
    obtain ⟨r1, r2, r3, r4, r5, r6, r7, r8, r9, r10, r11, r12⟩ := h
    obtain ⟨f1, f2, f3⟩ := fok_iff.mp q
    refine ⟨r1, ⟨by omega, by omega, by omega⟩, r3, r4, r5, ?_, r7, Or.inl rfl, fun _ => rfl, fun z => absurd rfl z, ⟨by omega, by omega, by omega, fun z => absurd rfl z⟩, r12⟩
    intro i i0 i1
    by_cases q : i = pl
    · rw [q, zup_eq]; exact f1
    · rw [zup_ne q]; exact r6 i i0 (by omega)
  · simp only [if_neg q]; exact h
theorem patFeed_S (h : lRel rm sg pr len pl bt fh ht fi ht2 fo T pt od sd al od2) (x : Int) (hT : zS pt) : zS (if fok sg pr pl x = true then zup pt pl x else pt) := by
  by_cases q : fok sg pr pl x = true
  · obtain ⟨f1, f2, f3⟩ := fok_iff.mp q
    have := h.2.2.1
    rw [if_pos q]; exact zup_S hT (by omega) (by omega)
  · rw [if_neg q]; exact hT
theorem lRel_patClear (h : lRel rm sg pr len pl bt fh ht fi ht2 fo T pt od sd al od2) : lRel rm sg pr len 0 bt fh 0 fi ht2 0 T pt od sd al od2 := by
  obtain ⟨r1, r2, r3, r4, r5, r6, r7, r8, r9, r10, r11, r12⟩ := h
  exact ⟨r1, ⟨by omega, by omega, by omega⟩, r3, r4, r5, fun i a b => by omega, r7, Or.inl rfl, fun _ => rfl, fun z => absurd rfl z, ⟨by omega, by omega, by omega, fun z => absurd rfl z⟩, r12⟩
theorem lRel_clear (h : lRel rm sg pr len pl bt fh ht fi ht2 fo T pt od sd al od2) : lRel rm sg pr 0 0 0 fh 0 fi ht2 0 T pt od sd al od2 := by
  obtain ⟨r1, r2, r3, r4, r5, r6, r7, r8, r9, r10, r11, r12⟩ := h
  exact ⟨⟨by omega, by omega, by omega⟩, ⟨by omega, by omega, by omega⟩, r3, Or.inl rfl, fun i a b => by omega, fun i a b => by omega, fun z => absurd rfl z, Or.inl rfl, fun _ => rfl, fun z => absurd rfl z, ⟨by omega, by omega, by omega, fun z => absurd rfl z⟩, r12⟩
theorem lRel_new (h1 : 1 ≤ rm ∧ rm ≤ 1000) (h2 : 1 ≤ sg ∧ sg ≤ 256) (h3 : 1 ≤ pr ∧ pr ≤ 64) : lRel rm sg pr 0 0 0 0 0 0 0 0 T pt od sd al od2 :=
  ⟨⟨by omega, by omega, by omega⟩, ⟨by omega, by omega, by omega⟩, h2, Or.inl rfl, fun i a b => by omega, fun i a b => by omega, fun z => absurd rfl z, Or.inl rfl, fun _ => rfl, fun z => absurd rfl z, ⟨by omega, by omega, by omega, fun z => absurd rfl z⟩, by omega, by omega, by omega⟩
theorem lRel_build {od' sd' al' od2' : Int → Int} (h : lRel rm sg pr len pl bt fh ht fi ht2 fo T pt od sd al od2) (hb : zBt len T od' sd' al') (h0 : bt = 0 → sSa len (zbf len T) od2') (h1 : bt ≠ 0 → od2' = od2) : lRel rm sg pr len pl 1 fh ht fi ht2 fo T pt od' sd' al' od2' := by
  obtain ⟨r1, r2, r3, r4, r5, r6, r7, r8, r9, r10, r11, r12⟩ := h
  refine ⟨r1, r2, r3, Or.inr rfl, r5, r6, fun _ => ⟨hb, ?_⟩, r8, r9, fun z => ⟨by decide, (r10 z).2⟩, r11, r12⟩
  by_cases q : bt = 0
  · exact h0 q
  · rw [h1 q]; exact (r7 q).2
theorem stH_cg {ps sz : Int} {o o' : Int → Int} (h : ∀ i, 0 ≤ i → i < sz → o i = o' i) (q : Int × Int) : ∀ k : Nat, (k : Int) ≤ sz → zit (stH ps sz T pt o) k q = zit (stH ps sz T pt o') k q := by
  intro k
  induction k with
  | zero => intro _; rfl
  | succ k ih =>
    intro hk
    rw [zit, zit, ih (by omega), stH, stH, h (sz - 1 - k) (by omega) (by omega)]
theorem lR_search (h : lRel rm sg pr len pl bt fh ht fi ht2 fo T pt od sd al od2) (hb : bt ≠ 0) :
    (0 ≤ zff len T pt od pl 0 ∧ zff len T pt od pl 0 ≤ zff len T pt od pl 1 ∧ zff len T pt od pl 1 ≤ len) ∧ (zit (stH pl len T pt od2) len.toNat (fi, 0)).2 = zff len T pt od pl 1 - zff len T pt od pl 0 ∧ (0 < zff len T pt od pl 1 - zff len T pt od pl 0 → (zit (stH pl len T pt od2) len.toNat (fi, 0)).1 = zff len T pt od pl 0) ∧ (zff len T pt od pl 1 - zff len T pt od pl 0 = 0 → (zit (stH pl len T pt od2) len.toNat (fi, 0)).1 = fi) := by
  have e := lRel_od h hb
  obtain ⟨r1, r2, r3, r4, r5, r6, r7, -⟩ := h
  rw [← stH_cg (ps := pl) (T := T) (pt := pt) e (fi, 0) len.toNat (by omega)]
  exact find_all r1.1 r2.1 (fun i a b => (r5 i a b).1) r6 (r7 hb).1.1 fi
theorem lR_find (h : lRel rm sg pr len pl bt fh ht fi ht2 fo T pt od sd al od2) : (if bt = 0 then -1 else (zit (stH pl len T pt od2) len.toNat (fi, 0)).2) = (if bt = 0 then -1 else zff len T pt od pl 1 - zff len T pt od pl 0) := by
  by_cases q : bt = 0
  · rw [if_pos q, if_pos q]
  · rw [if_neg q, if_neg q, (lR_search h q).2.1]
theorem lRel_search (h : lRel rm sg pr len pl bt fh ht fi ht2 fo T pt od sd al od2) : lRel rm sg pr len pl bt (if bt = 0 then fh else zff len T pt od pl 0) (if bt = 0 then ht else zff len T pt od pl 1 - zff len T pt od pl 0) (if bt = 0 then fi else (zit (stH pl len T pt od2) len.toNat (fi, 0)).1) (if bt = 0 then ht2 else (zit (stH pl len T pt od2) len.toNat (fi, 0)).2) bt T pt od sd al od2 := by
  by_cases q : bt = 0
  · simp only [if_pos q]
    obtain ⟨r1, r2, r3, r4, r5, r6, r7, r8, r9, r10, r11, r12⟩ := h
    have hfo : fo = 0 := Classical.byContradiction fun z => (r10 z).1 q
    have h0 := r9 hfo
    exact ⟨r1, r2, r3, r4, r5, r6, r7, r4, fun _ => h0, fun z => absurd q z, ⟨r11.1, r11.2.1, r11.2.2.1, fun z => absurd q z⟩, r12⟩
  · have hs := lR_search h q
    simp only [if_neg q]
    obtain ⟨r1, r2, r3, r4, r5, r6, r7, r8, r9, r10, r11, r12⟩ := h
    obtain ⟨s1, s2, s3, s4⟩ := hs
    rw [s2]
    generalize (zit (stH pl len T pt od2) len.toNat (fi, 0)).1 = g at s3 s4 ⊢
    generalize zff len T pt od pl 0 = a0 at s1 s2 s3 s4 ⊢
    generalize zff len T pt od pl 1 = a1 at s1 s2 s3 s4 ⊢
    have hg : 0 ≤ g ∧ g + (a1 - a0) ≤ 1000 := by
      by_cases w : 0 < a1 - a0
      · have := s3 w; omega
      · have := s4 (by omega); omega
    exact ⟨r1, r2, r3, r4, r5, r6, r7, r4, fun z => absurd z q, fun _ => ⟨q, rfl, s3⟩, ⟨s1.1, by omega, by omega, fun _ => by omega⟩, hg.1, by omega, hg.2⟩
/-- letters that come one by one, in both -/
theorem fdA_both (h : lRel rm sg pr len pl bt fh ht fi ht2 fo T pt od sd al od2) (hT : zS T) (w : Int → Int) (n : Int) :
    (fdA sg rm w n T len bt fo).1 = (fdA sg rm w n T len bt ht).1 ∧ (fdA sg rm w n T len bt fo).2.1 = (fdA sg rm w n T len bt ht).2.1 ∧ (fdA sg rm w n T len bt fo).2.2.1 = (fdA sg rm w n T len bt ht).2.2.1 ∧ (fdA sg rm w n T len bt fo).2.2.2.2 = (fdA sg rm w n T len bt ht).2.2.2.2 ∧
    lRel rm sg pr (fdA sg rm w n T len bt ht).2.1 pl (fdA sg rm w n T len bt ht).2.2.1 fh (fdA sg rm w n T len bt ht).2.2.2.1 fi ht2 (fdA sg rm w n T len bt fo).2.2.2.1 (fdA sg rm w n T len bt ht).1 pt od sd al od2 ∧ zS (fdA sg rm w n T len bt ht).1 := by
  unfold fdA
  by_cases q : 1 ≤ n ∧ n ≤ 16
  · simp only [if_pos q]
    generalize n.toNat = k
    induction k with
    | zero => exact ⟨rfl, rfl, rfl, rfl, h, hT⟩
    | succ k ih =>
      simp only [zit]
      generalize zit (stA sg rm w) k (T, len, bt, ht, 0, true) = u at ih ⊢
      generalize zit (stA sg rm w) k (T, len, bt, fo, 0, true) = v at ih ⊢
      obtain ⟨u1, u2, u3, u4, u5, u6⟩ := u
      obtain ⟨v1, v2, v3, v4, v5, v6⟩ := v
      obtain ⟨i1, i2, i3, i4, i5, i6⟩ := ih
      dsimp only at i1 i2 i3 i4 i5 i6
      subst i1 i2 i3
      cases i4
      unfold stA
      dsimp only
      by_cases z : u6 = true ∧ fok sg rm v2 (w k) = true
      · simp only [if_pos z]
        have hz := lRel_fed i5 z.2
        obtain ⟨f1, f2, f3⟩ := fok_iff.mp z.2
        have := i5.2.2.1
        exact ⟨trivial, trivial, trivial, trivial, hz, zup_S i6 (by omega) (by omega)⟩
      · simp only [if_neg z]
        exact ⟨trivial, trivial, trivial, trivial, i5, i6⟩
  · simp only [if_neg q]
    exact ⟨trivial, trivial, trivial, trivial, h, hT⟩
theorem zmx_R {c : Int → Int} {n : Int} (h : zS c) : zR (zmx c n) := by
  unfold zmx
  rcases zmx_ex (c := c) (n - 1).toNat with q | ⟨k, -, -, q⟩
  · rw [q]; decide
  · rw [← q]; have := h k; omega
end
theorem z_and15 {v : Int} : zI v &&& zI 15 = zI (v % 16) := by
  rw [pk_and (zI v) 4 (by decide), zI_tn]
  have : ((v % 4294967296).toNat % 2 ^ 4 : Nat) = (v % 16).toNat := by omega
  rw [this, show nI (v % 16).toNat = zI ((v % 16).toNat : Int) from (zI_nat _).symm, Int.toNat_of_nonneg (by omega)]
/-- what stays: the rows' rooms -/
def lwS (sg : Int) (L nP : Nat) (nl : Nat → Nat) (nO nr nV nM nW nF nR nN nS nA : Nat) : Prop := lvCap L nl nO nr nV nM nW nF nR nN ∧ (1 ≤ sg ∧ sg ≤ 256 ∧ sg ≤ (nN : Int)) ∧ (nl 0 ≤ nS ∧ nl 0 ≤ nA ∧ nl 0 ≤ nO) ∧ (nS ≤ 1000 ∧ nA ≤ 1000 ∧ nO ≤ 1000 ∧ nP ≤ 64)
/-- what holds at the loop's head -/
def lwY (rm sg pr len pl bt fh ht fi ht2 fo : Int) (T pt od sd al od2 vl vn sv ff rf ns : Int → Int) (G : Nat → GvT) : Prop := lRel rm sg pr len pl bt fh ht fi ht2 fo T pt od sd al od2 ∧ (zS T ∧ zS pt) ∧ (zS od ∧ zS sd ∧ zS al) ∧ (zS vl ∧ zS vn ∧ zS sv ∧ zS ff ∧ zS rf ∧ zS ns ∧ ∀ j, zS (G j).2.2)
