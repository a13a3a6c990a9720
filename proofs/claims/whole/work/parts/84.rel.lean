/-! both states side by side -/
def lRel (rm sg pr len pl bt fh ht fi ht2 fo : Int) (T pt od sd al od2 : Int → Int) : Prop :=
  (0 ≤ len ∧ len ≤ rm ∧ rm ≤ 1000) ∧ (0 ≤ pl ∧ pl ≤ pr ∧ pr ≤ 64) ∧ (1 ≤ sg ∧ sg ≤ 256) ∧ (bt = 0 ∨ bt = 1) ∧
  (∀ i, 0 ≤ i → i < len → 0 ≤ T i ∧ T i < sg) ∧ (∀ i, 0 ≤ i → i < pl → 0 ≤ pt i) ∧
  (bt ≠ 0 → zBt len T od sd al ∧ sSa len (zbf len T) od2) ∧
  (fo = 0 ∨ fo = 1) ∧ (fo = 0 → ht = 0) ∧ (fo ≠ 0 → bt ≠ 0 ∧ ht2 = ht ∧ (0 < ht → fi = fh)) ∧ (0 ≤ fh ∧ 0 ≤ ht ∧ fh ≤ 1000 ∧ (fo ≠ 0 → fh + ht ≤ len)) ∧ (0 ≤ fi ∧ 0 ≤ ht2 ∧ fi + ht2 ≤ 1000)
section
variable {rm sg pr len pl bt fh ht fi ht2 fo : Int} {T pt od sd al od2 : Int → Int}
theorem lRel_od (h : lRel rm sg pr len pl bt fh ht fi ht2 fo T pt od sd al od2) (hb : bt ≠ 0) : ∀ i, 0 ≤ i → i < len → od i = od2 i := by
  obtain ⟨r1, r2, r3, r4, r5, r6, r7, -⟩ := h
  obtain ⟨a, b⟩ := r7 hb
  exact sSa_uniq (zbf_ord (fun i x y => (r5 i x y).1)) a.1 b
theorem lRel_c (h : lRel rm sg pr len pl bt fh ht fi ht2 fo T pt od sd al od2) (hb : bt ≠ 0) : ∀ i, 1 ≤ i → i < len → al i = zcc len T od2 i := by
  intro i a b
  have e := lRel_od h hb
  obtain ⟨r1, r2, r3, r4, r5, r6, r7, -⟩ := h
  rw [(r7 hb).1.2.2.2.1 i a b, zcc, zcc, e i (by omega) b, e (i - 1) (by omega) (by omega)]
theorem lR_sa (h : lRel rm sg pr len pl bt fh ht fi ht2 fo T pt od sd al od2) (i : Int) : zsa bt len od i = zsa bt len od2 i := by
  unfold zsa
  by_cases q : zie bt len i = true
  · rw [if_pos q, if_pos q]
    obtain ⟨a, b, c⟩ := zie_iff.mp q
    exact lRel_od h a i b c
  · rw [if_neg q, if_neg q]
theorem lR_lcp (h : lRel rm sg pr len pl bt fh ht fi ht2 fo T pt od sd al od2) (i : Int) : zlc bt len al i = zlc bt len (zcc len T od2) i := by
  unfold zlc
  by_cases q : zie bt len i = true ∧ 0 < i
  · rw [if_pos q, if_pos q]
    obtain ⟨a, b, c⟩ := zie_iff.mp q.1
    exact lRel_c h a i (by omega) c
  · rw [if_neg q, if_neg q]
theorem zrk_eq {od : Int → Int} {p r : Int} {len : Int} (hinj : ∀ x y, 0 ≤ x → x < len → 0 ≤ y → y < len → od x = od y → x = y) (r0 : 0 ≤ r) (r1 : r < len) (er : od r = p) : ∀ (f : Nat) (k : Int), 0 ≤ k → k ≤ r → r - k < f → zrk od p f k = r := by
  intro f
  induction f with
  | zero => intro k a b c; omega
  | succ f ih =>
    intro k a b c
    rw [zrk]
    by_cases q : od k = p
    · rw [if_pos q]
      exact hinj k r a (by omega) r0 r1 (by rw [q, er])
    · rw [if_neg q]
      have : k ≠ r := fun e => q (by rw [e]; exact er)
      exact ih (k + 1) (by omega) (by omega) (by omega)
theorem lR_rank (h : lRel rm sg pr len pl bt fh ht fi ht2 fo T pt od sd al od2) (p : Int) : zsa bt len sd p = zrn bt len od2 p := by
  unfold zsa zrn
  by_cases q : zie bt len p = true
  · rw [if_pos q, if_pos q]
    obtain ⟨a, b, c⟩ := zie_iff.mp q
    have e := lRel_od h a
    obtain ⟨r1, r2, r3, r4, r5, r6, r7, -⟩ := h
    obtain ⟨z1, z2⟩ := r7 a
    obtain ⟨x, x0, x1, ex⟩ := z2.1.2 p b c
    have : sd p = x := by rw [← ex, ← e x x0 x1]; exact z1.2.1 x x0 x1
    rw [this]
    exact (zrk_eq (fun x y x0 x1 y0 y1 w => sSur_inj z2.1 x0 x1 y0 y1 w) x0 x1 ex len.toNat 0 (by omega) x0 (by omega)).symm
  · rw [if_neg q, if_neg q]
theorem zmx_cg {c d : Int → Int} {n : Int} (h : ∀ i, 1 ≤ i → i < n → c i = d i) : zmx c n = zmx d n := by
  unfold zmx
  have : ∀ k : Nat, k ≤ (n - 1).toNat → zit (stM c) k 0 = zit (stM d) k 0 := by
    intro k
    induction k with
    | zero => intro _; rfl
    | succ k ih =>
      intro hk
      rw [zit, zit, ih (by omega), stM, stM, h (k + 1) (by omega) (by omega)]
  exact this _ (Nat.le_refl _)
theorem lR_rep (h : lRel rm sg pr len pl bt fh ht fi ht2 fo T pt od sd al od2) : zrp bt len al = zrp bt len (zcc len T od2) := by
  unfold zrp
  by_cases q : bt = 0
  · rw [if_pos q, if_pos q]
  · rw [if_neg q, if_neg q]
    exact zmx_cg (lRel_c h q)
theorem zls_cg {c d o o' : Int → Int} {m n : Int} (hc : ∀ i, 1 ≤ i → i < n → c i = d i) (ho : ∀ i, 0 ≤ i → i < n → o i = o' i) : ∀ (f : Nat) (k x : Int), 1 ≤ k → k + f ≤ n → zls c o m f k x = zls d o' m f k x := by
  intro f
  induction f with
  | zero => intro k x a b; rfl
  | succ f ih =>
    intro k x a b
    rw [zls, zls, hc k a (by omega), ho k (by omega) (by omega)]
    split
    · exact ih _ _ (by omega) (by omega)
    · rfl
theorem lR_rat (h : lRel rm sg pr len pl bt fh ht fi ht2 fo T pt od sd al od2) {nO : Nat} (hO : len ≤ (nO : Int)) : zra2 bt len nO al od = zra bt len (zcc len T od2) od2 := by
  have hr := lR_rep h
  unfold zra2 zra
  by_cases q : bt = 0
  · rw [if_pos (Or.inl q), if_pos (by unfold zrp; rw [if_pos q]; omega)]
  · have e1 : zrp bt len (zcc len T od2) = zmx al len := by rw [← hr]; unfold zrp; rw [if_neg q]
    rw [e1]
    by_cases q2 : zmx al len ≤ 0
    · rw [if_pos (Or.inr q2), if_pos (by omega)]
    · rw [if_neg (by omega), if_neg (by omega)]
      have hc := lRel_c h q
      have ho := lRel_od h q
      obtain ⟨hb, k, k0, k1, ek⟩ := zrp_ex (bt := bt) (sz := len) (c := al) (by unfold zrp; rw [if_neg q]; omega)
      have em : zrp bt len al = zmx al len := by unfold zrp; rw [if_neg q]
      rw [em] at ek
      -- both find the same first place
      have hmax : ∀ i, 1 ≤ i → i < len → al i ≤ zmx al len := by
        intro i i0 i1
        have key : ∀ n : Nat, ∀ j : Int, 1 ≤ j → j ≤ n → al j ≤ zit (stM al) n 0 := by
          intro n
          induction n with
          | zero => intro j a b; omega
          | succ n ih =>
            intro j a b
            rw [zit, stM]
            rcases Int.lt_or_eq_of_le b with l | l
            · have := ih j a (by omega)
              split <;> omega
            · rw [l]
              split
              · exact Int.le_refl _
              · rename_i w; rw [show ((n + 1 : Nat) : Int) = (n : Int) + 1 by omega]; omega
        exact key (len - 1).toNat i i0 (by omega)
      have hf : ∀ (f : Nat) (j : Int), 1 ≤ j → j ≤ k → k - j ≤ f → zfn al (zmx al len) f j = zfk (zcc len T od2) (zmx al len) f j ∧ 1 ≤ zfn al (zmx al len) f j ∧ zfn al (zmx al len) f j ≤ k := by
        intro f
        induction f with
        | zero => intro j a b c; rw [zfn, zfk]; omega
        | succ f ih =>
          intro j a b c
          rw [zfn, zfk, ← hc j a (by omega)]
          have := hmax j a (by omega)
          by_cases w : al j = zmx al len
          · rw [if_pos w, if_neg (by omega)]; omega
          · rw [if_neg w, if_pos (by omega)]
            have : j ≠ k := fun e => w (by rw [e]; exact ek)
            exact ih (j + 1) (by omega) (by omega) (by omega)
      obtain ⟨f1, f2, f3⟩ := hf (len - 1).toNat 1 (by omega) (by omega) (by omega)
      unfold zlp
      rw [← f1]
      generalize zfn al (zmx al len) (len - 1).toNat 1 = j at f2 f3
      rw [zat_in (by omega) (by omega), ho (j - 1) (by omega) (by omega)]
      exact zls_cg hc ho _ _ _ f2 (by omega)
theorem lR_dif (h : lRel rm sg pr len pl bt fh ht fi ht2 fo T pt od sd al od2) : zdf bt len (fun i => len - od i - al i) = zdf bt len (fun i => len - od2 i - (if i = 0 then 0 else zcc len T od2 i)) := by
  unfold zdf
  by_cases q : bt = 0
  · rw [if_pos q, if_pos q]
  · rw [if_neg q, if_neg q]
    have hc := lRel_c h q
    have ho := lRel_od h q
    have h0 : 1 ≤ len → al 0 = 0 := by
      obtain ⟨r1, r2, r3, r4, r5, r6, r7, -⟩ := h
      exact (r7 q).1.2.2.2.2
    have : ∀ k : Nat, k ≤ len.toNat → zit (stD (fun i => len - od i - al i)) k 0 = zit (stD (fun i => len - od2 i - (if i = 0 then 0 else zcc len T od2 i))) k 0 := by
      intro k
      induction k with
      | zero => intro _; rfl
      | succ k ih =>
        intro hk
        rw [zit, zit, ih (by omega), stD, stD]
        show _ + (len - od k - al k) = _ + (len - od2 k - (if (k : Int) = 0 then 0 else zcc len T od2 k))
        rw [ho k (by omega) (by omega)]
        by_cases w : (k : Int) = 0
        · rw [if_pos w, w, h0 (by omega)]
        · rw [if_neg w, hc k (by omega) (by omega)]
    exact this _ (Nat.le_refl _)
theorem lR_hit (h : lRel rm sg pr len pl bt fh ht fi ht2 fo T pt od sd al od2) {nO : Nat} (hO : len ≤ (nO : Int)) (k : Int) : zhc ht nO od fh k = zhi fo ht2 od2 fi k := by
  have hod := lRel_od h
  obtain ⟨r1, r2, r3, r4, r5, r6, r7, r8, r9, r10, r11, r12⟩ := h
  unfold zhc zhi
  by_cases q : fo = 0
  · rw [if_neg (by have := r9 q; omega), if_neg (fun z => z.1 q)]
  · obtain ⟨a, b, c⟩ := r10 q
    have := r11.2.2.2 q
    by_cases w : 0 ≤ k ∧ k < ht
    · rw [if_pos w, if_pos ⟨q, w.1, by omega⟩, zat_in (by omega) (by omega), c (by omega)]
      exact hod a _ (by omega) (by omega)
    · rw [if_neg w, if_neg (by omega)]
end
