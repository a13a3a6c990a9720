/-! what enter() leaves -/
def zt (lt : Int → Int) : Nat → Nat := fun j => (lt (j : Int)).toNat
theorem sx_val_adj {n : Nat} {t : Nat → Nat} {i : Nat} (h : sx_val n t (i + 1) = true) : sx_val n t i = false := by
  have h1 := (sx_val_iff.mp h).2.2
  rw [Nat.add_sub_cancel] at h1
  have h2 := (sx_fal_iff.mp h1).2
  cases q : sx_val n t i with
  | false => rfl
  | true => rw [(sx_val_iff.mp q).1] at h2; cases h2
theorem sx_val_0 {n : Nat} {t : Nat → Nat} : sx_val n t 0 = false := by
  cases q : sx_val n t 0 with
  | false => rfl
  | true => have := (sx_val_iff.mp q).2.1; omega
theorem sx_val_in {n : Nat} {t : Nat → Nat} {i : Nat} (h : sx_val n t i = true) : i < n := sx_ris_in (sx_val_iff.mp h).1
theorem sx_val_half (n : Nat) (t : Nat → Nat) : ∀ k, 2 * te_ct (sx_val n t) k ≤ k := by
  intro k
  induction k using Nat.strongRecOn with
  | ind k ih =>
    match k with
    | 0 => exact Nat.le_refl 0
    | 1 => rw [te_ct, te_ct, sx_val_0]; simp
    | k + 2 =>
      rw [te_ct]
      cases q : sx_val n t (k + 1) with
      | false =>
        have := ih (k + 1) (by omega)
        simp; omega
      | true =>
        rw [te_ct, sx_val_adj q]
        have := ih k (by omega)
        simp; omega
/-- what enter() leaves: which ends rise, the valleys and their numbers, where the buckets begin -/
def zEn (len sg : Int) (lt : Int → Int) (rs : Int → Bool) (vl vn : Int → Int) (vc : Int) (ff rf : Int → Int) : Prop :=
  (∀ i : Nat, i < len.toNat → rs i = sx_ris len.toNat (zt lt) i) ∧
  vc = (te_ct (sx_val len.toNat (zt lt)) len.toNat : Nat) ∧
  (∀ i : Nat, i < len.toNat → vn i = if sx_val len.toNat (zt lt) i = true then ((te_ct (sx_val len.toNat (zt lt)) i : Nat) : Int) else -1) ∧
  (∀ i : Nat, sx_val len.toNat (zt lt) i = true → vl ((te_ct (sx_val len.toNat (zt lt)) i : Nat) : Int) = i) ∧
  (∀ c : Nat, c ≤ sg.toNat → ff c = (te_ct (fun x => decide (zt lt x < c)) len.toNat : Nat)) ∧
  (∀ c : Nat, c < sg.toNat → rf c = ((te_ct (fun x => decide (zt lt x < c)) len.toNat + te_ct (fun x => sx_fal len.toNat (zt lt) x && zt lt x == c) len.toNat : Nat) : Int)) ∧
  zS vl ∧ zS vn ∧ zS ff ∧ zS rf
theorem zS_up {g : Int → Int} (h : zS g) {k x : Int} (hx : -1000000 ≤ x ∧ x ≤ 1000000) : zS (zup g k x) := by
  intro i
  by_cases e : i = k
  · rw [e, zup_eq]; exact hx
  · rw [zup_ne e]; exact h i
theorem zS_put {n : Nat} {g : Int → Int} (h : zS g) {k x : Int} (hx : -1000000 ≤ x ∧ x ≤ 1000000) : zS (zput n g k x) := by
  unfold zput; split
  · exact zS_up h hx
  · exact h
theorem zS_fill {lo hi : Int} {f g : Int → Int} (hf : ∀ i, lo ≤ i → i < hi → -1000000 ≤ f i ∧ f i ≤ 1000000) (hg : zS g) : zS (zfill lo hi f g) := by
  intro i
  by_cases q : lo ≤ i ∧ i < hi
  · rw [zfill_in q.1 q.2]; exact hf i q.1 q.2
  · rw [zfill_out (by omega)]; exact hg i
section
variable {len sg : Int} {lt : Int → Int} {rs : Int → Bool}
theorem zvl_eq (hl : 0 ≤ len) (hrs : ∀ i : Nat, i < len.toNat → rs i = sx_ris len.toNat (zt lt) i) {k : Nat} (hk : k < len.toNat) : zvl len rs k = sx_val len.toNat (zt lt) k := by
  unfold zvl sx_val
  rw [zir_in (by omega) (by omega), hrs k hk]
  cases q : sx_ris len.toNat (zt lt) k with
  | false => rfl
  | true =>
    rw [Bool.true_and, Bool.true_and]
    cases k with
    | zero => rw [zif_out (by omega)]; simp
    | succ k => rw [show ((k + 1 : Nat) : Int) - 1 = (k : Nat) by omega, zif_in (by omega) (by omega), hrs k (by omega)]; simp
theorem stV_inv (hl : 0 ≤ len) (hl6 : len ≤ 1000000) (hrs : ∀ i : Nat, i < len.toNat → rs i = sx_ris len.toNat (zt lt) i) {nV : Nat} (hV : len ≤ 2 * (nV : Int) + 1) {vn vl : Int → Int} (hvn : zS vn) (hvl : zS vl) : ∀ k : Nat, k ≤ len.toNat →
    (zit (stV nV len rs) k (vn, vl, 0)).2.2 = (te_ct (sx_val len.toNat (zt lt)) k : Nat) ∧
    (∀ i : Nat, i < k → (zit (stV nV len rs) k (vn, vl, 0)).1 i = if sx_val len.toNat (zt lt) i = true then ((te_ct (sx_val len.toNat (zt lt)) i : Nat) : Int) else -1) ∧
    (∀ i : Nat, i < k → sx_val len.toNat (zt lt) i = true → (zit (stV nV len rs) k (vn, vl, 0)).2.1 ((te_ct (sx_val len.toNat (zt lt)) i : Nat) : Int) = i) ∧
    zS (zit (stV nV len rs) k (vn, vl, 0)).1 ∧ zS (zit (stV nV len rs) k (vn, vl, 0)).2.1 := by
  intro k
  induction k with
  | zero => intro _; exact ⟨rfl, fun i h => absurd h (by omega), fun i h => absurd h (by omega), hvn, hvl⟩
  | succ k ih =>
    intro hk
    obtain ⟨a1, a2, a3, a4, a5⟩ := ih (by omega)
    rw [zit]
    generalize zit (stV nV len rs) k (vn, vl, 0) = q at a1 a2 a3 a4 a5
    have hv := zvl_eq hl hrs (k := k) (by omega)
    have hh := sx_val_half len.toNat (zt lt) (k + 1)
    have hc := te_ct_mono (sx_val len.toNat (zt lt)) (show k ≤ len.toNat by omega)
    unfold stV
    rw [hv]
    cases q1 : sx_val len.toNat (zt lt) k with
    | true =>
      rw [te_ct, if_pos q1] at hh
      rw [if_pos rfl]
      have hin : 0 ≤ q.2.2 ∧ q.2.2 < (nV : Int) := by rw [a1]; omega
      refine ⟨?_, ?_, ?_, ?_, ?_⟩
      · show q.2.2 + 1 = _
        rw [te_ct, if_pos q1, a1]; rfl
      · intro i hi
        show zup q.1 k q.2.2 i = _
        by_cases e : i = k
        · rw [e, zup_eq, if_pos q1, a1]
        · rw [zup_ne (by omega)]; exact a2 i (by omega)
      · intro i hi hvi
        show zput nV q.2.1 q.2.2 k _ = _
        rw [zput_in hin.1 hin.2]
        by_cases e : i = k
        · rw [e, ← a1, zup_eq]
        · have := te_ct_lt (P := sx_val len.toNat (zt lt)) (show i < k by omega) hvi
          rw [zup_ne (by rw [a1]; omega)]; exact a3 i (by omega) hvi
      · exact zS_up a4 (by rw [a1]; omega)
      · exact zS_put a5 (by omega)
    | false =>
      rw [if_neg (by decide)]
      refine ⟨?_, ?_, ?_, ?_, ?_⟩
      · show q.2.2 = _
        rw [te_ct, q1, a1]; simp
      · intro i hi
        show zup q.1 k (-1) i = _
        by_cases e : i = k
        · rw [e, zup_eq, if_neg (by rw [q1]; decide)]
        · rw [zup_ne (by omega)]; exact a2 i (by omega)
      · intro i hi hvi
        by_cases e : i = k
        · rw [e, q1] at hvi; cases hvi
        · exact a3 i (by omega) hvi
      · exact zS_up a4 (by omega)
      · exact a5
theorem stC_inv (hl : 0 ≤ len) (hl6 : len ≤ 1000000) (hrs : ∀ i : Nat, i < len.toNat → rs i = sx_ris len.toNat (zt lt) i) (hlt : ∀ i, 0 ≤ i → i < len → 0 ≤ lt i ∧ lt i < sg) {nF nR : Nat} (hF : sg ≤ nF) (hR : sg ≤ nR) {f0 r0 : Int → Int} (hf0 : zS f0) (hr0 : zS r0) (z1 : ∀ c : Nat, c < sg.toNat → f0 c = 0) (z2 : ∀ c : Nat, c < sg.toNat → r0 c = 0) : ∀ k : Nat, k ≤ len.toNat →
    (∀ c : Nat, c < sg.toNat → (zit (stC nF nR len lt rs) k (f0, r0)).1 c = (te_ct (fun x => sx_fal len.toNat (zt lt) x && zt lt x == c) k : Nat)) ∧
    (∀ c : Nat, c < sg.toNat → (zit (stC nF nR len lt rs) k (f0, r0)).2 c = (te_ct (fun x => sx_ris len.toNat (zt lt) x && zt lt x == c) k : Nat)) ∧
    (∀ i, (i < 0 ∨ sg ≤ i) → (zit (stC nF nR len lt rs) k (f0, r0)).1 i = f0 i ∧ (zit (stC nF nR len lt rs) k (f0, r0)).2 i = r0 i) := by
  intro k
  induction k with
  | zero => intro _; exact ⟨fun c hc => z1 c hc, fun c hc => z2 c hc, fun i _ => ⟨rfl, rfl⟩⟩
  | succ k ih =>
    intro hk
    obtain ⟨a1, a2, a3⟩ := ih (by omega)
    rw [zit]
    generalize zit (stC nF nR len lt rs) k (f0, r0) = q at a1 a2 a3
    have hk1 := hlt k (by omega) (by omega)
    have hla : zla len lt k = (zt lt k : Int) := by
      rw [zla_in (by omega) (by omega)]; show lt k = ((lt (k : Int)).toNat : Int); omega
    have htk : zt lt k < sg.toNat := by show (lt (k : Int)).toNat < sg.toNat; omega
    unfold stC
    rw [hrs k (by omega), hla]
    cases q1 : sx_ris len.toNat (zt lt) k with
    | true =>
      have q2 : sx_fal len.toNat (zt lt) k = false := by rw [sx_fal, q1]; simp
      rw [if_pos rfl]
      refine ⟨?_, ?_, ?_⟩
      · intro c hc
        show q.1 c = _
        rw [te_ct, q2, a1 c hc]; simp
      · intro c hc
        show zput nR q.2 _ _ c = _
        rw [zput_in (by omega) (by omega), zat_in (by omega) (by omega), te_ct, q1]
        by_cases e : c = zt lt k
        · rw [e, zup_eq, a2 _ htk]; simp
        · rw [zup_ne (by omega), a2 c hc, if_neg (by simp; omega)]; simp
      · intro i hi
        refine ⟨(a3 i hi).1, ?_⟩
        show zput nR q.2 _ _ i = _
        rw [zput_in (by omega) (by omega), zup_ne (by omega)]; exact (a3 i hi).2
    | false =>
      have q2 : sx_fal len.toNat (zt lt) k = true := by rw [sx_fal, q1]; simp; omega
      rw [if_neg (by decide)]
      refine ⟨?_, ?_, ?_⟩
      · intro c hc
        show zput nF q.1 _ _ c = _
        rw [zput_in (by omega) (by omega), zat_in (by omega) (by omega), te_ct, q2]
        by_cases e : c = zt lt k
        · rw [e, zup_eq, a1 _ htk]; simp
        · rw [zup_ne (by omega), a1 c hc, if_neg (by simp; omega)]; simp
      · intro c hc
        show q.2 c = _
        rw [te_ct, q1, a2 c hc]; simp
      · intro i hi
        refine ⟨?_, (a3 i hi).2⟩
        show zput nF q.1 _ _ i = _
        rw [zput_in (by omega) (by omega), zup_ne (by omega)]; exact (a3 i hi).1
theorem bk_next (n : Nat) (t : Nat → Nat) (c : Nat) : te_ct (fun x => decide (t x < c + 1)) n = te_ct (fun x => decide (t x < c)) n + te_ct (fun x => sx_fal n t x && t x == c) n + te_ct (fun x => sx_ris n t x && t x == c) n := by
  have h1 : te_ct (fun x => decide (t x < c + 1)) n = te_ct (fun x => decide (t x < c)) n + te_ct (fun x => t x == c) n := te_ct_add (fun x hx => by simp; omega)
  have h2 : te_ct (fun x => t x == c) n = te_ct (fun x => sx_fal n t x && t x == c) n + te_ct (fun x => sx_ris n t x && t x == c) n := te_ct_add (fun x hx => by
    rcases sx_two (t := t) hx with q | q
    · have := (sx_fal_iff.mp q).2
      simp [q, this]
    · have : sx_fal n t x = false := by rw [sx_fal, q]; simp
      simp [q, this])
  omega
theorem stB_inv {n : Nat} {t : Nat → Nat} {f0 r0 : Int → Int} (sgn : Nat) (z1 : ∀ c : Nat, c < sgn → f0 c = (te_ct (fun x => sx_fal n t x && t x == c) n : Nat)) (z2 : ∀ c : Nat, c < sgn → r0 c = (te_ct (fun x => sx_ris n t x && t x == c) n : Nat)) : ∀ k : Nat, k ≤ sgn →
    (zit stB k (0, f0, r0)).1 = (te_ct (fun x => decide (t x < k)) n : Nat) ∧
    (∀ c : Nat, c < k → (zit stB k (0, f0, r0)).2.1 c = (te_ct (fun x => decide (t x < c)) n : Nat)) ∧
    (∀ c : Nat, c < k → (zit stB k (0, f0, r0)).2.2 c = ((te_ct (fun x => decide (t x < c)) n + te_ct (fun x => sx_fal n t x && t x == c) n : Nat) : Int)) ∧
    (∀ i, (i < 0 ∨ (k : Int) ≤ i) → (zit stB k (0, f0, r0)).2.1 i = f0 i ∧ (zit stB k (0, f0, r0)).2.2 i = r0 i) := by
  intro k
  induction k with
  | zero =>
    intro _
    refine ⟨?_, fun c hc => absurd hc (by omega), fun c hc => absurd hc (by omega), fun i _ => ⟨rfl, rfl⟩⟩
    show (0 : Int) = _
    have : ∀ m, te_ct (fun x => decide (t x < 0)) m = 0 := by
      intro m
      induction m with
      | zero => rfl
      | succ m ih => rw [te_ct, ih]; simp
    rw [this]; rfl
  | succ k ih =>
    intro hk
    obtain ⟨a1, a2, a3, a4⟩ := ih (by omega)
    rw [zit]
    generalize zit stB k (0, f0, r0) = q at a1 a2 a3 a4
    have b1 := (a4 k (by omega)).1
    have b2 := (a4 k (by omega)).2
    rw [z1 k (by omega)] at b1
    rw [z2 k (by omega)] at b2
    unfold stB
    refine ⟨?_, ?_, ?_, ?_⟩
    · show q.1 + q.2.1 k + q.2.2 k = _
      rw [a1, b1, b2, bk_next]; omega
    · intro c hc
      show zup q.2.1 k q.1 c = _
      by_cases e : c = k
      · rw [e, zup_eq, a1]
      · rw [zup_ne (by omega)]; exact a2 c (by omega)
    · intro c hc
      show zup q.2.2 k (q.1 + q.2.1 k) c = _
      by_cases e : c = k
      · rw [e, zup_eq, a1, b1]; omega
      · rw [zup_ne (by omega)]; exact a3 c (by omega)
    · intro i hi
      show zup q.2.1 k q.1 i = _ ∧ zup q.2.2 k (q.1 + q.2.1 k) i = _
      rw [zup_ne (by omega), zup_ne (by omega)]; exact a4 i (by omega)
end
/-- enter(): the rows that it makes are as they should be -/
theorem zEn_of {len sg : Int} {lt : Int → Int} (hl : 0 ≤ len) (hl6 : len ≤ 1000000) (hsg : 0 ≤ sg) (hlt : ∀ i, 0 ≤ i → i < len → 0 ≤ lt i ∧ lt i < sg) {nV nF nR : Nat} (hV : len ≤ 2 * (nV : Int) + 1) (hF : sg ≤ nF) (hR : sg ≤ nR) {rs0 rs : Int → Bool} (hrs0 : rs = zfill 0 len (zris len lt) rs0) {vn vl ff rf : Int → Int} (hvn : zS vn) (hvl : zS vl) (hff : zS ff) (hrf : zS rf) :
    zEn len sg lt rs (fvq nV len rs vn vl).2.1 (fvq nV len rs vn vl).1 (fvq nV len rs vn vl).2.2 (zup (fbB nF nR len sg lt rs ff rf).2.1 sg (fbB nF nR len sg lt rs ff rf).1) (fbB nF nR len sg lt rs ff rf).2.2 := by
  have hrs : ∀ i : Nat, i < len.toNat → rs i = sx_ris len.toNat (zt lt) i := by
    intro i hi
    rw [hrs0, zfill_in (by omega) (by omega)]
    show sx_ris len.toNat (zt lt) ((i : Int).toNat) = _
    rw [Int.toNat_natCast]
  obtain ⟨a1, a2, a3, a4, a5⟩ := stV_inv hl hl6 hrs hV hvn hvl len.toNat (Nat.le_refl _)
  have z0 : ∀ (g : Int → Int) (c : Nat), c < sg.toNat → zfill 0 sg (fun _ => 0) g c = 0 := fun g c hc => by rw [zfill_in (by omega) (by omega)]
  obtain ⟨b1, b2, b3⟩ := stC_inv hl hl6 hrs hlt hF hR (f0 := zfill 0 sg (fun _ => 0) ff) (r0 := zfill 0 sg (fun _ => 0) rf) (zS_fill (fun _ _ _ => by omega) hff) (zS_fill (fun _ _ _ => by omega) hrf) (z0 ff) (z0 rf) len.toNat (Nat.le_refl _)
  obtain ⟨c1, c2, c3, c4⟩ := stB_inv sg.toNat b1 b2 sg.toNat (Nat.le_refl _)
  have hct : ∀ P : Nat → Bool, ((te_ct P len.toNat : Nat) : Int) ≤ len := fun P => by have := te_ct_le P len.toNat; omega
  have hf2 : ∀ i, i < 0 ∨ sg ≤ i → (fbB nF nR len sg lt rs ff rf).2.1 i = ff i ∧ (fbB nF nR len sg lt rs ff rf).2.2 i = rf i := by
    intro i hi
    have e1 := c4 i (by omega)
    have e2 := b3 i hi
    refine ⟨?_, ?_⟩
    · show (zit stB sg.toNat _).2.1 i = _
      rw [show (zit stB sg.toNat (0, (fbC nF nR len sg lt rs ff rf).1, (fbC nF nR len sg lt rs ff rf).2)).2.1 i = (fbC nF nR len sg lt rs ff rf).1 i from e1.1]
      rw [show (fbC nF nR len sg lt rs ff rf).1 i = zfill 0 sg (fun _ => 0) ff i from e2.1, zfill_out (by omega)]
    · show (zit stB sg.toNat _).2.2 i = _
      rw [show (zit stB sg.toNat (0, (fbC nF nR len sg lt rs ff rf).1, (fbC nF nR len sg lt rs ff rf).2)).2.2 i = (fbC nF nR len sg lt rs ff rf).2 i from e1.2]
      rw [show (fbC nF nR len sg lt rs ff rf).2 i = zfill 0 sg (fun _ => 0) rf i from e2.2, zfill_out (by omega)]
  have d1 : (fbB nF nR len sg lt rs ff rf).1 = (te_ct (fun x => decide (zt lt x < sg.toNat)) len.toNat : Nat) := c1
  have d2 : ∀ c : Nat, c < sg.toNat → (fbB nF nR len sg lt rs ff rf).2.1 c = (te_ct (fun x => decide (zt lt x < c)) len.toNat : Nat) := c2
  have d3 : ∀ c : Nat, c < sg.toNat → (fbB nF nR len sg lt rs ff rf).2.2 c = ((te_ct (fun x => decide (zt lt x < c)) len.toNat + te_ct (fun x => sx_fal len.toNat (zt lt) x && zt lt x == c) len.toNat : Nat) : Int) := c3
  refine ⟨hrs, a1, a2, fun i hi => a3 i (sx_val_in hi) hi, ?_, d3, a5, a4, ?_, ?_⟩
  · intro c hc
    by_cases e : c = sg.toNat
    · rw [show (c : Int) = sg by omega, zup_eq, d1, e]
    · rw [zup_ne (by omega)]; exact d2 c (by omega)
  · refine zS_up ?_ (by rw [d1]; have := hct (fun x => decide (zt lt x < sg.toNat)); omega)
    intro i
    by_cases q : i < 0 ∨ sg ≤ i
    · rw [(hf2 i q).1]; exact hff i
    · have := d2 i.toNat (by omega)
      rw [Int.toNat_of_nonneg (by omega)] at this
      rw [this]
      have := hct (fun x => decide (zt lt x < i.toNat))
      omega
  · intro i
    by_cases q : i < 0 ∨ sg ≤ i
    · rw [(hf2 i q).2]; exact hrf i
    · have := d3 i.toNat (by omega)
      rw [Int.toNat_of_nonneg (by omega)] at this
      rw [this]
      have h1 := hct (fun x => decide (zt lt x < i.toNat))
      have h2 := hct (fun x => sx_fal len.toNat (zt lt) x && zt lt x == i.toNat)
      have h3 := bk_next len.toNat (zt lt) i.toNat
      have h4 := hct (fun x => decide (zt lt x < i.toNat + 1))
      omega
