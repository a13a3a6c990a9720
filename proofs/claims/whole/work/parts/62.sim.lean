theorem sx_fal_last {n : Nat} {t : Nat → Nat} (h : 0 < n) : sx_fal n t (n - 1) = true := by
  rcases sx_two (t := t) (show n - 1 < n by omega) with q | q
  · exact q
  · have := (sx_ris_up q).1; omega
def RelF (n : Nat) (sg : Int) (ns0 : Int → Int) (q : (Int → Int) × (Int → Int)) (O : Nat → Int) (N : Nat → Nat) : Prop := (∀ s : Nat, s < n → q.1 s = O (s + 1)) ∧ O 0 = (n : Int) ∧ (∀ c : Nat, c < sg.toNat → q.2 c = (N c : Int) - 1) ∧ (∀ i, i < 0 ∨ sg ≤ i → q.2 i = ns0 i) ∧ zS q.1
def RelR (n : Nat) (sg : Int) (ns0 : Int → Int) (q : (Int → Int) × (Int → Int)) (O : Nat → Int) (N : Nat → Nat) : Prop := (∀ s : Nat, s < n → q.1 s = O (n - s)) ∧ O 0 = -1 ∧ (∀ c : Nat, c < sg.toNat → q.2 c = (n : Int) + 1 - (N c : Int)) ∧ (∀ i, i < 0 ∨ sg ≤ i → q.2 i = ns0 i) ∧ zS q.1
section
variable {len sg : Int} {lt : Int → Int} {rs : Int → Bool} {ff ns od : Int → Int} {nO nN nF : Nat}
theorem zif_iff (hl : 0 ≤ len) (hrs : ∀ i : Nat, i < len.toNat → rs i = sx_ris len.toNat (zt lt) i) {b : Int} : zif len rs b = true ↔ ∃ x : Nat, b = (x : Int) ∧ sx_fal len.toNat (zt lt) x = true := by
  constructor
  · intro h
    have h0 : 0 ≤ b ∧ b < len := by
      refine Classical.byContradiction fun hn => ?_
      rw [zif_out (by omega)] at h; cases h
    refine ⟨b.toNat, by omega, ?_⟩
    rw [zif_in h0.1 h0.2] at h
    have := hrs b.toNat (by omega)
    rw [Int.toNat_of_nonneg h0.1] at this
    rw [this] at h
    rw [sx_fal, h]; simp; omega
  · rintro ⟨x, e, h⟩
    obtain ⟨h1, h2⟩ := sx_fal_iff.mp h
    rw [e, zif_in (by omega) (by omega), hrs x h1, h2]; rfl
theorem zir_iff (hl : 0 ≤ len) (hrs : ∀ i : Nat, i < len.toNat → rs i = sx_ris len.toNat (zt lt) i) {b : Int} : zir len rs b = true ↔ ∃ x : Nat, b = (x : Int) ∧ sx_ris len.toNat (zt lt) x = true := by
  constructor
  · intro h
    have h0 : 0 ≤ b ∧ b < len := by
      refine Classical.byContradiction fun hn => ?_
      rw [zir_out (by omega)] at h; cases h
    refine ⟨b.toNat, by omega, ?_⟩
    rw [zir_in h0.1 h0.2] at h
    have := hrs b.toNat (by omega)
    rw [Int.toNat_of_nonneg h0.1] at this
    rw [← this]; exact h
  · rintro ⟨x, e, h⟩
    have h1 := sx_ris_in h
    rw [e, zir_in (by omega) (by omega), hrs x h1, h]
theorem zla_t (hlt : ∀ i, 0 ≤ i → i < len → 0 ≤ lt i ∧ lt i < sg) {x : Nat} (h : x < len.toNat) : zla len lt x = (zt lt x : Int) ∧ zt lt x < sg.toNat := by
  have := hlt x (by omega) (by omega)
  rw [zla_in (by omega) (by omega)]
  have e : zt lt x = (lt (x : Int)).toNat := rfl
  rw [e]
  omega
theorem RelF_put (hl : 0 ≤ len ∧ len ≤ 1000000) (hlO : len ≤ (nO : Int)) (hsn : sg ≤ (nN : Int)) (hlt : ∀ i, 0 ≤ i → i < len → 0 ≤ lt i ∧ lt i < sg) {q : (Int → Int) × (Int → Int)} {O : Nat → Int} {N : Nat → Nat} (R : RelF len.toNat sg ns q O N) {x : Nat} (hx : x < len.toNat) (h1 : 1 ≤ N (zt lt x)) (h2 : N (zt lt x) ≤ len.toNat) : RelF len.toNat sg ns (pfO nO nN len lt q.1 q.2 x, pfN nN len lt q.2 x) (te_fu O (N (zt lt x)) (x : Int)) (te_fu N (zt lt x) (N (zt lt x) + 1)) := by
  obtain ⟨r1, r2, r3, r4, r5⟩ := R
  obtain ⟨e1, e2⟩ := zla_t hlt hx
  have e3 := r3 (zt lt x) e2
  have hs : zat nN q.2 (zla len lt x) = (N (zt lt x) : Int) - 1 := by rw [e1, zat_in (by omega) (by omega), e3]
  refine ⟨?_, ?_, ?_, ?_, ?_⟩
  · intro s hs'
    show pfO nO nN len lt q.1 q.2 x s = _
    rw [pfO, hs, zput_in (by omega) (by omega)]
    by_cases e : s + 1 = N (zt lt x)
    · rw [show (s : Int) = (N (zt lt x) : Int) - 1 by omega, zup_eq, e, te_fu_eq]
    · rw [zup_ne (by omega), te_fu_ne e]; exact r1 s hs'
  · rw [te_fu_ne (by omega)]; exact r2
  · intro c hc
    show pfN nN len lt q.2 x c = _
    rw [pfN, hs, e1, zput_in (by omega) (by omega)]
    by_cases e : c = zt lt x
    · rw [e, zup_eq, te_fu_eq]; omega
    · rw [zup_ne (by omega), te_fu_ne e]; exact r3 c hc
  · intro i hi
    show pfN nN len lt q.2 x i = _
    rw [pfN, e1, zput_in (by omega) (by omega), zup_ne (by omega)]; exact r4 i hi
  · exact zS_put r5 (by omega)
theorem RelR_put (hl : 0 ≤ len ∧ len ≤ 1000000) (hlO : len ≤ (nO : Int)) (hsn : sg ≤ (nN : Int)) (hlt : ∀ i, 0 ≤ i → i < len → 0 ≤ lt i ∧ lt i < sg) {q : (Int → Int) × (Int → Int)} {O : Nat → Int} {N : Nat → Nat} (R : RelR len.toNat sg ns q O N) {x : Nat} (hx : x < len.toNat) (h1 : 1 ≤ N (zt lt x)) (h2 : N (zt lt x) ≤ len.toNat) : RelR len.toNat sg ns (pbO nO nN len lt q.1 q.2 x, pbN nN len lt q.2 x) (te_fu O (N (zt lt x)) (x : Int)) (te_fu N (zt lt x) (N (zt lt x) + 1)) := by
  obtain ⟨r1, r2, r3, r4, r5⟩ := R
  obtain ⟨e1, e2⟩ := zla_t hlt hx
  have e3 := r3 (zt lt x) e2
  have hs : zat nN q.2 (zla len lt x) = (len.toNat : Int) + 1 - (N (zt lt x) : Int) := by rw [e1, zat_in (by omega) (by omega), e3]
  refine ⟨?_, ?_, ?_, ?_, ?_⟩
  · intro s hs'
    show pbO nO nN len lt q.1 q.2 x s = _
    rw [pbO, hs, zput_in (by omega) (by omega)]
    by_cases e : len.toNat - s = N (zt lt x)
    · rw [show (s : Int) = (len.toNat : Int) + 1 - (N (zt lt x) : Int) - 1 by omega, zup_eq, e, te_fu_eq]
    · rw [zup_ne (by omega), te_fu_ne e]; exact r1 s hs'
  · rw [te_fu_ne (by omega)]; exact r2
  · intro c hc
    show pbN nN len lt q.2 x c = _
    rw [pbN, hs, e1, zput_in (by omega) (by omega)]
    by_cases e : c = zt lt x
    · rw [e, zup_eq, te_fu_eq]; omega
    · rw [zup_ne (by omega), te_fu_ne e]; exact r3 c hc
  · intro i hi
    show pbN nN len lt q.2 x i = _
    rw [pbN, e1, zput_in (by omega) (by omega), zup_ne (by omega)]; exact r4 i hi
  · exact zS_put r5 (by omega)
/-- the falling pass -/
theorem simF (hl : 1 ≤ len ∧ len ≤ 1000000) (hlO : len ≤ (nO : Int)) (hsg : 0 ≤ sg) (hsn : sg ≤ (nN : Int)) (hsF : sg + 1 ≤ (nF : Int)) (hlt : ∀ i, 0 ≤ i → i < len → 0 ≤ lt i ∧ lt i < sg) (hrs : ∀ i : Nat, i < len.toNat → rs i = sx_ris len.toNat (zt lt) i) (hff : ∀ c : Nat, c ≤ sg.toNat → ff c = (Bk len.toNat (zt lt) c : Nat)) (hod : zS od) (hip : ipS len.toNat (zt lt) od) :
    ∀ p : Nat, p ≤ len.toNat → ∃ (O : Nat → Int) (N : Nat → Nat), ps_Inv len.toNat (sx_fal len.toNat (zt lt)) (zt lt) (fun c => Bk len.toNat (zt lt) c + 1) (fun c => Mk len.toNat (zt lt) c + 1) (shF len.toNat od) (p + 1) O N ∧ RelF len.toNat sg ns (zit (stF nO nN len lt rs) p (ifq0 nO nN nF len sg lt ff od ns)) O N := by
  have hyp := ipF_hyp hip
  have hhi : ∀ c, Mk len.toNat (zt lt) c ≤ len.toNat := fun c => Nat.le_trans (Mk_le c) Bk_le
  have lop : ∀ {p O N}, ps_Inv len.toNat (sx_fal len.toNat (zt lt)) (zt lt) (fun c => Bk len.toNat (zt lt) c + 1) (fun c => Mk len.toNat (zt lt) c + 1) (shF len.toNat od) p O N → p ≤ len.toNat → ∀ x : Nat, sx_fal len.toNat (zt lt) x = true → O p = (x : Int) + 1 → ∀ q, RelF len.toNat sg ns q O N → ps_Inv len.toNat (sx_fal len.toNat (zt lt)) (zt lt) (fun c => Bk len.toNat (zt lt) c + 1) (fun c => Mk len.toNat (zt lt) c + 1) (shF len.toNat od) (p + 1) (te_fu O (N (zt lt x)) (x : Int)) (te_fu N (zt lt x) (N (zt lt x) + 1)) ∧ RelF len.toNat sg ns (pfO nO nN len lt q.1 q.2 x, pfN nN len lt q.2 x) (te_fu O (N (zt lt x)) (x : Int)) (te_fu N (zt lt x) (N (zt lt x) + 1)) := by
    intro p O N I hp x hx ex q R
    have hr : N (zt lt x) < Mk len.toNat (zt lt) (zt lt x) + 1 := ps_room hyp I hp hx ex
    have hlo : Bk len.toNat (zt lt) (zt lt x) + 1 ≤ N (zt lt x) := (I.2.1 (zt lt x)).1
    have := hhi (zt lt x)
    refine ⟨ps_next hyp I hp ⟨fun x' hx' ex' => ?_, fun hno => absurd ex (hno x hx)⟩, RelF_put ⟨by omega, hl.2⟩ hlO hsn hlt R (sx_fal_iff.mp hx).1 (by omega) (by omega)⟩
    have : x' = x := by omega
    subst this
    exact ⟨rfl, rfl⟩
  intro p
  induction p with
  | zero =>
    intro _
    have R0 : RelF len.toNat sg ns (od, sbN sg nF ff 0 ns) (shF len.toNat od) (fun c => Bk len.toNat (zt lt) c + 1) := by
      refine ⟨fun s hs => (shF_s s).symm, rfl, ?_, ?_, hod⟩
      · intro c hc
        show sbN sg nF ff 0 ns c = ((Bk len.toNat (zt lt) c + 1 : Nat) : Int) - 1
        rw [sbN, zfill_in (by omega) (by omega), show (c : Int) + 0 = c by omega, zat_in (by omega) (by omega), hff c (by omega)]; omega
      · intro i hi
        show sbN sg nF ff 0 ns i = _
        rw [sbN, zfill_out hi]
    have h1 := lop (ps_0 hyp) (by omega) (len.toNat - 1) (sx_fal_last (by omega)) (by rw [shF, if_pos rfl]; omega) _ R0
    refine ⟨_, _, h1.1, ?_⟩
    show RelF len.toNat sg ns (ifq0 nO nN nF len sg lt ff od ns) _ _
    unfold ifq0
    rw [show len - 1 = ((len.toNat - 1 : Nat) : Int) by omega]
    exact h1.2
  | succ p ih =>
    intro hp
    obtain ⟨O, N, I, R⟩ := ih (by omega)
    rw [zit]
    generalize zit (stF nO nN len lt rs) p (ifq0 nO nN nF len sg lt ff od ns) = q at R
    have ep := R.1 p (by omega)
    unfold stF
    by_cases hz : zif len rs (q.1 p - 1) = true
    · rw [if_pos hz]
      obtain ⟨x, ex, hx⟩ := (zif_iff (by omega) hrs).mp hz
      rw [ex]
      have h1 := lop I (by omega) x hx (by rw [← ep]; omega) q R
      exact ⟨_, _, h1.1, h1.2⟩
    · rw [if_neg hz]
      refine ⟨O, N, ps_next hyp I (by omega) ⟨fun x hx ex => ?_, fun _ => ⟨rfl, rfl⟩⟩, R⟩
      exact absurd ((zif_iff (by omega) hrs).mpr ⟨x, by rw [ep, ex]; omega, hx⟩) hz
/-- the rising pass -/
theorem simR (hl : 1 ≤ len ∧ len ≤ 1000000) (hlO : len ≤ (nO : Int)) (hsg : 0 ≤ sg) (hsn : sg ≤ (nN : Int)) (hsF : sg + 1 ≤ (nF : Int)) (hlt : ∀ i, 0 ≤ i → i < len → 0 ≤ lt i ∧ lt i < sg) (hrs : ∀ i : Nat, i < len.toNat → rs i = sx_ris len.toNat (zt lt) i) (hff : ∀ c : Nat, c ≤ sg.toNat → ff c = (Bk len.toNat (zt lt) c : Nat)) (hod : zS od) (hip : ipT len.toNat (zt lt) od) :
    ∀ p : Nat, p ≤ len.toNat → ∃ (O : Nat → Int) (N : Nat → Nat), ps_Inv len.toNat (sx_ris len.toNat (zt lt)) (zt lt) (fun c => len.toNat - Bk len.toNat (zt lt) (c + 1) + 1) (fun c => len.toNat - Mk len.toNat (zt lt) c + 1) (shR len.toNat od) (p + 1) O N ∧ RelR len.toNat sg ns (zit (stR nO nN len lt rs) p (od, sbN sg nF ff 1 ns)) O N := by
  have hyp := ipR_hyp hip (g := sg.toNat) (fun x hx => (zla_t hlt hx).2)
  intro p
  induction p with
  | zero =>
    intro _
    refine ⟨shR len.toNat od, fun c => len.toNat - Bk len.toNat (zt lt) (c + 1) + 1, ps_next hyp (ps_0 hyp) (by omega) ⟨fun x hx ex => ?_, fun _ => ⟨rfl, rfl⟩⟩, ?_⟩
    · rw [shR, if_pos (Or.inl rfl)] at ex; omega
    · refine ⟨fun s hs => (shR_s hs).symm, if_pos (Or.inl rfl), ?_, ?_, hod⟩
      · intro c hc
        show sbN sg nF ff 1 ns c = (len.toNat : Int) + 1 - ((len.toNat - Bk len.toNat (zt lt) (c + 1) + 1 : Nat) : Int)
        have e := hff (c + 1) (by omega)
        have := Bk_le (n := len.toNat) (t := zt lt) (c := c + 1)
        rw [sbN, zfill_in (by omega) (by omega), zat_in (by omega) (by omega), show (c : Int) + 1 = ((c + 1 : Nat) : Int) by omega, e]; omega
      · intro i hi
        show sbN sg nF ff 1 ns i = _
        rw [sbN, zfill_out hi]
  | succ p ih =>
    intro hp
    obtain ⟨O, N, I, R⟩ := ih (by omega)
    rw [zit]
    generalize zit (stR nO nN len lt rs) p (od, sbN sg nF ff 1 ns) = q at R
    have ep := R.1 (len.toNat - 1 - p) (by omega)
    rw [show len.toNat - (len.toNat - 1 - p) = p + 1 by omega] at ep
    have ej : len - 1 - (p : Int) = ((len.toNat - 1 - p : Nat) : Int) := by omega
    unfold stR
    rw [ej]
    by_cases hz : zir len rs (q.1 ((len.toNat - 1 - p : Nat) : Int) - 1) = true
    · rw [if_pos hz]
      obtain ⟨x, ex, hx⟩ := (zir_iff (by omega) hrs).mp hz
      rw [ex]
      have ex2 : O (p + 1) = (x : Int) + 1 := by rw [← ep]; omega
      have hr : N (zt lt x) < len.toNat - Mk len.toNat (zt lt) (zt lt x) + 1 := ps_room hyp I (by omega) hx ex2
      have hlo : len.toNat - Bk len.toNat (zt lt) (zt lt x + 1) + 1 ≤ N (zt lt x) := (I.2.1 (zt lt x)).1
      refine ⟨_, _, ps_next hyp I (by omega) ⟨fun x' hx' ex' => ?_, fun hno => absurd ex2 (hno x hx)⟩, RelR_put ⟨by omega, hl.2⟩ hlO hsn hlt R (sx_ris_in hx) (by omega) (by omega)⟩
      have : x' = x := by omega
      subst this
      exact ⟨rfl, rfl⟩
    · rw [if_neg hz]
      refine ⟨O, N, ps_next hyp I (by omega) ⟨fun x hx ex => ?_, fun _ => ⟨rfl, rfl⟩⟩, R⟩
      exact absurd ((zir_iff (by omega) hrs).mpr ⟨x, by rw [ep, ex]; omega, hx⟩) hz
end
