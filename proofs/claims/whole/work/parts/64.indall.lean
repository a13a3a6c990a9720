/-- induceFrom(): its numbers stay small, and the order that it leaves -/
theorem ind_all {len sg : Int} {lt : Int → Int} {rs : Int → Bool} {vl vn ff rf od ns sd : Int → Int} {vc : Int} {nO nN nS nF nR : Nat} {S : Nat → Nat} {m : Nat} (hl : 1 ≤ len ∧ len ≤ 1000000) (hlO : len ≤ (nO : Int)) (hsg : 0 ≤ sg) (hsn : sg ≤ (nN : Int)) (hsF : sg + 1 ≤ (nF : Int)) (hsR : sg ≤ (nR : Int)) (hlt : ∀ i, 0 ≤ i → i < len → 0 ≤ lt i ∧ lt i < sg) (E : zEn len sg lt rs vl vn vc ff rf) (hod : zS od) (hns : zS ns) (hS : sdS len.toNat (zt lt) S m) (hm : vc = m) (hmS : (m : Int) ≤ nS) (hsd : ∀ k : Nat, k < m → sd k = (S k : Int)) :
    (∀ k, k ≤ vc.toNat → zS (zit (stS nO nN nS len lt sd) k (zfill 0 len (fun _ => -1) od, sbN sg nR rf 0 ns)).2) ∧
    (∀ k, k ≤ len.toNat → zS (zit (stF nO nN len lt rs) k (ifq0 nO nN nF len sg lt ff (inS nO nN nS nR len sg vc lt rf od ns sd).1 (inS nO nN nS nR len sg vc lt rf od ns sd).2)).1 ∧ zS (zit (stF nO nN len lt rs) k (ifq0 nO nN nF len sg lt ff (inS nO nN nS nR len sg vc lt rf od ns sd).1 (inS nO nN nS nR len sg vc lt rf od ns sd).2)).2) ∧
    (∀ k, k ≤ len.toNat → zS (zit (stR nO nN len lt rs) k ((inF nO nN nS nF nR len sg vc lt rs ff rf od ns sd).1, sbN sg nF ff 1 (inF nO nN nS nF nR len sg vc lt rs ff rf od ns sd).2)).1 ∧ zS (zit (stR nO nN len lt rs) k ((inF nO nN nS nF nR len sg vc lt rs ff rf od ns sd).1, sbN sg nF ff 1 (inF nO nN nS nF nR len sg vc lt rs ff rf od ns sd).2)).2) ∧
    ipI len.toNat (zt lt) S m (inR nO nN nS nF nR len sg vc lt rs ff rf od ns sd).1 ∧ zS (inR nO nN nS nF nR len sg vc lt rs ff rf od ns sd).1 ∧ zS (inR nO nN nS nF nR len sg vc lt rs ff rf od ns sd).2 := by
  obtain ⟨E1, E2, E3, E4, E5, E6, E7, E8, E9, E10⟩ := E
  have hff : ∀ c : Nat, c ≤ sg.toNat → ff c = (Bk len.toNat (zt lt) c : Nat) := E5
  have hrf : ∀ c : Nat, c < sg.toNat → rf c = (Mk len.toNat (zt lt) c : Nat) := E6
  have hgg : ∀ x, x < len.toNat → zt lt x < sg.toNat := fun x hx => (zla_t hlt hx).2
  have simS' := simS (nO := nO) (nN := nN) (nR := nR) (nS := nS) (ns := ns) hl hlO hsg hsn hsR hlt hrf hod hS hmS hsd
  have hct : ∀ (P : Nat → Bool) k, k ≤ m → ((te_ct P k : Nat) : Int) ≤ len := by
    intro P k hk
    have h1 := te_ct_le P k
    have h2 := sx_val_half len.toNat (zt lt) len.toNat
    rw [hm] at E2
    omega
  have hMle : ∀ c, ((Mk len.toNat (zt lt) c : Nat) : Int) ≤ len := fun c => by
    have := Nat.le_trans (Mk_le (n := len.toNat) (t := zt lt) c) Bk_le
    omega
  have zSn : ∀ (g : Int → Int), (∀ c : Nat, c < sg.toNat → -1000000 ≤ g c ∧ g c ≤ 1000000) → (∀ i, i < 0 ∨ sg ≤ i → g i = ns i) → zS g := by
    intro g h1 h2 i
    by_cases q : i < 0 ∨ sg ≤ i
    · rw [h2 i q]; exact hns i
    · have := h1 i.toNat (by omega)
      rw [Int.toNat_of_nonneg (by omega)] at this
      exact this
  have hoS2 : ∀ k, k ≤ m → zS (zit (stS nO nN nS len lt sd) k (zfill 0 len (fun _ => -1) od, sbN sg nR rf 0 ns)).2 := by
    intro k hk
    obtain ⟨-, -, a3, a4, -⟩ := simS' k hk
    refine zSn _ (fun c hc => ?_) a4
    rw [a3 c hc]
    have h1 := hct (fun l => zt lt (S l) == c) k hk
    have h2 := hMle c
    have h3 : te_ct (fun l => zt lt (S l) == c) m ≤ Rc len.toNat (zt lt) c := te_ct_inj S (fun k hk hP => ⟨sx_val_in (hS.1 k hk), by rw [(sx_val_iff.mp (hS.1 k hk)).1]; exact hP⟩) (fun k k' hk hk' _ _ e => hS.2.1 k k' hk hk' e)
    have h4 := te_ct_mono (fun l => zt lt (S l) == c) hk
    have h5 := Bk_s (n := len.toNat) (t := zt lt) c
    have h6 := Bk_le (n := len.toNat) (t := zt lt) (c := c + 1)
    omega
  have hvm : vc.toNat = m := by omega
  obtain ⟨s1, s2, s3, s4, s5⟩ := simS' m (Nat.le_refl m)
  have eS : zit (stS nO nN nS len lt sd) m (zfill 0 len (fun _ => -1) od, sbN sg nR rf 0 ns) = inS nO nN nS nR len sg vc lt rf od ns sd := by rw [inS, hvm]
  have hnsS := hoS2 m (Nat.le_refl m)
  rw [eS] at s1 s2 s3 s4 s5 hnsS
  have hipS : ipS len.toNat (zt lt) (inS nO nN nS nR len sg vc lt rf od ns sd).1 := by
    have hnx : ∀ (s z : Nat), s < len.toNat → (inS nO nN nS nR len sg vc lt rf od ns sd).1 s = (z : Int) → ∃ l, l < m ∧ s = spS len.toNat (zt lt) S l ∧ S l = z := by
      intro s z hs e
      rcases s2 s hs with h | ⟨l, h1, h2⟩
      · rw [h] at e; omega
      · refine ⟨l, h1, h2, ?_⟩
        rw [h2, s1 l h1] at e; omega
    refine ⟨?_, ?_, ?_⟩
    · intro v hv
      obtain ⟨k, k1, k2⟩ := hS.2.2 v hv
      refine ⟨spS len.toNat (zt lt) S k, ?_, ?_, ?_⟩
      · rw [← k2]; exact spS_ge
      · rw [← k2]; exact spS_lt hS k1
      · rw [s1 k k1, k2]
    · intro s z hs e
      obtain ⟨l, h1, h2, h3⟩ := hnx s z hs e
      rw [← h3, h2]
      exact ⟨hS.1 l h1, spS_ge, spS_lt hS h1⟩
    · intro s s' z hs hs' e e'
      obtain ⟨l, h1, h2, h3⟩ := hnx s z hs e
      obtain ⟨l', g1, g2, g3⟩ := hnx s' z hs' e'
      rw [h2, g2, hS.2.1 l l' h1 g1 (by rw [h3, g3])]
  have simF' := simF (nO := nO) (nN := nN) (nF := nF) (ns := (inS nO nN nS nR len sg vc lt rf od ns sd).2) hl hlO hsg hsn hsF hlt E1 hff s5 hipS
  have nsout : ∀ i, i < 0 ∨ sg ≤ i → (inS nO nN nS nR len sg vc lt rf od ns sd).2 i = ns i := s4
  have smF : ∀ p, p ≤ len.toNat → zS (zit (stF nO nN len lt rs) p (ifq0 nO nN nF len sg lt ff (inS nO nN nS nR len sg vc lt rf od ns sd).1 (inS nO nN nS nR len sg vc lt rf od ns sd).2)).1 ∧ zS (zit (stF nO nN len lt rs) p (ifq0 nO nN nF len sg lt ff (inS nO nN nS nR len sg vc lt rf od ns sd).1 (inS nO nN nS nR len sg vc lt rf od ns sd).2)).2 := by
    intro p hp
    obtain ⟨O, N, I, R⟩ := simF' p hp
    refine ⟨R.2.2.2.2, zSn _ (fun c hc => ?_) (fun i hi => by rw [R.2.2.2.1 i hi]; exact nsout i hi)⟩
    rw [R.2.2.1 c hc]
    have a : Bk len.toNat (zt lt) c + 1 ≤ N c := (I.2.1 c).1
    have b : N c ≤ Mk len.toNat (zt lt) c + 1 := (I.2.1 c).2
    have := hMle c
    omega
  obtain ⟨OF, NF, IF, RF⟩ := simF' len.toNat (Nat.le_refl _)
  have eF : zit (stF nO nN len lt rs) len.toNat (ifq0 nO nN nF len sg lt ff (inS nO nN nS nR len sg vc lt rf od ns sd).1 (inS nO nN nS nR len sg vc lt rf od ns sd).2) = inF nO nN nS nF nR len sg vc lt rs ff rf od ns sd := rfl
  have smF1 := smF len.toNat (Nat.le_refl _)
  rw [eF] at RF smF1
  have hipT : ipT len.toNat (zt lt) (inF nO nN nS nF nR len sg vc lt rs ff rf od ns sd).1 := by
    obtain ⟨f1, f2, f3, f4, f5⟩ := ps_fin (ipF_hyp hipS) IF
    refine ⟨?_, ?_, ?_⟩
    · intro x hx
      obtain ⟨q, a, b, e⟩ := f2 x hx
      have a' : Bk len.toNat (zt lt) (zt lt x) + 1 ≤ q := a
      have b' : q < Mk len.toNat (zt lt) (zt lt x) + 1 := b
      have := Nat.le_trans (Mk_le (n := len.toNat) (t := zt lt) (zt lt x)) Bk_le
      refine ⟨q - 1, by omega, by omega, ?_⟩
      rw [RF.1 (q - 1) (by omega), show q - 1 + 1 = q by omega]; exact e
    · intro c s a b
      have := Nat.le_trans (Mk_le (n := len.toNat) (t := zt lt) c) Bk_le
      obtain ⟨x, x1, x2, x3⟩ := f3 c (s + 1) (by show Bk len.toNat (zt lt) c + 1 ≤ s + 1; omega) (by show s + 1 < Mk len.toNat (zt lt) c + 1; omega)
      exact ⟨x, x1, x2, by rw [RF.1 s (by omega)]; exact x3⟩
    · intro s s' z hs hs' e e' hz
      have := f5 (s + 1) (s' + 1) z (by omega) (by omega) (by rw [← RF.1 s hs]; exact e) (by rw [← RF.1 s' hs']; exact e') (Or.inl hz)
      omega
  have simR' := simR (nO := nO) (nN := nN) (nF := nF) (ns := (inF nO nN nS nF nR len sg vc lt rs ff rf od ns sd).2) hl hlO hsg hsn hsF hlt E1 hff RF.2.2.2.2 hipT
  have smR : ∀ p, p ≤ len.toNat → zS (zit (stR nO nN len lt rs) p ((inF nO nN nS nF nR len sg vc lt rs ff rf od ns sd).1, sbN sg nF ff 1 (inF nO nN nS nF nR len sg vc lt rs ff rf od ns sd).2)).1 ∧ zS (zit (stR nO nN len lt rs) p ((inF nO nN nS nF nR len sg vc lt rs ff rf od ns sd).1, sbN sg nF ff 1 (inF nO nN nS nF nR len sg vc lt rs ff rf od ns sd).2)).2 := by
    intro p hp
    obtain ⟨O, N, I, R⟩ := simR' p hp
    refine ⟨R.2.2.2.2, zSn _ (fun c hc => ?_) (fun i hi => by rw [R.2.2.2.1 i hi, RF.2.2.2.1 i hi]; exact nsout i hi)⟩
    rw [R.2.2.1 c hc]
    have a : len.toNat - Bk len.toNat (zt lt) (c + 1) + 1 ≤ N c := (I.2.1 c).1
    have b : N c ≤ len.toNat - Mk len.toNat (zt lt) c + 1 := (I.2.1 c).2
    omega
  obtain ⟨OR, NR, IR, RR⟩ := simR' len.toNat (Nat.le_refl _)
  have eR : zit (stR nO nN len lt rs) len.toNat ((inF nO nN nS nF nR len sg vc lt rs ff rf od ns sd).1, sbN sg nF ff 1 (inF nO nN nS nF nR len sg vc lt rs ff rf od ns sd).2) = inR nO nN nS nF nR len sg vc lt rs ff rf od ns sd := rfl
  have smR1 := smR len.toNat (Nat.le_refl _)
  rw [eR] at RR smR1
  refine ⟨fun k hk => hoS2 k (by omega), smF, smR, ?_, smR1.1, smR1.2⟩
  exact ipI_of hS hgg s1 hipS IF RF.1 RF.2.1 hipT IR RR.1
