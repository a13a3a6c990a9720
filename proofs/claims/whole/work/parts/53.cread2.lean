set_option maxRecDepth 20000 in
theorem inX2_compareWithPattern_X2 : ∀ w ∈ wsX20, w ∈ wsX2_compareWithPattern := by decide +kernel
set_option maxRecDepth 20000 in
theorem inX2_firstEndFrom_X2 : ∀ w ∈ wsX20, w ∈ wsX2_firstEndFrom := by decide +kernel
set_option maxRecDepth 20000 in
theorem inX2_search_X2 : ∀ w ∈ wsX20, w ∈ wsX2_search := by decide +kernel
set_option maxRecDepth 20000 in
theorem inX2_hit_X2 : ∀ w ∈ wsX20, w ∈ wsX2_hit := by decide +kernel
set_option maxRecDepth 20000 in
theorem inX2_longestAlike_X2 : ∀ w ∈ wsX20, w ∈ wsX2_longestAlike := by decide +kernel
set_option maxRecDepth 20000 in
theorem inX2_repeated_X2 : ∀ w ∈ wsX20, w ∈ wsX2_repeated := by decide +kernel
set_option maxRecDepth 20000 in
theorem inX2_leastPlaceOf_X2 : ∀ w ∈ wsX20, w ∈ wsX2_leastPlaceOf := by decide +kernel
set_option maxRecDepth 20000 in
theorem inX2_repeatedAt_X2 : ∀ w ∈ wsX20, w ∈ wsX2_repeatedAt := by decide +kernel
set_option maxRecDepth 20000 in
theorem inX2_different_X2 : ∀ w ∈ wsX20, w ∈ wsX2_different := by decide +kernel
set_option maxRecDepth 20000 in
theorem inX2_noteStanding_X2 : ∀ w ∈ wsX20, w ∈ wsX2_noteStanding := by decide +kernel
set_option maxHeartbeats 4000000 in
set_option maxRecDepth 100000 in
/-- compareWithPattern(place) -/
theorem kX2_compareWithPattern (l : Launch) (D : va_G) (cI cZ cL : ClassId) (b a : Nat → Nat) (sg len pl bt fh ht : Int) (nT nP : Nat) (T pt : Int → Int) (x : Int) (hlen : 0 ≤ len ∧ len ≤ 1000000) (hlT : len ≤ (nT : Int)) (bnT : (nT : Int) < 1073741824) (hT : zS T) (hpl : 0 ≤ pl ∧ pl ≤ 1000000) (hpP : pl ≤ (nP : Int)) (bnP : (nP : Int) < 1073741824) (hpt : zS pt) (hx1 : 0 ≤ x ∧ x ≤ len) : Met l yX2_compareWithPattern wsX2_compareWithPattern ({ frames := 1, cells := 0, slots := 0, locals := 21 }) (zPr D cI cZ cL [.ref (b 0), .int (zI x)] [(b 0, .inr (2, te b a sg len pl bt fh ht)), (b 1, .inl (cI, nT, .inl (zA T))), (b 2, .inl (cI, nP, .inl (zA pt)))]) (zQi (fun r => r = zcw len T pt x pl.toNat 0)) 0 0 (fun _ => False) := by
  refine Met.ofW (cc := cX2_compareWithPattern) (maxL := 4) (ret := (some .int)) (by decide) rfl ?_
  intro p e s m args below meth c s₁ B hml hv
  obtain ⟨rfl, hP, hK⟩ := hv
  have hx := B.exec
  have hb := B.bytes
  have hr := B.returns
  have hts := atoms_spec (ws := wsX2_compareWithPattern) B.pre
  have hown : s.vm.findClass RX2 = some m.cls := findClass_of_methodNamed B.named
  have hlocks := B.notSynchronized
  have hP : va_P D vwCl [(b 0, .inr (2, te b a sg len pl bt fh ht)), (b 1, .inl (cI, nT, .inl (zA T))), (b 2, .inl (cI, nP, .inl (zA pt)))] s.heap := hP
  have hl := lv_entry ([.ref (b 0), .int (zI x)]) (n := 4) (Nat.le_of_ble_eq_true rfl)
  rw [lg_entry_eq]
  generalize (lg_sl ([.ref (b 0), .int (zI x)]) ++ List.replicate (4 - (lg_sl ([.ref (b 0), .int (zI x)])).length) Slot.unset).toArray = ls at hl ⊢
  have hl : lv_has ls 4 [(0, .ref (b 0)), (1, .int (zI x))] := hl
  refine lv_iconst (v := zI 0) hx hb dX2_compareWithPattern_0 (by first | rfl | decide) ?_
  refine lv_istore_n (lv' := [(2, .int (zI 0)), (0, .ref (b 0)), (1, .int (zI x))]) hx hb dX2_compareWithPattern_1 rfl hl (by decide) rfl (fun ls hl => ?_)
  have loop2 : ∀ (nn : Nat) (k : Int) (ls : Array Slot), (0 ≤ k ∧ k ≤ pl) → (zcw len T pt x (pl - k).toNat k = zcw len T pt x pl.toNat 0) → ((pl - k).toNat) < nn → lv_has ls 4 [(0, .ref (b 0)), (1, .int (zI x)), (2, .int (zI k))] → W p l e (headSpec wsX2_compareWithPattern ({ frames := 1, cells := 0, slots := 0, locals := 21 })).room s m ([.ref (b 0), .int (zI x)] : List Value).toArray below meth c s.heap [] 0 0 (MQ below (zQi (fun r => r = zcw len T pt x pl.toNat 0)) ([.ref (b 0), .int (zI x)] : List Value).toArray s 0 0 (fun _ => False)) (F0 m 2 ls []) := by
    intro nn
    induction nn with
    | zero =>
      intros
      exact absurd (by assumption : _ < 0) (Nat.not_lt_zero _)
    | succ nn ih2 =>
      intro k ls h0 hq hmu hl
      refine lv_iload_n hx hb dX2_compareWithPattern_2 rfl (lv_at hl 2 rfl) ?_
      refine lv_aload_n hx hb dX2_compareWithPattern_3 rfl (lv_at hl 0 rfl) ?_
      refine va_get (D := D) (ci := 2) (v := .int (zI pl)) (C := RX2) (T := TX2) (N := 12) hx hb hts inX2_compareWithPattern_X2 hown hK.1 hP 0 rfl rfl 8 (by decide) (hts (.fieldLink RX2 82 "TextEnds" "patternLength" "I") (List.mem_of_getElem? (i := 1) rfl)) (fun _ h9 => h9) rfl dX2_compareWithPattern_4 ?_
      refine z_icmp_ge (tgt := 52) hx hb dX2_compareWithPattern_7 (by decide) (by omega) (by omega) (fun h_1 => ?_) (fun h_1 => ?_)
      · skip
        refine lv_iconst (v := zI 0) hx hb dX2_compareWithPattern_52 (by first | rfl | decide) ?_
        exact W.iret (v := zI 0) hx hb hr (fun t ht_ hW_ => ⟨0, rfl, by show _ = zcw len T pt x pl.toNat 0; rw [← hq, show (pl - k).toNat = 0 by omega]; rfl, ht_⟩) (fun q h => by cases h) dX2_compareWithPattern_53
      · skip
        refine lv_iload_n hx hb dX2_compareWithPattern_10 rfl (lv_at hl 1 rfl) ?_
        refine lv_iload_n hx hb dX2_compareWithPattern_11 rfl (lv_at hl 2 rfl) ?_
        refine z_iadd hx hb dX2_compareWithPattern_12 ?_
        refine lv_aload_n hx hb dX2_compareWithPattern_13 rfl (lv_at hl 0 rfl) ?_
        refine va_get (D := D) (ci := 2) (v := .int (zI len)) (C := RX2) (T := TX2) (N := 12) hx hb hts inX2_compareWithPattern_X2 hown hK.1 hP 0 rfl rfl 7 (by decide) (hts (.fieldLink RX2 48 "TextEnds" "length" "I") (List.mem_of_getElem? (i := 2) rfl)) (fun _ h9 => h9) rfl dX2_compareWithPattern_14 ?_
        refine z_icmp_lt (tgt := 22) hx hb dX2_compareWithPattern_17 (by decide) (by omega) (by omega) (fun h_2 => ?_) (fun h_2 => ?_)
        · skip
          have c1 := h_2
          have e1 : zat nT T (x + k) = T (x + k) := zat_in (by omega) (by omega)
          have hk1 := hT (x + k)
          have hk2 := hpt k
          refine lv_aload_n hx hb dX2_compareWithPattern_22 rfl (lv_at hl 0 rfl) ?_
          refine va_get (D := D) (ci := 2) (v := .ref (b 1)) (C := RX2) (T := TX2) (N := 12) hx hb hts inX2_compareWithPattern_X2 hown hK.1 hP 0 rfl rfl 2 (by decide) (hts (.fieldLink RX2 30 "TextEnds" "text" "[I") (List.mem_of_getElem? (i := 3) rfl)) (fun _ h9 => h9) rfl dX2_compareWithPattern_23 ?_
          refine lv_iload_n hx hb dX2_compareWithPattern_26 rfl (lv_at hl 1 rfl) ?_
          refine lv_iload_n hx hb dX2_compareWithPattern_27 rfl (lv_at hl 2 rfl) ?_
          refine z_iadd hx hb dX2_compareWithPattern_28 ?_
          refine z_cr (va_runS (As := [.ref (b 1), .int (zI (x + k))]) (rest := []) ⟨hx, hb, hml, hown, hts⟩ (kX2_at l D cI cZ cL (b 1) nT T (x + k) (by omega) (by omega)) (va_cwS 2 hts gX2_compareWithPattern_X2_at rfl rfl rfl (by decide +kernel) ⟨Nat.le_of_ble_eq_true rfl, Nat.le_of_ble_eq_true rfl⟩) (zPr_pre hK (hP.sub (ws' := [(b 1, .inl (cI, nT, .inl (zA T)))]) [1] rfl)) rfl rfl hl.1 rfl (lv_room (Nat.le_of_ble_eq_true rfl)) dX2_compareWithPattern_29 ⟨Nat.zero_le _, Nat.zero_le _⟩) (fun r hr_ => ?_)
          subst hr_
          refine lv_aload_n hx hb dX2_compareWithPattern_32 rfl (lv_at hl 0 rfl) ?_
          refine va_get (D := D) (ci := 2) (v := .ref (b 2)) (C := RX2) (T := TX2) (N := 12) hx hb hts inX2_compareWithPattern_X2 hown hK.1 hP 0 rfl rfl 4 (by decide) (hts (.fieldLink RX2 35 "TextEnds" "pattern" "[I") (List.mem_of_getElem? (i := 4) rfl)) (fun _ h9 => h9) rfl dX2_compareWithPattern_33 ?_
          refine lv_iload_n hx hb dX2_compareWithPattern_36 rfl (lv_at hl 2 rfl) ?_
          refine z_iald hx hb hK.1 hP 2 0 rfl rfl dX2_compareWithPattern_37 (by omega) (by omega) (by omega) ?_
          refine z_isub hx hb dX2_compareWithPattern_38 ?_
          refine lv_istore_n (lv' := [(3, .int (zI ((zat nT T (x + k)) - (pt k)))), (0, .ref (b 0)), (1, .int (zI x)), (2, .int (zI k))]) hx hb dX2_compareWithPattern_39 rfl hl (by decide) rfl (fun ls hl => ?_)
          refine lv_iload_n hx hb dX2_compareWithPattern_40 rfl (lv_at hl 0 rfl) ?_
          refine z_if_eq (tgt := 46) hx hb dX2_compareWithPattern_41 (by decide) (by omega) (fun h_3 => ?_) (fun h_3 => ?_)
          · skip
            have c2 := h_3
            rw [e1] at c2
            refine lv_iinc (v := zI (k + 1)) (lv' := [(2, .int (zI (k + 1))), (3, .int (zI ((zat nT T (x + k)) - (pt k)))), (0, .ref (b 0)), (1, .int (zI x))]) hx hb dX2_compareWithPattern_46 hl (k := 3) rfl (zI_add _ _) (by decide) rfl (fun ls hl => ?_)
            refine lv_goto (tgt := 2) hx hb dX2_compareWithPattern_49 (by decide) ?_
            exact ih2 (k + 1) ls (by omega) (by rw [← hq, show (pl - k).toNat = (pl - (k + 1)).toNat + 1 by omega, zcw, if_neg (by omega), if_pos c2]) (by omega) (lv_sub hl [2, 3, 0] rfl)
          · skip
            have c2 := h_3
            rw [e1] at c2
            refine lv_iload_n hx hb dX2_compareWithPattern_44 rfl (lv_at hl 0 rfl) ?_
            exact W.iret (v := zI ((zat nT T (x + k)) - (pt k))) hx hb hr (fun t ht_ hW_ => ⟨(zat nT T (x + k)) - (pt k), rfl, by show _ = zcw len T pt x pl.toNat 0; rw [← hq, show (pl - k).toNat = (pl - (k + 1)).toNat + 1 by omega, zcw, if_neg (by omega), if_neg c2, e1], ht_⟩) (fun q h => by cases h) dX2_compareWithPattern_45
        · skip
          have c1 := h_2
          refine lv_iconst (v := zI (-1)) hx hb dX2_compareWithPattern_20 (by first | rfl | decide) ?_
          exact W.iret (v := zI (-1)) hx hb hr (fun t ht_ hW_ => ⟨(-1), rfl, by show _ = zcw len T pt x pl.toNat 0; rw [← hq, show (pl - k).toNat = (pl - (k + 1)).toNat + 1 by omega, zcw, if_pos (by omega)], ht_⟩) (fun q h => by cases h) dX2_compareWithPattern_21
  exact loop2 _ 0 ls (by omega) (by rw [show pl - 0 = pl by omega]) (Nat.lt_succ_self _) (lv_sub hl [1, 2, 0] rfl)
set_option maxHeartbeats 4000000 in
set_option maxRecDepth 100000 in
/-- firstEndFrom(least) -/
theorem kX2_firstEndFrom (l : Launch) (D : va_G) (cI cZ cL : ClassId) (b a : Nat → Nat) (sg len pl bt fh ht : Int) (nT nO nP : Nat) (T od pt : Int → Int) (lst : Int) (hlen : 0 ≤ len ∧ len ≤ 1000000) (hlT : len ≤ (nT : Int)) (bnT : (nT : Int) < 1073741824) (hT : zS T) (hlO : len ≤ (nO : Int)) (bnO : (nO : Int) < 1073741824) (hpl : 0 ≤ pl ∧ pl ≤ 1000000) (hpP : pl ≤ (nP : Int)) (bnP : (nP : Int) < 1073741824) (hpt : zS pt) (hod : ∀ i, 0 ≤ i → i < len → 0 ≤ od i ∧ od i < len) (hls : 0 ≤ lst ∧ lst ≤ 1) : Met l yX2_firstEndFrom wsX2_firstEndFrom ({ frames := 2, cells := 0, slots := 0, locals := 44 }) (zPr D cI cZ cL [.ref (b 0), .int (zI lst)] [(b 0, .inr (2, te b a sg len pl bt fh ht)), (b 1, .inl (cI, nT, .inl (zA T))), (a 2, .inl (cI, nO, .inl (zA od))), (b 2, .inl (cI, nP, .inl (zA pt)))]) (zQi (fun r => r = zff len T pt od pl lst)) 0 0 (fun _ => False) := by
  refine Met.ofW (cc := cX2_firstEndFrom) (maxL := 5) (ret := (some .int)) (by decide) rfl ?_
  intro p e s m args below meth c s₁ B hml hv
  obtain ⟨rfl, hP, hK⟩ := hv
  have hx := B.exec
  have hb := B.bytes
  have hr := B.returns
  have hts := atoms_spec (ws := wsX2_firstEndFrom) B.pre
  have hown : s.vm.findClass RX2 = some m.cls := findClass_of_methodNamed B.named
  have hlocks := B.notSynchronized
  have hP : va_P D vwCl [(b 0, .inr (2, te b a sg len pl bt fh ht)), (b 1, .inl (cI, nT, .inl (zA T))), (a 2, .inl (cI, nO, .inl (zA od))), (b 2, .inl (cI, nP, .inl (zA pt)))] s.heap := hP
  have hl := lv_entry ([.ref (b 0), .int (zI lst)]) (n := 5) (Nat.le_of_ble_eq_true rfl)
  rw [lg_entry_eq]
  generalize (lg_sl ([.ref (b 0), .int (zI lst)]) ++ List.replicate (5 - (lg_sl ([.ref (b 0), .int (zI lst)])).length) Slot.unset).toArray = ls at hl ⊢
  have hl : lv_has ls 5 [(0, .ref (b 0)), (1, .int (zI lst))] := hl
  refine lv_iconst (v := zI 0) hx hb dX2_firstEndFrom_0 (by first | rfl | decide) ?_
  refine lv_istore_n (lv' := [(2, .int (zI 0)), (0, .ref (b 0)), (1, .int (zI lst))]) hx hb dX2_firstEndFrom_1 rfl hl (by decide) rfl (fun ls hl => ?_)
  refine lv_aload_n hx hb dX2_firstEndFrom_2 rfl (lv_at hl 1 rfl) ?_
  refine va_get (D := D) (ci := 2) (v := .int (zI len)) (C := RX2) (T := TX2) (N := 12) hx hb hts inX2_firstEndFrom_X2 hown hK.1 hP 0 rfl rfl 7 (by decide) (hts (.fieldLink RX2 48 "TextEnds" "length" "I") (List.mem_of_getElem? (i := 1) rfl)) (fun _ h9 => h9) rfl dX2_firstEndFrom_3 ?_
  refine lv_istore_n (lv' := [(3, .int (zI len)), (2, .int (zI 0)), (0, .ref (b 0)), (1, .int (zI lst))]) hx hb dX2_firstEndFrom_6 rfl hl (by decide) rfl (fun ls hl => ?_)
  have loop7 : ∀ (nn : Nat) (lw : Int) (hi : Int) (ls : Array Slot), (0 ≤ lw ∧ lw ≤ hi ∧ hi ≤ len) → (zbs (fun mm => decide (zcw len T pt (od mm) pl.toNat 0 < lst)) (hi - lw).toNat lw hi = zff len T pt od pl lst) → ((hi - lw).toNat) < nn → lv_has ls 5 [(0, .ref (b 0)), (1, .int (zI lst)), (2, .int (zI lw)), (3, .int (zI hi))] → W p l e (headSpec wsX2_firstEndFrom ({ frames := 2, cells := 0, slots := 0, locals := 44 })).room s m ([.ref (b 0), .int (zI lst)] : List Value).toArray below meth c s.heap [] 0 0 (MQ below (zQi (fun r => r = zff len T pt od pl lst)) ([.ref (b 0), .int (zI lst)] : List Value).toArray s 0 0 (fun _ => False)) (F0 m 7 ls []) := by
    intro nn
    induction nn with
    | zero =>
      intros
      exact absurd (by assumption : _ < 0) (Nat.not_lt_zero _)
    | succ nn ih7 =>
      intro lw hi ls h0 hq hmu hl
      refine lv_iload_n hx hb dX2_firstEndFrom_7 rfl (lv_at hl 2 rfl) ?_
      refine lv_iload_n hx hb dX2_firstEndFrom_8 rfl (lv_at hl 3 rfl) ?_
      refine z_icmp_ge (tgt := 50) hx hb dX2_firstEndFrom_9 (by decide) (by omega) (by omega) (fun h_1 => ?_) (fun h_1 => ?_)
      · skip
        refine lv_iload_n hx hb dX2_firstEndFrom_50 rfl (lv_at hl 2 rfl) ?_
        exact W.iret (v := zI lw) hx hb hr (fun t ht_ hW_ => ⟨lw, rfl, by rw [← hq]; exact (zbs_e (by omega)).symm, ht_⟩) (fun q h => by cases h) dX2_firstEndFrom_51
      · skip
        refine lv_iload_n hx hb dX2_firstEndFrom_12 rfl (lv_at hl 2 rfl) ?_
        refine lv_iload_n hx hb dX2_firstEndFrom_13 rfl (lv_at hl 3 rfl) ?_
        refine z_iadd hx hb dX2_firstEndFrom_14 ?_
        refine lv_iconst (v := zI 1) hx hb dX2_firstEndFrom_15 (by first | rfl | decide) ?_
        refine lv_iushr (v := zI ((lw + hi) / 2)) hx hb dX2_firstEndFrom_16 (z_ush1 (by omega) (by omega)) ?_
        refine lv_istore (lv' := [(4, .int (zI ((lw + hi) / 2))), (0, .ref (b 0)), (1, .int (zI lst)), (2, .int (zI lw)), (3, .int (zI hi))]) hx hb dX2_firstEndFrom_17 hl (by decide) rfl (fun ls hl => ?_)
        have hk1 := hod ((lw + hi) / 2) (by omega) (by omega)
        have e1 : zat nO od ((lw + hi) / 2) = od ((lw + hi) / 2) := zat_in (by omega) (by omega)
        have hk2 := zcw_S (len := len) (pl := zat nO od ((lw + hi) / 2)) hT hpt pl.toNat 0
        refine lv_aload_n hx hb dX2_firstEndFrom_19 rfl (lv_at hl 1 rfl) ?_
        refine lv_aload_n hx hb dX2_firstEndFrom_20 rfl (lv_at hl 1 rfl) ?_
        refine va_get (D := D) (ci := 2) (v := .ref (a 2)) (C := RX2) (T := TX2) (N := 12) hx hb hts inX2_firstEndFrom_X2 hown hK.1 hP 0 rfl rfl 3 (by decide) (hts (.fieldLink RX2 34 "TextEnds" "order" "[I") (List.mem_of_getElem? (i := 2) rfl)) (fun _ h9 => h9) rfl dX2_firstEndFrom_21 ?_
        refine lv_iload hx hb dX2_firstEndFrom_24 (lv_at hl 0 rfl) ?_
        refine z_cr (va_runS (As := [.ref (a 2), .int (zI ((lw + hi) / 2))]) (rest := [.ref (b 0)]) ⟨hx, hb, hml, hown, hts⟩ (kX2_at l D cI cZ cL (a 2) nO od ((lw + hi) / 2) (by omega) (by omega)) (va_cwS 2 hts gX2_firstEndFrom_X2_at rfl rfl rfl (by decide +kernel) ⟨Nat.le_of_ble_eq_true rfl, Nat.le_of_ble_eq_true rfl⟩) (zPr_pre hK (hP.sub (ws' := [(a 2, .inl (cI, nO, .inl (zA od)))]) [2] rfl)) rfl rfl hl.1 rfl (lv_room (Nat.le_of_ble_eq_true rfl)) dX2_firstEndFrom_26 ⟨Nat.zero_le _, Nat.zero_le _⟩) (fun r hr_ => ?_)
        subst hr_
        refine z_cr (va_runV (As := [.int (zI (zat nO od ((lw + hi) / 2)))]) (rest := []) ⟨hx, hb, hml, hown, hts⟩ (kX2_compareWithPattern l D cI cZ cL b a sg len pl bt fh ht nT nP T pt (zat nO od ((lw + hi) / 2)) (by omega) (by omega) (by omega) (hT) (by omega) (by omega) (by omega) (hpt) (by omega)) (cwV 1 hts gX2_firstEndFrom_X2_compareWithPattern rfl rfl rfl (by decide +kernel) ⟨Nat.le_of_ble_eq_true rfl, Nat.le_of_ble_eq_true rfl⟩) (zPr_preV (ci := 2) (q0 := 0) hK (hP.sub (ws' := [(b 0, .inr (2, te b a sg len pl bt fh ht)), (b 1, .inl (cI, nT, .inl (zA T))), (b 2, .inl (cI, nP, .inl (zA pt)))]) [0, 1, 3] rfl) rfl rfl) rfl rfl hl.1 rfl (lv_room (Nat.le_of_ble_eq_true rfl)) dX2_firstEndFrom_29 ⟨Nat.zero_le _, Nat.zero_le _⟩) (fun r hr_ => ?_)
        subst hr_
        refine lv_iload_n hx hb dX2_firstEndFrom_32 rfl (lv_at hl 2 rfl) ?_
        refine z_icmp_ge (tgt := 44) hx hb dX2_firstEndFrom_33 (by decide) (by omega) (by omega) (fun h_2 => ?_) (fun h_2 => ?_)
        · skip
          have cc2 : ¬ zcw len T pt (od ((lw + hi) / 2)) pl.toNat 0 < lst := by have := h_2; rw [e1] at this; omega
          refine lv_iload hx hb dX2_firstEndFrom_44 (lv_at hl 0 rfl) ?_
          refine lv_istore_n (lv' := [(3, .int (zI ((lw + hi) / 2))), (4, .int (zI ((lw + hi) / 2))), (0, .ref (b 0)), (1, .int (zI lst)), (2, .int (zI lw))]) hx hb dX2_firstEndFrom_46 rfl hl (by decide) rfl (fun ls hl => ?_)
          refine lv_goto (tgt := 7) hx hb dX2_firstEndFrom_47 (by decide) ?_
          exact ih7 lw ((lw + hi) / 2) ls (by omega) (by rw [← hq, show (hi - lw).toNat = (hi - lw).toNat - 1 + 1 by omega]; first | (rw [← zbs_t (by omega) (decide_eq_true cc1)]; exact zbs_m _ _ _ _ (by omega) (by omega)) | (rw [← zbs_f (by omega) (decide_eq_false cc2)]; exact zbs_m _ _ _ _ (by omega) (by omega))) (by omega) (lv_sub hl [2, 3, 4, 0] rfl)
        · skip
          have cc1 : zcw len T pt (od ((lw + hi) / 2)) pl.toNat 0 < lst := by have := h_2; rw [e1] at this; exact this
          refine lv_iload hx hb dX2_firstEndFrom_36 (lv_at hl 0 rfl) ?_
          refine lv_iconst (v := zI 1) hx hb dX2_firstEndFrom_38 (by first | rfl | decide) ?_
          refine z_iadd hx hb dX2_firstEndFrom_39 ?_
          refine lv_istore_n (lv' := [(2, .int (zI (((lw + hi) / 2) + 1))), (4, .int (zI ((lw + hi) / 2))), (0, .ref (b 0)), (1, .int (zI lst)), (3, .int (zI hi))]) hx hb dX2_firstEndFrom_40 rfl hl (by decide) rfl (fun ls hl => ?_)
          refine lv_goto (tgt := 47) hx hb dX2_firstEndFrom_41 (by decide) ?_
          refine lv_goto (tgt := 7) hx hb dX2_firstEndFrom_47 (by decide) ?_
          exact ih7 (((lw + hi) / 2) + 1) hi ls (by omega) (by rw [← hq, show (hi - lw).toNat = (hi - lw).toNat - 1 + 1 by omega]; first | (rw [← zbs_t (by omega) (decide_eq_true cc1)]; exact zbs_m _ _ _ _ (by omega) (by omega)) | (rw [← zbs_f (by omega) (decide_eq_false cc2)]; exact zbs_m _ _ _ _ (by omega) (by omega))) (by omega) (lv_sub hl [2, 3, 0, 4] rfl)
  exact loop7 _ 0 len ls (by omega) (by rw [show len - 0 = len by omega]; rfl) (Nat.lt_succ_self _) (lv_sub hl [2, 3, 1, 0] rfl)
set_option maxHeartbeats 4000000 in
set_option maxRecDepth 100000 in
/-- search() -/
theorem kX2_search (l : Launch) (D : va_G) (cI cZ cL : ClassId) (b a : Nat → Nat) (sg len pl bt fh ht : Int) (nT nO nP : Nat) (T od pt : Int → Int) (szz : Nat) (hlen : 0 ≤ len ∧ len ≤ 1000000) (hlT : len ≤ (nT : Int)) (bnT : (nT : Int) < 1073741824) (hT : zS T) (hlO : len ≤ (nO : Int)) (bnO : (nO : Int) < 1073741824) (hpl : 0 ≤ pl ∧ pl ≤ 1000000) (hpP : pl ≤ (nP : Int)) (bnP : (nP : Int) < 1073741824) (hpt : zS pt) (hbt : bt = 0 ∨ bt = 1) (hod : bt ≠ 0 → ∀ i, 0 ≤ i → i < len → 0 ≤ od i ∧ od i < len) : Met l yX2_search wsX2_search ({ frames := 3, cells := 0, slots := 0, locals := 68 }) (zPw D cI cZ cL szz [.ref (b 0)] [(b 0, .inr (2, te b a sg len pl bt fh ht)), (b 1, .inl (cI, nT, .inl (zA T))), (a 2, .inl (cI, nO, .inl (zA od))), (b 2, .inl (cI, nP, .inl (zA pt)))]) (zQwi D (va_A [(b 0, .inr (2, te b a sg len pl bt fh ht)), (b 1, .inl (cI, nT, .inl (zA T))), (a 2, .inl (cI, nO, .inl (zA od))), (b 2, .inl (cI, nP, .inl (zA pt)))] szz) (fun (r : Int) (_ : Unit) => r = (if bt = 0 then -1 else zff len T pt od pl 1 - zff len T pt od pl 0) ∧ True) (fun _ : Unit => [(b 0, .inr (2, te b a sg len pl bt (if bt = 0 then fh else zff len T pt od pl 0) (if bt = 0 then ht else zff len T pt od pl 1 - zff len T pt od pl 0))), (b 1, .inl (cI, nT, .inl (zA T))), (a 2, .inl (cI, nO, .inl (zA od))), (b 2, .inl (cI, nP, .inl (zA pt)))])) 0 0 (va_A [(b 0, .inr (2, te b a sg len pl bt fh ht)), (b 1, .inl (cI, nT, .inl (zA T))), (a 2, .inl (cI, nO, .inl (zA od))), (b 2, .inl (cI, nP, .inl (zA pt)))] szz) := by
  refine Met.ofW (cc := cX2_search) (maxL := 1) (ret := (some .int)) (by decide) rfl ?_
  intro p e s m args below meth c s₁ B hml hv
  obtain ⟨rfl, hsz, hP, hK, hD0⟩ := hv
  have hx := B.exec
  have hb := B.bytes
  have hr := B.returns
  have hts := atoms_spec (ws := wsX2_search) B.pre
  have hown : s.vm.findClass RX2 = some m.cls := findClass_of_methodNamed B.named
  have hlocks := B.notSynchronized
  subst hsz
  have hD := hD0.self (sz := s.heap.size)
  generalize hAe : va_A [(b 0, .inr (2, te b a sg len pl bt fh ht)), (b 1, .inl (cI, nT, .inl (zA T))), (a 2, .inl (cI, nO, .inl (zA od))), (b 2, .inl (cI, nP, .inl (zA pt)))] s.heap.size = A at hD ⊢
  have hA : ∀ q : Nat, s.heap.size ≤ q → A q := fun q h => by rw [← hAe]; exact Or.inr h
  have hS : va_S A s.heap s.heap [] := va_S.rf
  clear hD0
  have hP : va_P D vwCl [(b 0, .inr (2, te b a sg len pl bt fh ht)), (b 1, .inl (cI, nT, .inl (zA T))), (a 2, .inl (cI, nO, .inl (zA od))), (b 2, .inl (cI, nP, .inl (zA pt)))] s.heap := hP
  have hl := lv_entry ([.ref (b 0)]) (n := 1) (Nat.le_of_ble_eq_true rfl)
  rw [lg_entry_eq]
  generalize (lg_sl ([.ref (b 0)]) ++ List.replicate (1 - (lg_sl ([.ref (b 0)])).length) Slot.unset).toArray = ls at hl ⊢
  have hl : lv_has ls 1 [(0, .ref (b 0))] := hl
  refine lv_aload_n hx hb dX2_search_0 rfl (lv_at hl 0 rfl) ?_
  refine va_get (D := D) (ci := 2) (v := .int (zI bt)) (C := RX2) (T := TX2) (N := 12) hx hb hts inX2_search_X2 hown hK.1 hP 0 rfl rfl 9 (by decide) (hts (.fieldLink RX2 51 "TextEnds" "built" "Z") (List.mem_of_getElem? (i := 1) rfl)) (fun _ h9 => h9) rfl dX2_search_1 ?_
  refine z_if_ne (tgt := 9) hx hb dX2_search_4 (by decide) (by omega) (fun h_1 => ?_) (fun h_1 => ?_)
  · skip
    have hz := h_1
    refine lv_aload_n hx hb dX2_search_9 rfl (lv_at hl 0 rfl) ?_
    refine lv_aload_n hx hb dX2_search_10 rfl (lv_at hl 0 rfl) ?_
    refine lv_iconst (v := zI 0) hx hb dX2_search_11 (by first | rfl | decide) ?_
    refine z_cr (va_runV (As := [.int (zI 0)]) (rest := [.ref (b 0)]) ⟨hx, hb, hml, hown, hts⟩ (kX2_firstEndFrom l D cI cZ cL b a sg len pl bt fh ht nT nO nP T od pt 0 (by omega) (by omega) (by omega) (hT) (by omega) (by omega) (by omega) (by omega) (by omega) (hpt) (hod hz) (by omega)) (cwV 1 hts gX2_search_X2_firstEndFrom rfl rfl rfl (by decide +kernel) ⟨Nat.le_of_ble_eq_true rfl, Nat.le_of_ble_eq_true rfl⟩) (zPr_preV (ci := 2) (q0 := 0) hK (hP.sub (ws' := [(b 0, .inr (2, te b a sg len pl bt fh ht)), (b 1, .inl (cI, nT, .inl (zA T))), (a 2, .inl (cI, nO, .inl (zA od))), (b 2, .inl (cI, nP, .inl (zA pt)))]) [0, 1, 2, 3] rfl) rfl rfl) rfl rfl hl.1 rfl (lv_room (Nat.le_of_ble_eq_true rfl)) dX2_search_12 ⟨Nat.zero_le _, Nat.zero_le _⟩) (fun r hr_ => ?_)
    subst hr_
    refine va_put (D := D) (ci := 2) (v := .int (zI (zff len T pt od pl 0))) (ty := .int) (C := RX2) (T := TX2) (N := 12) hx hb hts inX2_search_X2 tyX2 tyX2_ok nmX2 hown hK.1 hP hD hS 0 rfl rfl 10 (by decide) (hts (.fieldLink RX2 89 "TextEnds" "firstHit" "I") (List.mem_of_getElem? (i := 2) rfl)) (fun _ h9 => h9) rfl (by decide +kernel) rfl rfl (Nat.le_of_ble_eq_true rfl) dX2_search_15 (fun H locs hP hD hS => ?_)
    have hP : va_P D vwCl [(b 0, .inr (2, te b a sg len pl bt (zff len T pt od pl 0) ht)), (b 1, .inl (cI, nT, .inl (zA T))), (a 2, .inl (cI, nO, .inl (zA od))), (b 2, .inl (cI, nP, .inl (zA pt)))] H := hP
    have hD : va_D A [(b 0, .inr (2, te b a sg len pl bt (zff len T pt od pl 0) ht)), (b 1, .inl (cI, nT, .inl (zA T))), (a 2, .inl (cI, nO, .inl (zA od))), (b 2, .inl (cI, nP, .inl (zA pt)))] := hD
    refine lv_aload_n hx hb dX2_search_18 rfl (lv_at hl 0 rfl) ?_
    refine lv_aload_n hx hb dX2_search_19 rfl (lv_at hl 0 rfl) ?_
    refine lv_iconst (v := zI 1) hx hb dX2_search_20 (by first | rfl | decide) ?_
    refine z_cr (va_runV (As := [.int (zI 1)]) (rest := [.ref (b 0)]) ⟨hx, hb, hml, hown, hts⟩ (kX2_firstEndFrom l D cI cZ cL b a sg len pl bt (zff len T pt od pl 0) ht nT nO nP T od pt 1 (by omega) (by omega) (by omega) (hT) (by omega) (by omega) (by omega) (by omega) (by omega) (hpt) (hod hz) (by omega)) (cwV 1 hts gX2_search_X2_firstEndFrom rfl rfl rfl (by decide +kernel) ⟨Nat.le_of_ble_eq_true rfl, Nat.le_of_ble_eq_true rfl⟩) (zPr_preV (ci := 2) (q0 := 0) hK (hP.sub (ws' := [(b 0, .inr (2, te b a sg len pl bt (zff len T pt od pl 0) ht)), (b 1, .inl (cI, nT, .inl (zA T))), (a 2, .inl (cI, nO, .inl (zA od))), (b 2, .inl (cI, nP, .inl (zA pt)))]) [0, 1, 2, 3] rfl) rfl rfl) rfl rfl hl.1 rfl (lv_room (Nat.le_of_ble_eq_true rfl)) dX2_search_21 ⟨Nat.zero_le _, Nat.zero_le _⟩) (fun r hr_ => ?_)
    subst hr_
    refine lv_aload_n hx hb dX2_search_24 rfl (lv_at hl 0 rfl) ?_
    refine va_get (D := D) (ci := 2) (v := .int (zI (zff len T pt od pl 0))) (C := RX2) (T := TX2) (N := 12) hx hb hts inX2_search_X2 hown hK.1 hP 0 rfl rfl 10 (by decide) (hts (.fieldLink RX2 89 "TextEnds" "firstHit" "I") (List.mem_of_getElem? (i := 2) rfl)) (fun _ h9 => h9) rfl dX2_search_25 ?_
    refine z_isub hx hb dX2_search_28 ?_
    refine va_put (D := D) (ci := 2) (v := .int (zI ((zff len T pt od pl 1) - (zff len T pt od pl 0)))) (ty := .int) (C := RX2) (T := TX2) (N := 12) hx hb hts inX2_search_X2 tyX2 tyX2_ok nmX2 hown hK.1 hP hD hS 0 rfl rfl 11 (by decide) (hts (.fieldLink RX2 92 "TextEnds" "hits" "I") (List.mem_of_getElem? (i := 3) rfl)) (fun _ h9 => h9) rfl (by decide +kernel) rfl rfl (Nat.le_of_ble_eq_true rfl) dX2_search_29 (fun H locs hP hD hS => ?_)
    have hP : va_P D vwCl [(b 0, .inr (2, te b a sg len pl bt (zff len T pt od pl 0) ((zff len T pt od pl 1) - (zff len T pt od pl 0)))), (b 1, .inl (cI, nT, .inl (zA T))), (a 2, .inl (cI, nO, .inl (zA od))), (b 2, .inl (cI, nP, .inl (zA pt)))] H := hP
    have hD : va_D A [(b 0, .inr (2, te b a sg len pl bt (zff len T pt od pl 0) ((zff len T pt od pl 1) - (zff len T pt od pl 0)))), (b 1, .inl (cI, nT, .inl (zA T))), (a 2, .inl (cI, nO, .inl (zA od))), (b 2, .inl (cI, nP, .inl (zA pt)))] := hD
    refine lv_aload_n hx hb dX2_search_32 rfl (lv_at hl 0 rfl) ?_
    refine va_get (D := D) (ci := 2) (v := .int (zI ((zff len T pt od pl 1) - (zff len T pt od pl 0)))) (C := RX2) (T := TX2) (N := 12) hx hb hts inX2_search_X2 hown hK.1 hP 0 rfl rfl 11 (by decide) (hts (.fieldLink RX2 92 "TextEnds" "hits" "I") (List.mem_of_getElem? (i := 3) rfl)) (fun _ h9 => h9) rfl dX2_search_33 ?_
    have hP : va_P D vwCl [(b 0, .inr (2, te b a sg len pl bt (if bt = 0 then fh else zff len T pt od pl 0) (if bt = 0 then ht else zff len T pt od pl 1 - zff len T pt od pl 0))), (b 1, .inl (cI, nT, .inl (zA T))), (a 2, .inl (cI, nO, .inl (zA od))), (b 2, .inl (cI, nP, .inl (zA pt)))] H := by (simp only [if_neg hz]; exact hP)
    have hD : va_D A [(b 0, .inr (2, te b a sg len pl bt (if bt = 0 then fh else zff len T pt od pl 0) (if bt = 0 then ht else zff len T pt od pl 1 - zff len T pt od pl 0))), (b 1, .inl (cI, nT, .inl (zA T))), (a 2, .inl (cI, nO, .inl (zA od))), (b 2, .inl (cI, nP, .inl (zA pt)))] := by (simp only [if_neg hz]; exact hD)
    exact W.iret (v := zI ((zff len T pt od pl 1) - (zff len T pt od pl 0))) hx hb hr (fun t ht_ hW_ => ⟨⟨(zff len T pt od pl 1) - (zff len T pt od pl 0), (), rfl, ⟨by rw [if_neg hz], trivial⟩, by rw [ht_]; exact hP, hD⟩, hS.F ht_⟩) hS.2.2 dX2_search_36
  · skip
    have hz := h_1
    refine lv_iconst (v := zI (-1)) hx hb dX2_search_7 (by first | rfl | decide) ?_
    have hP : va_P D vwCl [(b 0, .inr (2, te b a sg len pl bt (if bt = 0 then fh else zff len T pt od pl 0) (if bt = 0 then ht else zff len T pt od pl 1 - zff len T pt od pl 0))), (b 1, .inl (cI, nT, .inl (zA T))), (a 2, .inl (cI, nO, .inl (zA od))), (b 2, .inl (cI, nP, .inl (zA pt)))] s.heap := by (simp only [if_pos hz]; exact hP)
    have hD : va_D A [(b 0, .inr (2, te b a sg len pl bt (if bt = 0 then fh else zff len T pt od pl 0) (if bt = 0 then ht else zff len T pt od pl 1 - zff len T pt od pl 0))), (b 1, .inl (cI, nT, .inl (zA T))), (a 2, .inl (cI, nO, .inl (zA od))), (b 2, .inl (cI, nP, .inl (zA pt)))] := by (simp only [if_pos hz]; exact hD)
    exact W.iret (v := zI (-1)) hx hb hr (fun t ht_ hW_ => ⟨⟨(-1), (), rfl, ⟨by rw [if_pos hz], trivial⟩, by rw [ht_]; exact hP, hD⟩, hS.F ht_⟩) hS.2.2 dX2_search_8
set_option maxHeartbeats 4000000 in
set_option maxRecDepth 100000 in
/-- hit(k) -/
theorem kX2_hit (l : Launch) (D : va_G) (cI cZ cL : ClassId) (b a : Nat → Nat) (sg len pl bt fh ht : Int) (nO : Nat) (od : Int → Int) (k : Int) (bnO : (nO : Int) < 1073741824) (hht : 0 ≤ ht ∧ ht ≤ 1000000) (hfh : 0 ≤ fh ∧ fh ≤ 1000000) (hk : zR k) : Met l yX2_hit wsX2_hit ({ frames := 1, cells := 0, slots := 0, locals := 21 }) (zPr D cI cZ cL [.ref (b 0), .int (zI k)] [(b 0, .inr (2, te b a sg len pl bt fh ht)), (a 2, .inl (cI, nO, .inl (zA od)))]) (zQi (fun r => r = zhc ht nO od fh k)) 0 0 (fun _ => False) := by
  refine Met.ofW (cc := cX2_hit) (maxL := 2) (ret := (some .int)) (by decide) rfl ?_
  intro p e s m args below meth c s₁ B hml hv
  obtain ⟨rfl, hP, hK⟩ := hv
  have hx := B.exec
  have hb := B.bytes
  have hr := B.returns
  have hts := atoms_spec (ws := wsX2_hit) B.pre
  have hown : s.vm.findClass RX2 = some m.cls := findClass_of_methodNamed B.named
  have hlocks := B.notSynchronized
  have hP : va_P D vwCl [(b 0, .inr (2, te b a sg len pl bt fh ht)), (a 2, .inl (cI, nO, .inl (zA od)))] s.heap := hP
  have hl := lv_entry ([.ref (b 0), .int (zI k)]) (n := 2) (Nat.le_of_ble_eq_true rfl)
  rw [lg_entry_eq]
  generalize (lg_sl ([.ref (b 0), .int (zI k)]) ++ List.replicate (2 - (lg_sl ([.ref (b 0), .int (zI k)])).length) Slot.unset).toArray = ls at hl ⊢
  have hl : lv_has ls 2 [(0, .ref (b 0)), (1, .int (zI k))] := hl
  refine lv_iload_n hx hb dX2_hit_0 rfl (lv_at hl 1 rfl) ?_
  refine z_if_lt (tgt := 28) hx hb dX2_hit_1 (by decide) (by omega) (fun h_1 => ?_) (fun h_1 => ?_)
  · skip
    refine lv_iconst (v := zI (-1)) hx hb dX2_hit_28 (by first | rfl | decide) ?_
    exact W.iret (v := zI (-1)) hx hb hr (fun t ht_ hW_ => ⟨(-1), rfl, by show _ = zhc ht nO od fh k; unfold zhc; first | rw [if_neg (by omega)] | rw [if_pos ⟨by omega, by omega⟩], ht_⟩) (fun q h => by cases h) dX2_hit_29
  · skip
    refine lv_iload_n hx hb dX2_hit_4 rfl (lv_at hl 1 rfl) ?_
    refine lv_aload_n hx hb dX2_hit_5 rfl (lv_at hl 0 rfl) ?_
    refine va_get (D := D) (ci := 2) (v := .int (zI ht)) (C := RX2) (T := TX2) (N := 12) hx hb hts inX2_hit_X2 hown hK.1 hP 0 rfl rfl 11 (by decide) (hts (.fieldLink RX2 92 "TextEnds" "hits" "I") (List.mem_of_getElem? (i := 1) rfl)) (fun _ h9 => h9) rfl dX2_hit_6 ?_
    refine z_icmp_ge (tgt := 28) hx hb dX2_hit_9 (by decide) (by omega) (by omega) (fun h_2 => ?_) (fun h_2 => ?_)
    · skip
      refine lv_iconst (v := zI (-1)) hx hb dX2_hit_28 (by first | rfl | decide) ?_
      exact W.iret (v := zI (-1)) hx hb hr (fun t ht_ hW_ => ⟨(-1), rfl, by show _ = zhc ht nO od fh k; unfold zhc; first | rw [if_neg (by omega)] | rw [if_pos ⟨by omega, by omega⟩], ht_⟩) (fun q h => by cases h) dX2_hit_29
    · skip
      refine lv_aload_n hx hb dX2_hit_12 rfl (lv_at hl 0 rfl) ?_
      refine va_get (D := D) (ci := 2) (v := .ref (a 2)) (C := RX2) (T := TX2) (N := 12) hx hb hts inX2_hit_X2 hown hK.1 hP 0 rfl rfl 3 (by decide) (hts (.fieldLink RX2 34 "TextEnds" "order" "[I") (List.mem_of_getElem? (i := 2) rfl)) (fun _ h9 => h9) rfl dX2_hit_13 ?_
      refine lv_aload_n hx hb dX2_hit_16 rfl (lv_at hl 0 rfl) ?_
      refine va_get (D := D) (ci := 2) (v := .int (zI fh)) (C := RX2) (T := TX2) (N := 12) hx hb hts inX2_hit_X2 hown hK.1 hP 0 rfl rfl 10 (by decide) (hts (.fieldLink RX2 89 "TextEnds" "firstHit" "I") (List.mem_of_getElem? (i := 3) rfl)) (fun _ h9 => h9) rfl dX2_hit_17 ?_
      refine lv_iload_n hx hb dX2_hit_20 rfl (lv_at hl 1 rfl) ?_
      refine z_iadd hx hb dX2_hit_21 ?_
      refine z_cr (va_runS (As := [.ref (a 2), .int (zI (fh + k))]) (rest := []) ⟨hx, hb, hml, hown, hts⟩ (kX2_at l D cI cZ cL (a 2) nO od (fh + k) (by omega) (by omega)) (va_cwS 2 hts gX2_hit_X2_at rfl rfl rfl (by decide +kernel) ⟨Nat.le_of_ble_eq_true rfl, Nat.le_of_ble_eq_true rfl⟩) (zPr_pre hK (hP.sub (ws' := [(a 2, .inl (cI, nO, .inl (zA od)))]) [1] rfl)) rfl rfl hl.1 rfl (lv_room (Nat.le_of_ble_eq_true rfl)) dX2_hit_22 ⟨Nat.zero_le _, Nat.zero_le _⟩) (fun r hr_ => ?_)
      subst hr_
      refine lv_goto (tgt := 29) hx hb dX2_hit_25 (by decide) ?_
      exact W.iret (v := zI (zat nO od (fh + k))) hx hb hr (fun t ht_ hW_ => ⟨zat nO od (fh + k), rfl, by show _ = zhc ht nO od fh k; unfold zhc; first | rw [if_neg (by omega)] | rw [if_pos ⟨by omega, by omega⟩], ht_⟩) (fun q h => by cases h) dX2_hit_29
set_option maxHeartbeats 4000000 in
set_option maxRecDepth 100000 in
/-- longestAlike() -/
theorem kX2_longestAlike (l : Launch) (D : va_G) (cI cZ cL : ClassId) (b a : Nat → Nat) (sg len pl bt fh ht : Int) (nA : Nat) (al : Int → Int) (hlen : 0 ≤ len ∧ len ≤ 1000000) (hlA : len ≤ (nA : Int)) (bnA : (nA : Int) < 1073741824) (hal : zS al) : Met l yX2_longestAlike wsX2_longestAlike ({ frames := 1, cells := 0, slots := 0, locals := 30 }) (zPr D cI cZ cL [.ref (b 0)] [(b 0, .inr (2, te b a sg len pl bt fh ht)), (b 4, .inl (cI, nA, .inl (zA al)))]) (zQi (fun r => r = zmx al len)) 0 0 (fun _ => False) := by
  refine Met.ofW (cc := cX2_longestAlike) (maxL := 3) (ret := (some .int)) (by decide) rfl ?_
  intro p e s m args below meth c s₁ B hml hv
  obtain ⟨rfl, hP, hK⟩ := hv
  have hx := B.exec
  have hb := B.bytes
  have hr := B.returns
  have hts := atoms_spec (ws := wsX2_longestAlike) B.pre
  have hown : s.vm.findClass RX2 = some m.cls := findClass_of_methodNamed B.named
  have hlocks := B.notSynchronized
  have hP : va_P D vwCl [(b 0, .inr (2, te b a sg len pl bt fh ht)), (b 4, .inl (cI, nA, .inl (zA al)))] s.heap := hP
  have hl := lv_entry ([.ref (b 0)]) (n := 3) (Nat.le_of_ble_eq_true rfl)
  rw [lg_entry_eq]
  generalize (lg_sl ([.ref (b 0)]) ++ List.replicate (3 - (lg_sl ([.ref (b 0)])).length) Slot.unset).toArray = ls at hl ⊢
  have hl : lv_has ls 3 [(0, .ref (b 0))] := hl
  refine lv_iconst (v := zI 0) hx hb dX2_longestAlike_0 (by first | rfl | decide) ?_
  refine lv_istore_n (lv' := [(1, .int (zI 0)), (0, .ref (b 0))]) hx hb dX2_longestAlike_1 rfl hl (by decide) rfl (fun ls hl => ?_)
  refine lv_iconst (v := zI 1) hx hb dX2_longestAlike_2 (by first | rfl | decide) ?_
  refine lv_istore_n (lv' := [(2, .int (zI 1)), (1, .int (zI 0)), (0, .ref (b 0))]) hx hb dX2_longestAlike_3 rfl hl (by decide) rfl (fun ls hl => ?_)
  have loop4 : ∀ (nn : Nat) (k : Int) (mx : Int) (ls : Array Slot), (1 ≤ k ∧ (k ≤ len ∨ k = 1)) → (0 ≤ mx ∧ mx ≤ 1000000) → (mx = zit (stM al) (k - 1).toNat 0) → ((len - k).toNat) < nn → lv_has ls 3 [(0, .ref (b 0)), (1, .int (zI mx)), (2, .int (zI k))] → W p l e (headSpec wsX2_longestAlike ({ frames := 1, cells := 0, slots := 0, locals := 30 })).room s m ([.ref (b 0)] : List Value).toArray below meth c s.heap [] 0 0 (MQ below (zQi (fun r => r = zmx al len)) ([.ref (b 0)] : List Value).toArray s 0 0 (fun _ => False)) (F0 m 4 ls []) := by
    intro nn
    induction nn with
    | zero =>
      intros
      exact absurd (by assumption : _ < 0) (Nat.not_lt_zero _)
    | succ nn ih4 =>
      intro k mx ls h0 hm hq hmu hl
      refine lv_iload_n hx hb dX2_longestAlike_4 rfl (lv_at hl 2 rfl) ?_
      refine lv_aload_n hx hb dX2_longestAlike_5 rfl (lv_at hl 0 rfl) ?_
      refine va_get (D := D) (ci := 2) (v := .int (zI len)) (C := RX2) (T := TX2) (N := 12) hx hb hts inX2_longestAlike_X2 hown hK.1 hP 0 rfl rfl 7 (by decide) (hts (.fieldLink RX2 48 "TextEnds" "length" "I") (List.mem_of_getElem? (i := 1) rfl)) (fun _ h9 => h9) rfl dX2_longestAlike_6 ?_
      refine z_icmp_ge (tgt := 29) hx hb dX2_longestAlike_9 (by decide) (by omega) (by omega) (fun h_1 => ?_) (fun h_1 => ?_)
      · skip
        refine lv_iload_n hx hb dX2_longestAlike_29 rfl (lv_at hl 1 rfl) ?_
        exact W.iret (v := zI mx) hx hb hr (fun t ht_ hW_ => ⟨mx, rfl, by show _ = zmx al len; unfold zmx; rw [hq, show (k - 1).toNat = (len - 1).toNat by omega], ht_⟩) (fun q h => by cases h) dX2_longestAlike_30
      · skip
        have hk1 := hal k
        refine lv_iload_n hx hb dX2_longestAlike_12 rfl (lv_at hl 1 rfl) ?_
        refine lv_aload_n hx hb dX2_longestAlike_13 rfl (lv_at hl 0 rfl) ?_
        refine va_get (D := D) (ci := 2) (v := .ref (b 4)) (C := RX2) (T := TX2) (N := 12) hx hb hts inX2_longestAlike_X2 hown hK.1 hP 0 rfl rfl 6 (by decide) (hts (.fieldLink RX2 41 "TextEnds" "alike" "[I") (List.mem_of_getElem? (i := 2) rfl)) (fun _ h9 => h9) rfl dX2_longestAlike_14 ?_
        refine lv_iload_n hx hb dX2_longestAlike_17 rfl (lv_at hl 2 rfl) ?_
        refine z_iald hx hb hK.1 hP 1 0 rfl rfl dX2_longestAlike_18 (by omega) (by omega) (by omega) ?_
        refine va_mmax hx hb (hml.trans hl.1.symm) hown (hts (.methodLink RX2 114 Lib.Math.max.name) (List.mem_of_getElem? (i := 3) rfl)) (hts (.static Lib.Math.max.name) (List.mem_of_getElem? (i := 4) rfl)) (hts (.initialized "java/lang/Math") (List.mem_of_getElem? (i := 5) rfl)) (hts (.code Lib.Math.max.name Lib.Math.max.code 2 (some .int)) (List.mem_of_getElem? (i := 6) rfl)) (Nat.le_of_ble_eq_true rfl) (Nat.le_of_ble_eq_true rfl) (Nat.zero_le _) (Nat.zero_le _) dX2_longestAlike_19 ?_
        refine z_topx (b := zmax mx (al k)) (zmax_I (by omega) (by omega)) ?_
        refine lv_istore_n (lv' := [(1, .int (zI (zmax mx (al k)))), (0, .ref (b 0)), (2, .int (zI k))]) hx hb dX2_longestAlike_22 rfl hl (by decide) rfl (fun ls hl => ?_)
        refine lv_iinc (v := zI (k + 1)) (lv' := [(2, .int (zI (k + 1))), (1, .int (zI (zmax mx (al k)))), (0, .ref (b 0))]) hx hb dX2_longestAlike_23 hl (k := 2) rfl (zI_add _ _) (by decide) rfl (fun ls hl => ?_)
        refine lv_goto (tgt := 4) hx hb dX2_longestAlike_26 (by decide) ?_
        exact ih4 (k + 1) (zmax mx (al k)) ls (by omega) (by unfold zmax; have := hal k; split <;> omega) (stM_s hq h0.1) (by omega) (lv_sub hl [2, 1, 0] rfl)
  exact loop4 _ 1 0 ls (by omega) (by omega) (rfl) (Nat.lt_succ_self _) (lv_sub hl [2, 1, 0] rfl)
set_option maxHeartbeats 4000000 in
set_option maxRecDepth 100000 in
/-- repeated() -/
theorem kX2_repeated (l : Launch) (D : va_G) (cI cZ cL : ClassId) (b a : Nat → Nat) (sg len pl bt fh ht : Int) (nA : Nat) (al : Int → Int) (hlen : 0 ≤ len ∧ len ≤ 1000000) (hbt : bt = 0 ∨ bt = 1) (hlA : len ≤ (nA : Int)) (bnA : (nA : Int) < 1073741824) (hal : zS al) : Met l yX2_repeated wsX2_repeated ({ frames := 2, cells := 0, slots := 0, locals := 52 }) (zPr D cI cZ cL [.ref (b 0)] [(b 0, .inr (2, te b a sg len pl bt fh ht)), (b 4, .inl (cI, nA, .inl (zA al)))]) (zQi (fun r => r = zrp bt len al)) 0 0 (fun _ => False) := by
  refine Met.ofW (cc := cX2_repeated) (maxL := 1) (ret := (some .int)) (by decide) rfl ?_
  intro p e s m args below meth c s₁ B hml hv
  obtain ⟨rfl, hP, hK⟩ := hv
  have hx := B.exec
  have hb := B.bytes
  have hr := B.returns
  have hts := atoms_spec (ws := wsX2_repeated) B.pre
  have hown : s.vm.findClass RX2 = some m.cls := findClass_of_methodNamed B.named
  have hlocks := B.notSynchronized
  have hP : va_P D vwCl [(b 0, .inr (2, te b a sg len pl bt fh ht)), (b 4, .inl (cI, nA, .inl (zA al)))] s.heap := hP
  have hl := lv_entry ([.ref (b 0)]) (n := 1) (Nat.le_of_ble_eq_true rfl)
  rw [lg_entry_eq]
  generalize (lg_sl ([.ref (b 0)]) ++ List.replicate (1 - (lg_sl ([.ref (b 0)])).length) Slot.unset).toArray = ls at hl ⊢
  have hl : lv_has ls 1 [(0, .ref (b 0))] := hl
  refine lv_aload_n hx hb dX2_repeated_0 rfl (lv_at hl 0 rfl) ?_
  refine va_get (D := D) (ci := 2) (v := .int (zI bt)) (C := RX2) (T := TX2) (N := 12) hx hb hts inX2_repeated_X2 hown hK.1 hP 0 rfl rfl 9 (by decide) (hts (.fieldLink RX2 51 "TextEnds" "built" "Z") (List.mem_of_getElem? (i := 1) rfl)) (fun _ h9 => h9) rfl dX2_repeated_1 ?_
  refine z_if_eq (tgt := 14) hx hb dX2_repeated_4 (by decide) (by omega) (fun h_1 => ?_) (fun h_1 => ?_)
  · skip
    have hz := h_1
    refine lv_iconst (v := zI (-1)) hx hb dX2_repeated_14 (by first | rfl | decide) ?_
    exact W.iret (v := zI (-1)) hx hb hr (fun t ht_ hW_ => ⟨(-1), rfl, by show _ = zrp bt len al; unfold zrp; first | rw [if_pos hz] | rw [if_neg hz], ht_⟩) (fun q h => by cases h) dX2_repeated_15
  · skip
    have hz := h_1
    refine lv_aload_n hx hb dX2_repeated_7 rfl (lv_at hl 0 rfl) ?_
    refine z_cr (va_runV (As := []) (rest := []) ⟨hx, hb, hml, hown, hts⟩ (kX2_longestAlike l D cI cZ cL b a sg len pl bt fh ht nA al (by omega) (by omega) (by omega) (hal)) (cwV 0 hts gX2_repeated_X2_longestAlike rfl rfl rfl (by decide +kernel) ⟨Nat.le_of_ble_eq_true rfl, Nat.le_of_ble_eq_true rfl⟩) (zPr_preV (ci := 2) (q0 := 0) hK (hP.sub (ws' := [(b 0, .inr (2, te b a sg len pl bt fh ht)), (b 4, .inl (cI, nA, .inl (zA al)))]) [0, 1] rfl) rfl rfl) rfl rfl hl.1 rfl (lv_room (Nat.le_of_ble_eq_true rfl)) dX2_repeated_8 ⟨Nat.zero_le _, Nat.zero_le _⟩) (fun r hr_ => ?_)
    subst hr_
    refine lv_goto (tgt := 15) hx hb dX2_repeated_11 (by decide) ?_
    exact W.iret (v := zI (zmx al len)) hx hb hr (fun t ht_ hW_ => ⟨zmx al len, rfl, by show _ = zrp bt len al; unfold zrp; first | rw [if_pos hz] | rw [if_neg hz], ht_⟩) (fun q h => by cases h) dX2_repeated_15
set_option maxHeartbeats 4000000 in
set_option maxRecDepth 100000 in
/-- leastPlaceOf(longest) -/
theorem kX2_leastPlaceOf (l : Launch) (D : va_G) (cI cZ cL : ClassId) (b a : Nat → Nat) (sg len pl bt fh ht : Int) (nO nA : Nat) (od al : Int → Int) (lg : Int) (hlen : 0 ≤ len ∧ len ≤ 1000000) (hlO : len ≤ (nO : Int)) (bnO : (nO : Int) < 1073741824) (hlA : len ≤ (nA : Int)) (bnA : (nA : Int) < 1073741824) (hal : zS al) (hos : zS od) (hlg : zR lg) : Met l yX2_leastPlaceOf wsX2_leastPlaceOf ({ frames := 1, cells := 0, slots := 0, locals := 30 }) (zPr D cI cZ cL [.ref (b 0), .int (zI lg)] [(b 0, .inr (2, te b a sg len pl bt fh ht)), (a 2, .inl (cI, nO, .inl (zA od))), (b 4, .inl (cI, nA, .inl (zA al)))]) (zQi (fun r => r = zlp len nO al od lg)) 0 0 (fun _ => False) := by
  refine Met.ofW (cc := cX2_leastPlaceOf) (maxL := 4) (ret := (some .int)) (by decide) rfl ?_
  intro p e s m args below meth c s₁ B hml hv
  obtain ⟨rfl, hP, hK⟩ := hv
  have hx := B.exec
  have hb := B.bytes
  have hr := B.returns
  have hts := atoms_spec (ws := wsX2_leastPlaceOf) B.pre
  have hown : s.vm.findClass RX2 = some m.cls := findClass_of_methodNamed B.named
  have hlocks := B.notSynchronized
  have hP : va_P D vwCl [(b 0, .inr (2, te b a sg len pl bt fh ht)), (a 2, .inl (cI, nO, .inl (zA od))), (b 4, .inl (cI, nA, .inl (zA al)))] s.heap := hP
  have hl := lv_entry ([.ref (b 0), .int (zI lg)]) (n := 4) (Nat.le_of_ble_eq_true rfl)
  rw [lg_entry_eq]
  generalize (lg_sl ([.ref (b 0), .int (zI lg)]) ++ List.replicate (4 - (lg_sl ([.ref (b 0), .int (zI lg)])).length) Slot.unset).toArray = ls at hl ⊢
  have hl : lv_has ls 4 [(0, .ref (b 0)), (1, .int (zI lg))] := hl
  refine lv_iconst (v := zI 1) hx hb dX2_leastPlaceOf_0 (by first | rfl | decide) ?_
  refine lv_istore_n (lv' := [(2, .int (zI 1)), (0, .ref (b 0)), (1, .int (zI lg))]) hx hb dX2_leastPlaceOf_1 rfl hl (by decide) rfl (fun ls hl => ?_)
  have loop2 : ∀ (nn : Nat) (k : Int) (ls : Array Slot), (1 ≤ k ∧ (k ≤ len ∨ k = 1)) → (zfn al lg (len - k).toNat k = zfn al lg (len - 1).toNat 1) → ((len - k).toNat) < nn → lv_has ls 4 [(0, .ref (b 0)), (1, .int (zI lg)), (2, .int (zI k))] → W p l e (headSpec wsX2_leastPlaceOf ({ frames := 1, cells := 0, slots := 0, locals := 30 })).room s m ([.ref (b 0), .int (zI lg)] : List Value).toArray below meth c s.heap [] 0 0 (MQ below (zQi (fun r => r = zlp len nO al od lg)) ([.ref (b 0), .int (zI lg)] : List Value).toArray s 0 0 (fun _ => False)) (F0 m 2 ls []) := by
    intro nn
    induction nn with
    | zero =>
      intros
      exact absurd (by assumption : _ < 0) (Nat.not_lt_zero _)
    | succ nn ih2 =>
      intro k ls h0 hq hmu hl
      refine lv_iload_n hx hb dX2_leastPlaceOf_2 rfl (lv_at hl 2 rfl) ?_
      refine lv_aload_n hx hb dX2_leastPlaceOf_3 rfl (lv_at hl 0 rfl) ?_
      refine va_get (D := D) (ci := 2) (v := .int (zI len)) (C := RX2) (T := TX2) (N := 12) hx hb hts inX2_leastPlaceOf_X2 hown hK.1 hP 0 rfl rfl 7 (by decide) (hts (.fieldLink RX2 48 "TextEnds" "length" "I") (List.mem_of_getElem? (i := 1) rfl)) (fun _ h9 => h9) rfl dX2_leastPlaceOf_4 ?_
      refine z_icmp_ge (tgt := 26) hx hb dX2_leastPlaceOf_7 (by decide) (by omega) (by omega) (fun h_1 => ?_) (fun h_1 => ?_)
      · skip
        have hkk : zfn al lg (len - k).toNat k = k := by first | exact zfn_at (by with_reducible assumption) | exact zfn_0 (by omega)
        refine lv_aload_n hx hb dX2_leastPlaceOf_26 rfl (lv_at hl 0 rfl) ?_
        refine va_get (D := D) (ci := 2) (v := .ref (a 2)) (C := RX2) (T := TX2) (N := 12) hx hb hts inX2_leastPlaceOf_X2 hown hK.1 hP 0 rfl rfl 3 (by decide) (hts (.fieldLink RX2 34 "TextEnds" "order" "[I") (List.mem_of_getElem? (i := 3) rfl)) (fun _ h9 => h9) rfl dX2_leastPlaceOf_27 ?_
        refine lv_iload_n hx hb dX2_leastPlaceOf_30 rfl (lv_at hl 2 rfl) ?_
        refine lv_iconst (v := zI 1) hx hb dX2_leastPlaceOf_31 (by first | rfl | decide) ?_
        refine z_isub hx hb dX2_leastPlaceOf_32 ?_
        refine z_cr (va_runS (As := [.ref (a 2), .int (zI (k - 1))]) (rest := []) ⟨hx, hb, hml, hown, hts⟩ (kX2_at l D cI cZ cL (a 2) nO od (k - 1) (by omega) (by omega)) (va_cwS 2 hts gX2_leastPlaceOf_X2_at rfl rfl rfl (by decide +kernel) ⟨Nat.le_of_ble_eq_true rfl, Nat.le_of_ble_eq_true rfl⟩) (zPr_pre hK (hP.sub (ws' := [(a 2, .inl (cI, nO, .inl (zA od)))]) [1] rfl)) rfl rfl hl.1 rfl (lv_room (Nat.le_of_ble_eq_true rfl)) dX2_leastPlaceOf_33 ⟨Nat.zero_le _, Nat.zero_le _⟩) (fun r hr_ => ?_)
        subst hr_
        refine lv_istore_n (lv' := [(3, .int (zI (zat nO od (k - 1)))), (0, .ref (b 0)), (1, .int (zI lg)), (2, .int (zI k))]) hx hb dX2_leastPlaceOf_36 rfl hl (by decide) rfl (fun ls hl => ?_)
        have loop37 : ∀ (nn : Nat) (j : Int) (ls_ : Int) (ls : Array Slot), (1 ≤ j ∧ (j ≤ len ∨ j = 1)) → (-1000000 ≤ ls_ ∧ ls_ ≤ 1000000) → (zls al od lg (len - j).toNat j ls_ = zlp len nO al od lg) → ((len - j).toNat) < nn → lv_has ls 4 [(0, .ref (b 0)), (1, .int (zI lg)), (2, .int (zI j)), (3, .int (zI ls_))] → W p l e (headSpec wsX2_leastPlaceOf ({ frames := 1, cells := 0, slots := 0, locals := 30 })).room s m ([.ref (b 0), .int (zI lg)] : List Value).toArray below meth c s.heap [] 0 0 (MQ below (zQi (fun r => r = zlp len nO al od lg)) ([.ref (b 0), .int (zI lg)] : List Value).toArray s 0 0 (fun _ => False)) (F0 m 37 ls []) := by
          intro nn
          induction nn with
          | zero =>
            intros
            exact absurd (by assumption : _ < 0) (Nat.not_lt_zero _)
          | succ nn ih37 =>
            intro j ls_ ls g0 gl gq hmu hl
            refine lv_iload_n hx hb dX2_leastPlaceOf_37 rfl (lv_at hl 2 rfl) ?_
            refine lv_aload_n hx hb dX2_leastPlaceOf_38 rfl (lv_at hl 0 rfl) ?_
            refine va_get (D := D) (ci := 2) (v := .int (zI len)) (C := RX2) (T := TX2) (N := 12) hx hb hts inX2_leastPlaceOf_X2 hown hK.1 hP 0 rfl rfl 7 (by decide) (hts (.fieldLink RX2 48 "TextEnds" "length" "I") (List.mem_of_getElem? (i := 1) rfl)) (fun _ h9 => h9) rfl dX2_leastPlaceOf_39 ?_
            refine z_icmp_ge (tgt := 72) hx hb dX2_leastPlaceOf_42 (by decide) (by omega) (by omega) (fun h_2 => ?_) (fun h_2 => ?_)
            · skip
              refine lv_iload_n hx hb dX2_leastPlaceOf_72 rfl (lv_at hl 3 rfl) ?_
              exact W.iret (v := zI ls_) hx hb hr (fun t ht_ hW_ => ⟨ls_, rfl, by rw [← gq]; first | exact (zls_at (by with_reducible assumption)).symm | exact (zls_0 (by omega)).symm, ht_⟩) (fun q h => by cases h) dX2_leastPlaceOf_73
            · skip
              have hk2 := hal j
              have hk3 := hos j
              refine lv_aload_n hx hb dX2_leastPlaceOf_45 rfl (lv_at hl 0 rfl) ?_
              refine va_get (D := D) (ci := 2) (v := .ref (b 4)) (C := RX2) (T := TX2) (N := 12) hx hb hts inX2_leastPlaceOf_X2 hown hK.1 hP 0 rfl rfl 6 (by decide) (hts (.fieldLink RX2 41 "TextEnds" "alike" "[I") (List.mem_of_getElem? (i := 2) rfl)) (fun _ h9 => h9) rfl dX2_leastPlaceOf_46 ?_
              refine lv_iload_n hx hb dX2_leastPlaceOf_49 rfl (lv_at hl 2 rfl) ?_
              refine z_iald hx hb hK.1 hP 2 0 rfl rfl dX2_leastPlaceOf_50 (by omega) (by omega) (by omega) ?_
              refine lv_iload_n hx hb dX2_leastPlaceOf_51 rfl (lv_at hl 1 rfl) ?_
              refine z_icmp_ne (tgt := 72) hx hb dX2_leastPlaceOf_52 (by decide) (by omega) (by omega) (fun h_3 => ?_) (fun h_3 => ?_)
              · skip
                refine lv_iload_n hx hb dX2_leastPlaceOf_72 rfl (lv_at hl 3 rfl) ?_
                exact W.iret (v := zI ls_) hx hb hr (fun t ht_ hW_ => ⟨ls_, rfl, by rw [← gq]; first | exact (zls_at (by with_reducible assumption)).symm | exact (zls_0 (by omega)).symm, ht_⟩) (fun q h => by cases h) dX2_leastPlaceOf_73
              · skip
                refine lv_iload_n hx hb dX2_leastPlaceOf_55 rfl (lv_at hl 3 rfl) ?_
                refine lv_aload_n hx hb dX2_leastPlaceOf_56 rfl (lv_at hl 0 rfl) ?_
                refine va_get (D := D) (ci := 2) (v := .ref (a 2)) (C := RX2) (T := TX2) (N := 12) hx hb hts inX2_leastPlaceOf_X2 hown hK.1 hP 0 rfl rfl 3 (by decide) (hts (.fieldLink RX2 34 "TextEnds" "order" "[I") (List.mem_of_getElem? (i := 3) rfl)) (fun _ h9 => h9) rfl dX2_leastPlaceOf_57 ?_
                refine lv_iload_n hx hb dX2_leastPlaceOf_60 rfl (lv_at hl 2 rfl) ?_
                refine z_iald hx hb hK.1 hP 1 0 rfl rfl dX2_leastPlaceOf_61 (by omega) (by omega) (by omega) ?_
                refine va_mmin hx hb (hml.trans hl.1.symm) hown (hts (.methodLink RX2 109 Lib.Math.min.name) (List.mem_of_getElem? (i := 4) rfl)) (hts (.static Lib.Math.min.name) (List.mem_of_getElem? (i := 5) rfl)) (hts (.initialized "java/lang/Math") (List.mem_of_getElem? (i := 6) rfl)) (hts (.code Lib.Math.min.name Lib.Math.min.code 2 (some .int)) (List.mem_of_getElem? (i := 7) rfl)) (Nat.le_of_ble_eq_true rfl) (Nat.le_of_ble_eq_true rfl) (Nat.zero_le _) (Nat.zero_le _) dX2_leastPlaceOf_62 ?_
                refine z_topx (b := zmin ls_ (od j)) (zmin_I (by omega) (by omega)) ?_
                refine lv_istore_n (lv' := [(3, .int (zI (zmin ls_ (od j)))), (0, .ref (b 0)), (1, .int (zI lg)), (2, .int (zI j))]) hx hb dX2_leastPlaceOf_65 rfl hl (by decide) rfl (fun ls hl => ?_)
                refine lv_iinc (v := zI (j + 1)) (lv' := [(2, .int (zI (j + 1))), (3, .int (zI (zmin ls_ (od j)))), (0, .ref (b 0)), (1, .int (zI lg))]) hx hb dX2_leastPlaceOf_66 hl (k := 3) rfl (zI_add _ _) (by decide) rfl (fun ls hl => ?_)
                refine lv_goto (tgt := 37) hx hb dX2_leastPlaceOf_69 (by decide) ?_
                exact ih37 (j + 1) (zmin ls_ (od j)) ls (by omega) (by have := hos j; have := zmin_or (a := ls_) (b := od j); omega) (by rw [← gq, show (len - j).toNat = (len - (j + 1)).toNat + 1 by omega, zls_nx (by with_reducible assumption)]) (by omega) (lv_sub hl [2, 3, 0, 1] rfl)
        exact loop37 _ k (zat nO od (k - 1)) ls (by omega) (zat_S hos _ _) (by unfold zlp; rw [← hq, hkk]) (Nat.lt_succ_self _) (lv_sub hl [1, 2, 3, 0] rfl)
      · skip
        have hk1 := hal k
        refine lv_aload_n hx hb dX2_leastPlaceOf_10 rfl (lv_at hl 0 rfl) ?_
        refine va_get (D := D) (ci := 2) (v := .ref (b 4)) (C := RX2) (T := TX2) (N := 12) hx hb hts inX2_leastPlaceOf_X2 hown hK.1 hP 0 rfl rfl 6 (by decide) (hts (.fieldLink RX2 41 "TextEnds" "alike" "[I") (List.mem_of_getElem? (i := 2) rfl)) (fun _ h9 => h9) rfl dX2_leastPlaceOf_11 ?_
        refine lv_iload_n hx hb dX2_leastPlaceOf_14 rfl (lv_at hl 2 rfl) ?_
        refine z_iald hx hb hK.1 hP 2 0 rfl rfl dX2_leastPlaceOf_15 (by omega) (by omega) (by omega) ?_
        refine lv_iload_n hx hb dX2_leastPlaceOf_16 rfl (lv_at hl 1 rfl) ?_
        refine z_icmp_eq (tgt := 26) hx hb dX2_leastPlaceOf_17 (by decide) (by omega) (by omega) (fun h_4 => ?_) (fun h_4 => ?_)
        · skip
          have hkk : zfn al lg (len - k).toNat k = k := by first | exact zfn_at (by with_reducible assumption) | exact zfn_0 (by omega)
          refine lv_aload_n hx hb dX2_leastPlaceOf_26 rfl (lv_at hl 0 rfl) ?_
          refine va_get (D := D) (ci := 2) (v := .ref (a 2)) (C := RX2) (T := TX2) (N := 12) hx hb hts inX2_leastPlaceOf_X2 hown hK.1 hP 0 rfl rfl 3 (by decide) (hts (.fieldLink RX2 34 "TextEnds" "order" "[I") (List.mem_of_getElem? (i := 3) rfl)) (fun _ h9 => h9) rfl dX2_leastPlaceOf_27 ?_
          refine lv_iload_n hx hb dX2_leastPlaceOf_30 rfl (lv_at hl 2 rfl) ?_
          refine lv_iconst (v := zI 1) hx hb dX2_leastPlaceOf_31 (by first | rfl | decide) ?_
          refine z_isub hx hb dX2_leastPlaceOf_32 ?_
          refine z_cr (va_runS (As := [.ref (a 2), .int (zI (k - 1))]) (rest := []) ⟨hx, hb, hml, hown, hts⟩ (kX2_at l D cI cZ cL (a 2) nO od (k - 1) (by omega) (by omega)) (va_cwS 2 hts gX2_leastPlaceOf_X2_at rfl rfl rfl (by decide +kernel) ⟨Nat.le_of_ble_eq_true rfl, Nat.le_of_ble_eq_true rfl⟩) (zPr_pre hK (hP.sub (ws' := [(a 2, .inl (cI, nO, .inl (zA od)))]) [1] rfl)) rfl rfl hl.1 rfl (lv_room (Nat.le_of_ble_eq_true rfl)) dX2_leastPlaceOf_33 ⟨Nat.zero_le _, Nat.zero_le _⟩) (fun r hr_ => ?_)
          subst hr_
          refine lv_istore_n (lv' := [(3, .int (zI (zat nO od (k - 1)))), (0, .ref (b 0)), (1, .int (zI lg)), (2, .int (zI k))]) hx hb dX2_leastPlaceOf_36 rfl hl (by decide) rfl (fun ls hl => ?_)
          have loop37 : ∀ (nn : Nat) (j : Int) (ls_ : Int) (ls : Array Slot), (1 ≤ j ∧ (j ≤ len ∨ j = 1)) → (-1000000 ≤ ls_ ∧ ls_ ≤ 1000000) → (zls al od lg (len - j).toNat j ls_ = zlp len nO al od lg) → ((len - j).toNat) < nn → lv_has ls 4 [(0, .ref (b 0)), (1, .int (zI lg)), (2, .int (zI j)), (3, .int (zI ls_))] → W p l e (headSpec wsX2_leastPlaceOf ({ frames := 1, cells := 0, slots := 0, locals := 30 })).room s m ([.ref (b 0), .int (zI lg)] : List Value).toArray below meth c s.heap [] 0 0 (MQ below (zQi (fun r => r = zlp len nO al od lg)) ([.ref (b 0), .int (zI lg)] : List Value).toArray s 0 0 (fun _ => False)) (F0 m 37 ls []) := by
            intro nn
            induction nn with
            | zero =>
              intros
              exact absurd (by assumption : _ < 0) (Nat.not_lt_zero _)
            | succ nn ih37 =>
              intro j ls_ ls g0 gl gq hmu hl
              refine lv_iload_n hx hb dX2_leastPlaceOf_37 rfl (lv_at hl 2 rfl) ?_
              refine lv_aload_n hx hb dX2_leastPlaceOf_38 rfl (lv_at hl 0 rfl) ?_
              refine va_get (D := D) (ci := 2) (v := .int (zI len)) (C := RX2) (T := TX2) (N := 12) hx hb hts inX2_leastPlaceOf_X2 hown hK.1 hP 0 rfl rfl 7 (by decide) (hts (.fieldLink RX2 48 "TextEnds" "length" "I") (List.mem_of_getElem? (i := 1) rfl)) (fun _ h9 => h9) rfl dX2_leastPlaceOf_39 ?_
              refine z_icmp_ge (tgt := 72) hx hb dX2_leastPlaceOf_42 (by decide) (by omega) (by omega) (fun h_5 => ?_) (fun h_5 => ?_)
              · skip
                refine lv_iload_n hx hb dX2_leastPlaceOf_72 rfl (lv_at hl 3 rfl) ?_
                exact W.iret (v := zI ls_) hx hb hr (fun t ht_ hW_ => ⟨ls_, rfl, by rw [← gq]; first | exact (zls_at (by with_reducible assumption)).symm | exact (zls_0 (by omega)).symm, ht_⟩) (fun q h => by cases h) dX2_leastPlaceOf_73
              · skip
                have hk2 := hal j
                have hk3 := hos j
                refine lv_aload_n hx hb dX2_leastPlaceOf_45 rfl (lv_at hl 0 rfl) ?_
                refine va_get (D := D) (ci := 2) (v := .ref (b 4)) (C := RX2) (T := TX2) (N := 12) hx hb hts inX2_leastPlaceOf_X2 hown hK.1 hP 0 rfl rfl 6 (by decide) (hts (.fieldLink RX2 41 "TextEnds" "alike" "[I") (List.mem_of_getElem? (i := 2) rfl)) (fun _ h9 => h9) rfl dX2_leastPlaceOf_46 ?_
                refine lv_iload_n hx hb dX2_leastPlaceOf_49 rfl (lv_at hl 2 rfl) ?_
                refine z_iald hx hb hK.1 hP 2 0 rfl rfl dX2_leastPlaceOf_50 (by omega) (by omega) (by omega) ?_
                refine lv_iload_n hx hb dX2_leastPlaceOf_51 rfl (lv_at hl 1 rfl) ?_
                refine z_icmp_ne (tgt := 72) hx hb dX2_leastPlaceOf_52 (by decide) (by omega) (by omega) (fun h_6 => ?_) (fun h_6 => ?_)
                · skip
                  refine lv_iload_n hx hb dX2_leastPlaceOf_72 rfl (lv_at hl 3 rfl) ?_
                  exact W.iret (v := zI ls_) hx hb hr (fun t ht_ hW_ => ⟨ls_, rfl, by rw [← gq]; first | exact (zls_at (by with_reducible assumption)).symm | exact (zls_0 (by omega)).symm, ht_⟩) (fun q h => by cases h) dX2_leastPlaceOf_73
                · skip
                  refine lv_iload_n hx hb dX2_leastPlaceOf_55 rfl (lv_at hl 3 rfl) ?_
                  refine lv_aload_n hx hb dX2_leastPlaceOf_56 rfl (lv_at hl 0 rfl) ?_
                  refine va_get (D := D) (ci := 2) (v := .ref (a 2)) (C := RX2) (T := TX2) (N := 12) hx hb hts inX2_leastPlaceOf_X2 hown hK.1 hP 0 rfl rfl 3 (by decide) (hts (.fieldLink RX2 34 "TextEnds" "order" "[I") (List.mem_of_getElem? (i := 3) rfl)) (fun _ h9 => h9) rfl dX2_leastPlaceOf_57 ?_
                  refine lv_iload_n hx hb dX2_leastPlaceOf_60 rfl (lv_at hl 2 rfl) ?_
                  refine z_iald hx hb hK.1 hP 1 0 rfl rfl dX2_leastPlaceOf_61 (by omega) (by omega) (by omega) ?_
                  refine va_mmin hx hb (hml.trans hl.1.symm) hown (hts (.methodLink RX2 109 Lib.Math.min.name) (List.mem_of_getElem? (i := 4) rfl)) (hts (.static Lib.Math.min.name) (List.mem_of_getElem? (i := 5) rfl)) (hts (.initialized "java/lang/Math") (List.mem_of_getElem? (i := 6) rfl)) (hts (.code Lib.Math.min.name Lib.Math.min.code 2 (some .int)) (List.mem_of_getElem? (i := 7) rfl)) (Nat.le_of_ble_eq_true rfl) (Nat.le_of_ble_eq_true rfl) (Nat.zero_le _) (Nat.zero_le _) dX2_leastPlaceOf_62 ?_
                  refine z_topx (b := zmin ls_ (od j)) (zmin_I (by omega) (by omega)) ?_
                  refine lv_istore_n (lv' := [(3, .int (zI (zmin ls_ (od j)))), (0, .ref (b 0)), (1, .int (zI lg)), (2, .int (zI j))]) hx hb dX2_leastPlaceOf_65 rfl hl (by decide) rfl (fun ls hl => ?_)
                  refine lv_iinc (v := zI (j + 1)) (lv' := [(2, .int (zI (j + 1))), (3, .int (zI (zmin ls_ (od j)))), (0, .ref (b 0)), (1, .int (zI lg))]) hx hb dX2_leastPlaceOf_66 hl (k := 3) rfl (zI_add _ _) (by decide) rfl (fun ls hl => ?_)
                  refine lv_goto (tgt := 37) hx hb dX2_leastPlaceOf_69 (by decide) ?_
                  exact ih37 (j + 1) (zmin ls_ (od j)) ls (by omega) (by have := hos j; have := zmin_or (a := ls_) (b := od j); omega) (by rw [← gq, show (len - j).toNat = (len - (j + 1)).toNat + 1 by omega, zls_nx (by with_reducible assumption)]) (by omega) (lv_sub hl [2, 3, 0, 1] rfl)
          exact loop37 _ k (zat nO od (k - 1)) ls (by omega) (zat_S hos _ _) (by unfold zlp; rw [← hq, hkk]) (Nat.lt_succ_self _) (lv_sub hl [1, 2, 3, 0] rfl)
        · skip
          refine lv_iinc (v := zI (k + 1)) (lv' := [(2, .int (zI (k + 1))), (0, .ref (b 0)), (1, .int (zI lg))]) hx hb dX2_leastPlaceOf_20 hl (k := 2) rfl (zI_add _ _) (by decide) rfl (fun ls hl => ?_)
          refine lv_goto (tgt := 2) hx hb dX2_leastPlaceOf_23 (by decide) ?_
          exact ih2 (k + 1) ls (by omega) (by rw [← hq, show (len - k).toNat = (len - (k + 1)).toNat + 1 by omega, zfn_nx (by with_reducible assumption)]) (by omega) (lv_sub hl [1, 2, 0] rfl)
  exact loop2 _ 1 ls (by omega) (rfl) (Nat.lt_succ_self _) (lv_sub hl [1, 2, 0] rfl)
set_option maxHeartbeats 4000000 in
set_option maxRecDepth 100000 in
/-- repeatedAt() -/
theorem kX2_repeatedAt (l : Launch) (D : va_G) (cI cZ cL : ClassId) (b a : Nat → Nat) (sg len pl bt fh ht : Int) (nO nA : Nat) (od al : Int → Int) (hlen : 0 ≤ len ∧ len ≤ 1000000) (hbt : bt = 0 ∨ bt = 1) (hlO : len ≤ (nO : Int)) (bnO : (nO : Int) < 1073741824) (hlA : len ≤ (nA : Int)) (bnA : (nA : Int) < 1073741824) (hal : zS al) (hos : zS od) (hmx : zR (zmx al len)) : Met l yX2_repeatedAt wsX2_repeatedAt ({ frames := 2, cells := 0, slots := 0, locals := 53 }) (zPr D cI cZ cL [.ref (b 0)] [(b 0, .inr (2, te b a sg len pl bt fh ht)), (a 2, .inl (cI, nO, .inl (zA od))), (b 4, .inl (cI, nA, .inl (zA al)))]) (zQi (fun r => r = zra2 bt len nO al od)) 0 0 (fun _ => False) := by
  refine Met.ofW (cc := cX2_repeatedAt) (maxL := 2) (ret := (some .int)) (by decide) rfl ?_
  intro p e s m args below meth c s₁ B hml hv
  obtain ⟨rfl, hP, hK⟩ := hv
  have hx := B.exec
  have hb := B.bytes
  have hr := B.returns
  have hts := atoms_spec (ws := wsX2_repeatedAt) B.pre
  have hown : s.vm.findClass RX2 = some m.cls := findClass_of_methodNamed B.named
  have hlocks := B.notSynchronized
  have hP : va_P D vwCl [(b 0, .inr (2, te b a sg len pl bt fh ht)), (a 2, .inl (cI, nO, .inl (zA od))), (b 4, .inl (cI, nA, .inl (zA al)))] s.heap := hP
  have hl := lv_entry ([.ref (b 0)]) (n := 2) (Nat.le_of_ble_eq_true rfl)
  rw [lg_entry_eq]
  generalize (lg_sl ([.ref (b 0)]) ++ List.replicate (2 - (lg_sl ([.ref (b 0)])).length) Slot.unset).toArray = ls at hl ⊢
  have hl : lv_has ls 2 [(0, .ref (b 0))] := hl
  refine lv_aload_n hx hb dX2_repeatedAt_0 rfl (lv_at hl 0 rfl) ?_
  refine va_get (D := D) (ci := 2) (v := .int (zI bt)) (C := RX2) (T := TX2) (N := 12) hx hb hts inX2_repeatedAt_X2 hown hK.1 hP 0 rfl rfl 9 (by decide) (hts (.fieldLink RX2 51 "TextEnds" "built" "Z") (List.mem_of_getElem? (i := 1) rfl)) (fun _ h9 => h9) rfl dX2_repeatedAt_1 ?_
  refine z_if_eq (tgt := 14) hx hb dX2_repeatedAt_4 (by decide) (by omega) (fun h_1 => ?_) (fun h_1 => ?_)
  · skip
    have hz := h_1
    refine lv_iconst (v := zI 0) hx hb dX2_repeatedAt_14 (by first | rfl | decide) ?_
    refine lv_istore_n (lv' := [(1, .int (zI 0)), (0, .ref (b 0))]) hx hb dX2_repeatedAt_15 rfl hl (by decide) rfl (fun ls hl => ?_)
    refine lv_iload_n hx hb dX2_repeatedAt_16 rfl (lv_at hl 0 rfl) ?_
    refine z_if_le (tgt := 28) hx hb dX2_repeatedAt_17 (by decide) (by omega) (fun h_2 => ?_) (fun h_2 => ?_)
    · skip
      refine lv_iconst (v := zI (-1)) hx hb dX2_repeatedAt_28 (by first | rfl | decide) ?_
      exact W.iret (v := zI (-1)) hx hb hr (fun t ht_ hW_ => ⟨(-1), rfl, by show _ = zra2 bt len nO al od; unfold zra2; first | rw [if_pos (Or.inl hz)] | rw [if_pos (by omega)] | rw [if_neg (by omega)], ht_⟩) (fun q h => by cases h) dX2_repeatedAt_29
    · skip
      exact absurd h_2 (by decide)
  · skip
    have hz := h_1
    refine lv_aload_n hx hb dX2_repeatedAt_7 rfl (lv_at hl 0 rfl) ?_
    refine z_cr (va_runV (As := []) (rest := []) ⟨hx, hb, hml, hown, hts⟩ (kX2_longestAlike l D cI cZ cL b a sg len pl bt fh ht nA al (by omega) (by omega) (by omega) (hal)) (cwV 0 hts gX2_repeatedAt_X2_longestAlike rfl rfl rfl (by decide +kernel) ⟨Nat.le_of_ble_eq_true rfl, Nat.le_of_ble_eq_true rfl⟩) (zPr_preV (ci := 2) (q0 := 0) hK (hP.sub (ws' := [(b 0, .inr (2, te b a sg len pl bt fh ht)), (b 4, .inl (cI, nA, .inl (zA al)))]) [0, 2] rfl) rfl rfl) rfl rfl hl.1 rfl (lv_room (Nat.le_of_ble_eq_true rfl)) dX2_repeatedAt_8 ⟨Nat.zero_le _, Nat.zero_le _⟩) (fun r hr_ => ?_)
    subst hr_
    refine lv_goto (tgt := 15) hx hb dX2_repeatedAt_11 (by decide) ?_
    refine lv_istore_n (lv' := [(1, .int (zI (zmx al len))), (0, .ref (b 0))]) hx hb dX2_repeatedAt_15 rfl hl (by decide) rfl (fun ls hl => ?_)
    refine lv_iload_n hx hb dX2_repeatedAt_16 rfl (lv_at hl 0 rfl) ?_
    refine z_if_le (tgt := 28) hx hb dX2_repeatedAt_17 (by decide) (by omega) (fun h_3 => ?_) (fun h_3 => ?_)
    · skip
      refine lv_iconst (v := zI (-1)) hx hb dX2_repeatedAt_28 (by first | rfl | decide) ?_
      exact W.iret (v := zI (-1)) hx hb hr (fun t ht_ hW_ => ⟨(-1), rfl, by show _ = zra2 bt len nO al od; unfold zra2; first | rw [if_pos (Or.inl hz)] | rw [if_pos (by omega)] | rw [if_neg (by omega)], ht_⟩) (fun q h => by cases h) dX2_repeatedAt_29
    · skip
      refine lv_aload_n hx hb dX2_repeatedAt_20 rfl (lv_at hl 1 rfl) ?_
      refine lv_iload_n hx hb dX2_repeatedAt_21 rfl (lv_at hl 0 rfl) ?_
      refine z_cr (va_runV (As := [.int (zI (zmx al len))]) (rest := []) ⟨hx, hb, hml, hown, hts⟩ (kX2_leastPlaceOf l D cI cZ cL b a sg len pl bt fh ht nO nA od al (zmx al len) (by omega) (by omega) (by omega) (by omega) (by omega) (hal) (hos) (by omega)) (cwV 1 hts gX2_repeatedAt_X2_leastPlaceOf rfl rfl rfl (by decide +kernel) ⟨Nat.le_of_ble_eq_true rfl, Nat.le_of_ble_eq_true rfl⟩) (zPr_preV (ci := 2) (q0 := 0) hK (hP.sub (ws' := [(b 0, .inr (2, te b a sg len pl bt fh ht)), (a 2, .inl (cI, nO, .inl (zA od))), (b 4, .inl (cI, nA, .inl (zA al)))]) [0, 1, 2] rfl) rfl rfl) rfl rfl hl.1 rfl (lv_room (Nat.le_of_ble_eq_true rfl)) dX2_repeatedAt_22 ⟨Nat.zero_le _, Nat.zero_le _⟩) (fun r hr_ => ?_)
      subst hr_
      refine lv_goto (tgt := 29) hx hb dX2_repeatedAt_25 (by decide) ?_
      exact W.iret (v := zI (zlp len nO al od (zmx al len))) hx hb hr (fun t ht_ hW_ => ⟨zlp len nO al od (zmx al len), rfl, by show _ = zra2 bt len nO al od; unfold zra2; first | rw [if_pos (Or.inl hz)] | rw [if_pos (by omega)] | rw [if_neg (by omega)], ht_⟩) (fun q h => by cases h) dX2_repeatedAt_29
set_option maxHeartbeats 4000000 in
set_option maxRecDepth 100000 in
/-- different() -/
theorem kX2_different (l : Launch) (D : va_G) (cI cZ cL : ClassId) (b a : Nat → Nat) (sg len pl bt fh ht : Int) (nO nA : Nat) (od al : Int → Int) (hlen : 0 ≤ len ∧ len ≤ 1000000) (hbt : bt = 0 ∨ bt = 1) (hlO : len ≤ (nO : Int)) (bnO : (nO : Int) < 1073741824) (hlA : len ≤ (nA : Int)) (bnA : (nA : Int) < 1073741824) : Met l yX2_different wsX2_different ({ frames := 0, cells := 0, slots := 0, locals := 0 }) (zPr D cI cZ cL [.ref (b 0)] [(b 0, .inr (2, te b a sg len pl bt fh ht)), (a 2, .inl (cI, nO, .inl (zA od))), (b 4, .inl (cI, nA, .inl (zA al)))]) (zQi (fun r => r = zdf bt len (fun i => len - od i - al i))) 0 0 (fun _ => False) := by
  refine Met.ofW (cc := cX2_different) (maxL := 3) (ret := (some .int)) (by decide) rfl ?_
  intro p e s m args below meth c s₁ B hml hv
  obtain ⟨rfl, hP, hK⟩ := hv
  have hx := B.exec
  have hb := B.bytes
  have hr := B.returns
  have hts := atoms_spec (ws := wsX2_different) B.pre
  have hown : s.vm.findClass RX2 = some m.cls := findClass_of_methodNamed B.named
  have hlocks := B.notSynchronized
  have hP : va_P D vwCl [(b 0, .inr (2, te b a sg len pl bt fh ht)), (a 2, .inl (cI, nO, .inl (zA od))), (b 4, .inl (cI, nA, .inl (zA al)))] s.heap := hP
  have hl := lv_entry ([.ref (b 0)]) (n := 3) (Nat.le_of_ble_eq_true rfl)
  rw [lg_entry_eq]
  generalize (lg_sl ([.ref (b 0)]) ++ List.replicate (3 - (lg_sl ([.ref (b 0)])).length) Slot.unset).toArray = ls at hl ⊢
  have hl : lv_has ls 3 [(0, .ref (b 0))] := hl
  refine lv_aload_n hx hb dX2_different_0 rfl (lv_at hl 0 rfl) ?_
  refine va_get (D := D) (ci := 2) (v := .int (zI bt)) (C := RX2) (T := TX2) (N := 12) hx hb hts inX2_different_X2 hown hK.1 hP 0 rfl rfl 9 (by decide) (hts (.fieldLink RX2 51 "TextEnds" "built" "Z") (List.mem_of_getElem? (i := 1) rfl)) (fun _ h9 => h9) rfl dX2_different_1 ?_
  refine z_if_ne (tgt := 9) hx hb dX2_different_4 (by decide) (by omega) (fun h_1 => ?_) (fun h_1 => ?_)
  · skip
    have hz := h_1
    refine lv_iconst (v := zI 0) hx hb dX2_different_9 (by first | rfl | decide) ?_
    refine lv_istore_n (lv' := [(1, .int (zI 0)), (0, .ref (b 0))]) hx hb dX2_different_10 rfl hl (by decide) rfl (fun ls hl => ?_)
    refine lv_iconst (v := zI 0) hx hb dX2_different_11 (by first | rfl | decide) ?_
    refine lv_istore_n (lv' := [(2, .int (zI 0)), (1, .int (zI 0)), (0, .ref (b 0))]) hx hb dX2_different_12 rfl hl (by decide) rfl (fun ls hl => ?_)
    have loop13 : ∀ (nn : Nat) (k : Int) (mx : Int) (ls : Array Slot), (0 ≤ k ∧ k ≤ len) → (mx = zit (stD (fun i => len - od i - al i)) k.toNat 0) → ((len - k).toNat) < nn → lv_has ls 3 [(0, .ref (b 0)), (1, .int (zI mx)), (2, .int (zI k))] → W p l e (headSpec wsX2_different ({ frames := 0, cells := 0, slots := 0, locals := 0 })).room s m ([.ref (b 0)] : List Value).toArray below meth c s.heap [] 0 0 (MQ below (zQi (fun r => r = zdf bt len (fun i => len - od i - al i))) ([.ref (b 0)] : List Value).toArray s 0 0 (fun _ => False)) (F0 m 13 ls []) := by
      intro nn
      induction nn with
      | zero =>
        intros
        exact absurd (by assumption : _ < 0) (Nat.not_lt_zero _)
      | succ nn ih13 =>
        intro k mx ls h0 hq hmu hl
        refine lv_iload_n hx hb dX2_different_13 rfl (lv_at hl 2 rfl) ?_
        refine lv_aload_n hx hb dX2_different_14 rfl (lv_at hl 0 rfl) ?_
        refine va_get (D := D) (ci := 2) (v := .int (zI len)) (C := RX2) (T := TX2) (N := 12) hx hb hts inX2_different_X2 hown hK.1 hP 0 rfl rfl 7 (by decide) (hts (.fieldLink RX2 48 "TextEnds" "length" "I") (List.mem_of_getElem? (i := 2) rfl)) (fun _ h9 => h9) rfl dX2_different_15 ?_
        refine z_icmp_ge (tgt := 48) hx hb dX2_different_18 (by decide) (by omega) (by omega) (fun h_2 => ?_) (fun h_2 => ?_)
        · skip
          refine lv_iload_n hx hb dX2_different_48 rfl (lv_at hl 1 rfl) ?_
          exact W.iret (v := zI mx) hx hb hr (fun t ht_ hW_ => ⟨mx, rfl, by show _ = zdf bt len (fun i => len - od i - al i); unfold zdf; rw [if_neg hz, hq, show k = len by omega], ht_⟩) (fun q h => by cases h) dX2_different_49
        · skip
          refine lv_iload_n hx hb dX2_different_21 rfl (lv_at hl 1 rfl) ?_
          refine lv_aload_n hx hb dX2_different_22 rfl (lv_at hl 0 rfl) ?_
          refine va_get (D := D) (ci := 2) (v := .int (zI len)) (C := RX2) (T := TX2) (N := 12) hx hb hts inX2_different_X2 hown hK.1 hP 0 rfl rfl 7 (by decide) (hts (.fieldLink RX2 48 "TextEnds" "length" "I") (List.mem_of_getElem? (i := 2) rfl)) (fun _ h9 => h9) rfl dX2_different_23 ?_
          refine lv_aload_n hx hb dX2_different_26 rfl (lv_at hl 0 rfl) ?_
          refine va_get (D := D) (ci := 2) (v := .ref (a 2)) (C := RX2) (T := TX2) (N := 12) hx hb hts inX2_different_X2 hown hK.1 hP 0 rfl rfl 3 (by decide) (hts (.fieldLink RX2 34 "TextEnds" "order" "[I") (List.mem_of_getElem? (i := 3) rfl)) (fun _ h9 => h9) rfl dX2_different_27 ?_
          refine lv_iload_n hx hb dX2_different_30 rfl (lv_at hl 2 rfl) ?_
          refine z_iald hx hb hK.1 hP 1 0 rfl rfl dX2_different_31 (by omega) (by omega) (by omega) ?_
          refine z_isub hx hb dX2_different_32 ?_
          refine lv_aload_n hx hb dX2_different_33 rfl (lv_at hl 0 rfl) ?_
          refine va_get (D := D) (ci := 2) (v := .ref (b 4)) (C := RX2) (T := TX2) (N := 12) hx hb hts inX2_different_X2 hown hK.1 hP 0 rfl rfl 6 (by decide) (hts (.fieldLink RX2 41 "TextEnds" "alike" "[I") (List.mem_of_getElem? (i := 4) rfl)) (fun _ h9 => h9) rfl dX2_different_34 ?_
          refine lv_iload_n hx hb dX2_different_37 rfl (lv_at hl 2 rfl) ?_
          refine z_iald hx hb hK.1 hP 2 0 rfl rfl dX2_different_38 (by omega) (by omega) (by omega) ?_
          refine z_isub hx hb dX2_different_39 ?_
          refine z_iadd hx hb dX2_different_40 ?_
          refine lv_istore_n (lv' := [(1, .int (zI (mx + ((len - (od k)) - (al k))))), (0, .ref (b 0)), (2, .int (zI k))]) hx hb dX2_different_41 rfl hl (by decide) rfl (fun ls hl => ?_)
          refine lv_iinc (v := zI (k + 1)) (lv' := [(2, .int (zI (k + 1))), (1, .int (zI (mx + ((len - (od k)) - (al k))))), (0, .ref (b 0))]) hx hb dX2_different_42 hl (k := 2) rfl (zI_add _ _) (by decide) rfl (fun ls hl => ?_)
          refine lv_goto (tgt := 13) hx hb dX2_different_45 (by decide) ?_
          exact ih13 (k + 1) (mx + ((len - (od k)) - (al k))) ls (by omega) (stD_s hq h0.1 rfl) (by omega) (lv_sub hl [2, 1, 0] rfl)
    exact loop13 _ 0 0 ls (by omega) (rfl) (Nat.lt_succ_self _) (lv_sub hl [2, 1, 0] rfl)
  · skip
    have hz := h_1
    refine lv_iconst (v := zI (-1)) hx hb dX2_different_7 (by first | rfl | decide) ?_
    exact W.iret (v := zI (-1)) hx hb hr (fun t ht_ hW_ => ⟨(-1), rfl, by show _ = zdf bt len (fun i => len - od i - al i); unfold zdf; rw [if_pos hz], ht_⟩) (fun q h => by cases h) dX2_different_8
set_option maxHeartbeats 4000000 in
set_option maxRecDepth 100000 in
/-- noteStanding() -/
theorem kX2_noteStanding (l : Launch) (D : va_G) (cI cZ cL : ClassId) (b a : Nat → Nat) (sg len pl bt fh ht : Int) (nO nS : Nat) (od sd : Int → Int) (szz : Nat) (hlen : 0 ≤ len ∧ len ≤ 1000000) (hlO : len ≤ (nO : Int)) (bnO : (nO : Int) < 1073741824) (bnS : (nS : Int) < 1073741824) (hos : zS od) : Met l yX2_noteStanding wsX2_noteStanding ({ frames := 1, cells := 0, slots := 0, locals := 22 }) (zPw D cI cZ cL szz [.ref (b 0)] [(b 0, .inr (2, te b a sg len pl bt fh ht)), (a 2, .inl (cI, nO, .inl (zA od))), (b 3, .inl (cI, nS, .inl (zA sd)))]) (zQw D (va_A [(b 0, .inr (2, te b a sg len pl bt fh ht)), (a 2, .inl (cI, nO, .inl (zA od))), (b 3, .inl (cI, nS, .inl (zA sd)))] szz) (fun _ : Unit => True) (fun _ : Unit => [(b 0, .inr (2, te b a sg len pl bt fh ht)), (a 2, .inl (cI, nO, .inl (zA od))), (b 3, .inl (cI, nS, .inl (zA (zit (stK nS od) len.toNat sd))))])) 0 0 (va_A [(b 0, .inr (2, te b a sg len pl bt fh ht)), (a 2, .inl (cI, nO, .inl (zA od))), (b 3, .inl (cI, nS, .inl (zA sd)))] szz) := by
  refine Met.ofW (cc := cX2_noteStanding) (maxL := 2) (ret := none) (by decide) rfl ?_
  intro p e s m args below meth c s₁ B hml hv
  obtain ⟨rfl, hsz, hP, hK, hD0⟩ := hv
  have hx := B.exec
  have hb := B.bytes
  have hr := B.returns
  have hts := atoms_spec (ws := wsX2_noteStanding) B.pre
  have hown : s.vm.findClass RX2 = some m.cls := findClass_of_methodNamed B.named
  have hlocks := B.notSynchronized
  subst hsz
  have hD := hD0.self (sz := s.heap.size)
  generalize hAe : va_A [(b 0, .inr (2, te b a sg len pl bt fh ht)), (a 2, .inl (cI, nO, .inl (zA od))), (b 3, .inl (cI, nS, .inl (zA sd)))] s.heap.size = A at hD ⊢
  have hA : ∀ q : Nat, s.heap.size ≤ q → A q := fun q h => by rw [← hAe]; exact Or.inr h
  have hS : va_S A s.heap s.heap [] := va_S.rf
  clear hD0
  have hP : va_P D vwCl [(b 0, .inr (2, te b a sg len pl bt fh ht)), (a 2, .inl (cI, nO, .inl (zA od))), (b 3, .inl (cI, nS, .inl (zA sd)))] s.heap := hP
  have hl := lv_entry ([.ref (b 0)]) (n := 2) (Nat.le_of_ble_eq_true rfl)
  rw [lg_entry_eq]
  generalize (lg_sl ([.ref (b 0)]) ++ List.replicate (2 - (lg_sl ([.ref (b 0)])).length) Slot.unset).toArray = ls at hl ⊢
  have hl : lv_has ls 2 [(0, .ref (b 0))] := hl
  refine lv_iconst (v := zI 0) hx hb dX2_noteStanding_0 (by first | rfl | decide) ?_
  refine lv_istore_n (lv' := [(1, .int (zI 0)), (0, .ref (b 0))]) hx hb dX2_noteStanding_1 rfl hl (by decide) rfl (fun ls hl => ?_)
  have loop2 : ∀ (nn : Nat) (i : Int) (sq : Int → Int) (H : Heap) (locs : List Loc) (ls : Array Slot), (0 ≤ i ∧ i ≤ len) → (sq = zit (stK nS od) i.toNat sd) → ((len - i).toNat) < nn → va_P D vwCl [(b 0, .inr (2, te b a sg len pl bt fh ht)), (a 2, .inl (cI, nO, .inl (zA od))), (b 3, .inl (cI, nS, .inl (zA sq)))] H → va_D A [(b 0, .inr (2, te b a sg len pl bt fh ht)), (a 2, .inl (cI, nO, .inl (zA od))), (b 3, .inl (cI, nS, .inl (zA sq)))] → va_S A s.heap H locs → lv_has ls 2 [(0, .ref (b 0)), (1, .int (zI i))] → W p l e (headSpec wsX2_noteStanding ({ frames := 1, cells := 0, slots := 0, locals := 22 })).room s m ([.ref (b 0)] : List Value).toArray below meth c H locs 0 0 (MQ below (zQw D A (fun _ : Unit => True) (fun _ : Unit => [(b 0, .inr (2, te b a sg len pl bt fh ht)), (a 2, .inl (cI, nO, .inl (zA od))), (b 3, .inl (cI, nS, .inl (zA (zit (stK nS od) len.toNat sd))))])) ([.ref (b 0)] : List Value).toArray s 0 0 A) (F0 m 2 ls []) := by
    intro nn
    induction nn with
    | zero =>
      intros
      exact absurd (by assumption : _ < 0) (Nat.not_lt_zero _)
    | succ nn ih2 =>
      intro i sq H locs ls h0 hq hmu hP hD hS hl
      refine lv_iload_n hx hb dX2_noteStanding_2 rfl (lv_at hl 1 rfl) ?_
      refine lv_aload_n hx hb dX2_noteStanding_3 rfl (lv_at hl 0 rfl) ?_
      refine va_get (D := D) (ci := 2) (v := .int (zI len)) (C := RX2) (T := TX2) (N := 12) hx hb hts inX2_noteStanding_X2 hown hK.1 hP 0 rfl rfl 7 (by decide) (hts (.fieldLink RX2 48 "TextEnds" "length" "I") (List.mem_of_getElem? (i := 1) rfl)) (fun _ h9 => h9) rfl dX2_noteStanding_4 ?_
      refine z_icmp_ge (tgt := 30) hx hb dX2_noteStanding_7 (by decide) (by omega) (by omega) (fun h_1 => ?_) (fun h_1 => ?_)
      · skip
        have hwe : sq = (zit (stK nS od) len.toNat sd) := by rw [hq, show i = len by omega]
        rw [hwe] at hP hD
        clear hwe
        exact W.vret hx hb hr (fun t ht_ hW_ => ⟨⟨(), rfl, trivial, by rw [ht_]; exact hP, hD⟩, hS.F ht_⟩) hS.2.2 dX2_noteStanding_30
      · skip
        have hk1 := hos i
        refine lv_aload_n hx hb dX2_noteStanding_10 rfl (lv_at hl 0 rfl) ?_
        refine va_get (D := D) (ci := 2) (v := .ref (b 3)) (C := RX2) (T := TX2) (N := 12) hx hb hts inX2_noteStanding_X2 hown hK.1 hP 0 rfl rfl 5 (by decide) (hts (.fieldLink RX2 38 "TextEnds" "standing" "[I") (List.mem_of_getElem? (i := 2) rfl)) (fun _ h9 => h9) rfl dX2_noteStanding_11 ?_
        refine lv_aload_n hx hb dX2_noteStanding_14 rfl (lv_at hl 0 rfl) ?_
        refine va_get (D := D) (ci := 2) (v := .ref (a 2)) (C := RX2) (T := TX2) (N := 12) hx hb hts inX2_noteStanding_X2 hown hK.1 hP 0 rfl rfl 3 (by decide) (hts (.fieldLink RX2 34 "TextEnds" "order" "[I") (List.mem_of_getElem? (i := 3) rfl)) (fun _ h9 => h9) rfl dX2_noteStanding_15 ?_
        refine lv_iload_n hx hb dX2_noteStanding_18 rfl (lv_at hl 1 rfl) ?_
        refine z_iald hx hb hK.1 hP 1 0 rfl rfl dX2_noteStanding_19 (by omega) (by omega) (by omega) ?_
        refine lv_iload_n hx hb dX2_noteStanding_20 rfl (lv_at hl 1 rfl) ?_
        refine z_cw (wc := [(b 3, .inl (cI, nS, .inl (zA sq)))]) (wr := [(b 0, .inr (2, te b a sg len pl bt fh ht)), (a 2, .inl (cI, nO, .inl (zA od)))]) (Wt := (fun _ : Unit => [(b 0, .inr (2, te b a sg len pl bt fh ht)), (a 2, .inl (cI, nO, .inl (zA od))), (b 3, .inl (cI, nS, .inl (zA (zput nS sq (od i) i))))])) [2] [0, 1] [0, 1, 2] hP hD hS hA rfl rfl (by decide) (by decide) (by decide) (by decide) (fun _ => rfl) (fun _ => rfl) (fun hPc hDc => va_runS (As := [.ref (b 3), .int (zI (od i)), .int (zI i)]) (rest := []) ⟨hx, hb, hml, hown, hts⟩ (kX2_put l D cI cZ cL (b 3) nS sq (od i) i _ (by omega) (by omega)) (va_cwS 3 hts gX2_noteStanding_X2_put rfl rfl rfl (by decide +kernel) ⟨Nat.le_of_ble_eq_true rfl, Nat.le_of_ble_eq_true rfl⟩) (zPw_pre hK hPc hDc) rfl rfl hl.1 rfl (lv_room (Nat.le_of_ble_eq_true rfl)) dX2_noteStanding_21 ⟨Nat.zero_le _, Nat.zero_le _⟩) rfl (fun u H locs hp_ hP hD hS => ?_)
        have hP : va_P D vwCl [(b 0, .inr (2, te b a sg len pl bt fh ht)), (a 2, .inl (cI, nO, .inl (zA od))), (b 3, .inl (cI, nS, .inl (zA (zput nS sq (od i) i))))] H := hP
        have hD : va_D A [(b 0, .inr (2, te b a sg len pl bt fh ht)), (a 2, .inl (cI, nO, .inl (zA od))), (b 3, .inl (cI, nS, .inl (zA (zput nS sq (od i) i))))] := hD
        refine lv_iinc (v := zI (i + 1)) (lv' := [(1, .int (zI (i + 1))), (0, .ref (b 0))]) hx hb dX2_noteStanding_24 hl (k := 1) rfl (zI_add _ _) (by decide) rfl (fun ls hl => ?_)
        refine lv_goto (tgt := 2) hx hb dX2_noteStanding_27 (by decide) ?_
        exact ih2 (i + 1) (zput nS sq (od i) i) _ _ ls (by omega) (stK_s hq h0.1) (by omega) (hP) (hD) hS (lv_sub hl [1, 0] rfl)
  exact loop2 _ 0 sd _ _ ls (by omega) (rfl) (Nat.lt_succ_self _) hP hD hS (lv_sub hl [1, 0] rfl)
