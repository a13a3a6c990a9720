set_option maxRecDepth 20000 in
theorem inX2_measureNeighbours_X2 : ∀ w ∈ wsX20, w ∈ wsX2_measureNeighbours := by decide +kernel
set_option maxRecDepth 20000 in
theorem inX2_feedAll_X2 : ∀ w ∈ wsX20, w ∈ wsX2_feedAll := by decide +kernel
set_option maxRecDepth 20000 in
theorem inX2_count_X2 : ∀ w ∈ wsX20, w ∈ wsX2_count := by decide +kernel
set_option maxRecDepth 20000 in
theorem inX3_count_X3 : ∀ w ∈ wsX30, w ∈ wsX3_count := by decide +kernel
set_option maxRecDepth 20000 in
theorem inX3_repeatedAt_X3 : ∀ w ∈ wsX30, w ∈ wsX3_repeatedAt := by decide +kernel
set_option maxHeartbeats 4000000 in
set_option maxRecDepth 100000 in
/-- measureNeighbours() -/
theorem kX2_measureNeighbours (l : Launch) (D : va_G) (cI cZ cL : ClassId) (b a : Nat → Nat) (sg len pl bt fh ht : Int) (nT nO nS nA : Nat) (T od sd al : Int → Int) (szz : Nat) (hlen : 0 ≤ len ∧ len ≤ 1000000) (hlT : len ≤ (nT : Int)) (bnT : (nT : Int) < 1073741824) (hT : zS T) (hlO : len ≤ (nO : Int)) (bnO : (nO : Int) < 1073741824) (hlS : len ≤ (nS : Int)) (bnS : (nS : Int) < 1073741824) (bnA : (nA : Int) < 1073741824) (hod : ∀ i, 0 ≤ i → i < len → 0 ≤ od i ∧ od i < len) (hsd : ∀ i, 0 ≤ i → i < len → 0 ≤ sd i ∧ sd i < len) : Met l yX2_measureNeighbours wsX2_measureNeighbours ({ frames := 2, cells := 0, slots := 0, locals := 55 }) (zPw D cI cZ cL szz [.ref (b 0)] [(b 0, .inr (2, te b a sg len pl bt fh ht)), (b 1, .inl (cI, nT, .inl (zA T))), (a 2, .inl (cI, nO, .inl (zA od))), (b 3, .inl (cI, nS, .inl (zA sd))), (b 4, .inl (cI, nA, .inl (zA al)))]) (zQw D (va_A [(b 0, .inr (2, te b a sg len pl bt fh ht)), (b 1, .inl (cI, nT, .inl (zA T))), (a 2, .inl (cI, nO, .inl (zA od))), (b 3, .inl (cI, nS, .inl (zA sd))), (b 4, .inl (cI, nA, .inl (zA al)))] szz) (fun _ : Unit => True) (fun _ : Unit => [(b 0, .inr (2, te b a sg len pl bt fh ht)), (b 1, .inl (cI, nT, .inl (zA T))), (a 2, .inl (cI, nO, .inl (zA od))), (b 3, .inl (cI, nS, .inl (zA sd))), (b 4, .inl (cI, nA, .inl (zA ((zit (stMN nO nA len T od sd) len.toNat (0, al)).2))))])) 0 0 (va_A [(b 0, .inr (2, te b a sg len pl bt fh ht)), (b 1, .inl (cI, nT, .inl (zA T))), (a 2, .inl (cI, nO, .inl (zA od))), (b 3, .inl (cI, nS, .inl (zA sd))), (b 4, .inl (cI, nA, .inl (zA al)))] szz) := by
  refine Met.ofW (cc := cX2_measureNeighbours) (maxL := 4) (ret := none) (by decide) rfl ?_
  intro p e s m args below meth c s₁ B hml hv
  obtain ⟨rfl, hsz, hP, hK, hD0⟩ := hv
  have hx := B.exec
  have hb := B.bytes
  have hr := B.returns
  have hts := atoms_spec (ws := wsX2_measureNeighbours) B.pre
  have hown : s.vm.findClass RX2 = some m.cls := findClass_of_methodNamed B.named
  have hlocks := B.notSynchronized
  subst hsz
  have hD := hD0.self (sz := s.heap.size)
  generalize hAe : va_A [(b 0, .inr (2, te b a sg len pl bt fh ht)), (b 1, .inl (cI, nT, .inl (zA T))), (a 2, .inl (cI, nO, .inl (zA od))), (b 3, .inl (cI, nS, .inl (zA sd))), (b 4, .inl (cI, nA, .inl (zA al)))] s.heap.size = A at hD ⊢
  have hA : ∀ q : Nat, s.heap.size ≤ q → A q := fun q h => by rw [← hAe]; exact Or.inr h
  have hS : va_S A s.heap s.heap [] := va_S.rf
  clear hD0
  have hP : va_P D vwCl [(b 0, .inr (2, te b a sg len pl bt fh ht)), (b 1, .inl (cI, nT, .inl (zA T))), (a 2, .inl (cI, nO, .inl (zA od))), (b 3, .inl (cI, nS, .inl (zA sd))), (b 4, .inl (cI, nA, .inl (zA al)))] s.heap := hP
  have hl := lv_entry ([.ref (b 0)]) (n := 4) (Nat.le_of_ble_eq_true rfl)
  rw [lg_entry_eq]
  generalize (lg_sl ([.ref (b 0)]) ++ List.replicate (4 - (lg_sl ([.ref (b 0)])).length) Slot.unset).toArray = ls at hl ⊢
  have hl : lv_has ls 4 [(0, .ref (b 0))] := hl
  refine lv_iconst (v := zI 0) hx hb dX2_measureNeighbours_0 (by first | rfl | decide) ?_
  refine lv_istore_n (lv' := [(1, .int (zI 0)), (0, .ref (b 0))]) hx hb dX2_measureNeighbours_1 rfl hl (by decide) rfl (fun ls hl => ?_)
  refine lv_iconst (v := zI 0) hx hb dX2_measureNeighbours_2 (by first | rfl | decide) ?_
  refine lv_istore_n (lv' := [(2, .int (zI 0)), (1, .int (zI 0)), (0, .ref (b 0))]) hx hb dX2_measureNeighbours_3 rfl hl (by decide) rfl (fun ls hl => ?_)
  have loop4 : ∀ (nn : Nat) (i : Int) (kn : Int) (aq : Int → Int) (H : Heap) (locs : List Loc) (ls : Array Slot), (0 ≤ i ∧ i ≤ len) → (0 ≤ kn ∧ kn ≤ len) → ((kn, aq) = zit (stMN nO nA len T od sd) i.toNat (0, al)) → ((len - i).toNat) < nn → va_P D vwCl [(b 0, .inr (2, te b a sg len pl bt fh ht)), (b 1, .inl (cI, nT, .inl (zA T))), (a 2, .inl (cI, nO, .inl (zA od))), (b 3, .inl (cI, nS, .inl (zA sd))), (b 4, .inl (cI, nA, .inl (zA aq)))] H → va_D A [(b 0, .inr (2, te b a sg len pl bt fh ht)), (b 1, .inl (cI, nT, .inl (zA T))), (a 2, .inl (cI, nO, .inl (zA od))), (b 3, .inl (cI, nS, .inl (zA sd))), (b 4, .inl (cI, nA, .inl (zA aq)))] → va_S A s.heap H locs → lv_has ls 4 [(0, .ref (b 0)), (1, .int (zI kn)), (2, .int (zI i))] → W p l e (headSpec wsX2_measureNeighbours ({ frames := 2, cells := 0, slots := 0, locals := 55 })).room s m ([.ref (b 0)] : List Value).toArray below meth c H locs 0 0 (MQ below (zQw D A (fun _ : Unit => True) (fun _ : Unit => [(b 0, .inr (2, te b a sg len pl bt fh ht)), (b 1, .inl (cI, nT, .inl (zA T))), (a 2, .inl (cI, nO, .inl (zA od))), (b 3, .inl (cI, nS, .inl (zA sd))), (b 4, .inl (cI, nA, .inl (zA ((zit (stMN nO nA len T od sd) len.toNat (0, al)).2))))])) ([.ref (b 0)] : List Value).toArray s 0 0 A) (F0 m 4 ls []) := by
    intro nn
    induction nn with
    | zero =>
      intros
      exact absurd (by assumption : _ < 0) (Nat.not_lt_zero _)
    | succ nn ih4 =>
      intro i kn aq H locs ls h0 hkn hq hmu hP hD hS hl
      refine lv_iload_n hx hb dX2_measureNeighbours_4 rfl (lv_at hl 2 rfl) ?_
      refine lv_aload_n hx hb dX2_measureNeighbours_5 rfl (lv_at hl 0 rfl) ?_
      refine va_get (D := D) (ci := 2) (v := .int (zI len)) (C := RX2) (T := TX2) (N := 12) hx hb hts inX2_measureNeighbours_X2 hown hK.1 hP 0 rfl rfl 7 (by decide) (hts (.fieldLink RX2 48 "TextEnds" "length" "I") (List.mem_of_getElem? (i := 1) rfl)) (fun _ h9 => h9) rfl dX2_measureNeighbours_6 ?_
      refine z_icmp_ge (tgt := 67) hx hb dX2_measureNeighbours_9 (by decide) (by omega) (by omega) (fun h_1 => ?_) (fun h_1 => ?_)
      · skip
        rw [show i = len by omega] at hq
        have hwe : aq = ((zit (stMN nO nA len T od sd) len.toNat (0, al)).2) := congrArg (fun z => z.2) hq
        rw [hwe] at hP hD
        clear hwe
        exact W.vret hx hb hr (fun t ht_ hW_ => ⟨⟨(), rfl, trivial, by rw [ht_]; exact hP, hD⟩, hS.F ht_⟩) hS.2.2 dX2_measureNeighbours_67
      · skip
        have hk1 := hsd i (by omega) (by omega)
        have hmk := mnk_S (T := T) (kn := kn) hlO hod hk1 h0.1 hkn
        refine lv_aload_n hx hb dX2_measureNeighbours_12 rfl (lv_at hl 0 rfl) ?_
        refine va_get (D := D) (ci := 2) (v := .ref (b 3)) (C := RX2) (T := TX2) (N := 12) hx hb hts inX2_measureNeighbours_X2 hown hK.1 hP 0 rfl rfl 5 (by decide) (hts (.fieldLink RX2 38 "TextEnds" "standing" "[I") (List.mem_of_getElem? (i := 2) rfl)) (fun _ h9 => h9) rfl dX2_measureNeighbours_13 ?_
        refine lv_iload_n hx hb dX2_measureNeighbours_16 rfl (lv_at hl 2 rfl) ?_
        refine z_iald hx hb hK.1 hP 3 0 rfl rfl dX2_measureNeighbours_17 (by omega) (by omega) (by omega) ?_
        refine lv_istore_n (lv' := [(3, .int (zI (sd i))), (0, .ref (b 0)), (1, .int (zI kn)), (2, .int (zI i))]) hx hb dX2_measureNeighbours_18 rfl hl (by decide) rfl (fun ls hl => ?_)
        refine lv_iload_n hx hb dX2_measureNeighbours_19 rfl (lv_at hl 0 rfl) ?_
        refine z_if_le (tgt := 42) hx hb dX2_measureNeighbours_20 (by decide) (by omega) (fun h_2 => ?_) (fun h_2 => ?_)
        · skip
          have hw := h_2
          refine lv_iconst (v := zI 0) hx hb dX2_measureNeighbours_42 (by first | rfl | decide) ?_
          refine z_top (b := mnk nO len T od sd i kn) (by unfold mnk; first | rw [if_pos (by omega)] | rw [if_neg (by omega)]) ?_
          refine lv_istore_n (lv' := [(1, .int (zI (mnk nO len T od sd i kn))), (3, .int (zI (sd i))), (0, .ref (b 0)), (2, .int (zI i))]) hx hb dX2_measureNeighbours_43 rfl hl (by decide) rfl (fun ls hl => ?_)
          refine lv_aload_n hx hb dX2_measureNeighbours_44 rfl (lv_at hl 2 rfl) ?_
          refine va_get (D := D) (ci := 2) (v := .ref (b 4)) (C := RX2) (T := TX2) (N := 12) hx hb hts inX2_measureNeighbours_X2 hown hK.1 hP 0 rfl rfl 6 (by decide) (hts (.fieldLink RX2 41 "TextEnds" "alike" "[I") (List.mem_of_getElem? (i := 4) rfl)) (fun _ h9 => h9) rfl dX2_measureNeighbours_45 ?_
          refine lv_iload_n hx hb dX2_measureNeighbours_48 rfl (lv_at hl 1 rfl) ?_
          refine lv_iload_n hx hb dX2_measureNeighbours_49 rfl (lv_at hl 0 rfl) ?_
          refine z_cw (wc := [(b 4, .inl (cI, nA, .inl (zA aq)))]) (wr := [(b 0, .inr (2, te b a sg len pl bt fh ht)), (b 1, .inl (cI, nT, .inl (zA T))), (a 2, .inl (cI, nO, .inl (zA od))), (b 3, .inl (cI, nS, .inl (zA sd)))]) (Wt := (fun _ : Unit => [(b 0, .inr (2, te b a sg len pl bt fh ht)), (b 1, .inl (cI, nT, .inl (zA T))), (a 2, .inl (cI, nO, .inl (zA od))), (b 3, .inl (cI, nS, .inl (zA sd))), (b 4, .inl (cI, nA, .inl (zA (zput nA aq (sd i) (mnk nO len T od sd i kn)))))])) [4] [0, 1, 2, 3] [0, 1, 2, 3, 4] hP hD hS hA rfl rfl (by decide) (by decide) (by decide) (by decide) (fun _ => rfl) (fun _ => rfl) (fun hPc hDc => va_runS (As := [.ref (b 4), .int (zI (sd i)), .int (zI (mnk nO len T od sd i kn))]) (rest := []) ⟨hx, hb, hml, hown, hts⟩ (kX2_put l D cI cZ cL (b 4) nA aq (sd i) (mnk nO len T od sd i kn) _ (by omega) (by omega)) (va_cwS 3 hts gX2_measureNeighbours_X2_put rfl rfl rfl (by decide +kernel) ⟨Nat.le_of_ble_eq_true rfl, Nat.le_of_ble_eq_true rfl⟩) (zPw_pre hK hPc hDc) rfl rfl hl.1 rfl (lv_room (Nat.le_of_ble_eq_true rfl)) dX2_measureNeighbours_50 ⟨Nat.zero_le _, Nat.zero_le _⟩) rfl (fun u H locs hp_ hP hD hS => ?_)
          have hP : va_P D vwCl [(b 0, .inr (2, te b a sg len pl bt fh ht)), (b 1, .inl (cI, nT, .inl (zA T))), (a 2, .inl (cI, nO, .inl (zA od))), (b 3, .inl (cI, nS, .inl (zA sd))), (b 4, .inl (cI, nA, .inl (zA (zput nA aq (sd i) (mnk nO len T od sd i kn)))))] H := hP
          have hD : va_D A [(b 0, .inr (2, te b a sg len pl bt fh ht)), (b 1, .inl (cI, nT, .inl (zA T))), (a 2, .inl (cI, nO, .inl (zA od))), (b 3, .inl (cI, nS, .inl (zA sd))), (b 4, .inl (cI, nA, .inl (zA (zput nA aq (sd i) (mnk nO len T od sd i kn)))))] := hD
          refine lv_iconst (v := zI 0) hx hb dX2_measureNeighbours_53 (by first | rfl | decide) ?_
          refine lv_iload_n hx hb dX2_measureNeighbours_54 rfl (lv_at hl 0 rfl) ?_
          refine lv_iconst (v := zI 1) hx hb dX2_measureNeighbours_55 (by first | rfl | decide) ?_
          refine z_isub hx hb dX2_measureNeighbours_56 ?_
          refine va_mmax hx hb (hml.trans hl.1.symm) hown (hts (.methodLink RX2 114 Lib.Math.max.name) (List.mem_of_getElem? (i := 5) rfl)) (hts (.static Lib.Math.max.name) (List.mem_of_getElem? (i := 6) rfl)) (hts (.initialized "java/lang/Math") (List.mem_of_getElem? (i := 7) rfl)) (hts (.code Lib.Math.max.name Lib.Math.max.code 2 (some .int)) (List.mem_of_getElem? (i := 8) rfl)) (Nat.le_of_ble_eq_true rfl) (Nat.le_of_ble_eq_true rfl) (Nat.zero_le _) (Nat.zero_le _) dX2_measureNeighbours_57 ?_
          refine z_topx (b := zmax 0 ((mnk nO len T od sd i kn) - 1)) (zmax_I (by omega) (by omega)) ?_
          refine lv_istore_n (lv' := [(1, .int (zI (zmax 0 ((mnk nO len T od sd i kn) - 1)))), (3, .int (zI (sd i))), (0, .ref (b 0)), (2, .int (zI i))]) hx hb dX2_measureNeighbours_60 rfl hl (by decide) rfl (fun ls hl => ?_)
          refine lv_iinc (v := zI (i + 1)) (lv' := [(2, .int (zI (i + 1))), (1, .int (zI (zmax 0 ((mnk nO len T od sd i kn) - 1)))), (3, .int (zI (sd i))), (0, .ref (b 0))]) hx hb dX2_measureNeighbours_61 hl (k := 3) rfl (zI_add _ _) (by decide) rfl (fun ls hl => ?_)
          refine lv_goto (tgt := 4) hx hb dX2_measureNeighbours_64 (by decide) ?_
          exact ih4 (i + 1) (zmax 0 ((mnk nO len T od sd i kn) - 1)) (zput nA aq (sd i) (mnk nO len T od sd i kn)) _ _ ls (by omega) (by have := zmax_or (a := 0) (b := mnk nO len T od sd i kn - 1); have := zmax_ge (a := 0) (b := mnk nO len T od sd i kn - 1); omega) (stMN_s hq h0.1 rfl) (by omega) (hP) (hD) hS (lv_sub hl [3, 1, 0] rfl)
        · skip
          have hw := h_2
          have hk2 := hod (sd i - 1) (by omega) (by omega)
          have e1 : zat nO od (sd i - 1) = od (sd i - 1) := zat_in (by omega) (by omega)
          refine lv_aload_n hx hb dX2_measureNeighbours_23 rfl (lv_at hl 1 rfl) ?_
          refine lv_aload_n hx hb dX2_measureNeighbours_24 rfl (lv_at hl 1 rfl) ?_
          refine va_get (D := D) (ci := 2) (v := .ref (a 2)) (C := RX2) (T := TX2) (N := 12) hx hb hts inX2_measureNeighbours_X2 hown hK.1 hP 0 rfl rfl 3 (by decide) (hts (.fieldLink RX2 34 "TextEnds" "order" "[I") (List.mem_of_getElem? (i := 3) rfl)) (fun _ h9 => h9) rfl dX2_measureNeighbours_25 ?_
          refine lv_iload_n hx hb dX2_measureNeighbours_28 rfl (lv_at hl 0 rfl) ?_
          refine lv_iconst (v := zI 1) hx hb dX2_measureNeighbours_29 (by first | rfl | decide) ?_
          refine z_isub hx hb dX2_measureNeighbours_30 ?_
          refine z_cr (va_runS (As := [.ref (a 2), .int (zI ((sd i) - 1))]) (rest := [.ref (b 0)]) ⟨hx, hb, hml, hown, hts⟩ (kX2_at l D cI cZ cL (a 2) nO od ((sd i) - 1) (by omega) (by omega)) (va_cwS 2 hts gX2_measureNeighbours_X2_at rfl rfl rfl (by decide +kernel) ⟨Nat.le_of_ble_eq_true rfl, Nat.le_of_ble_eq_true rfl⟩) (zPr_pre hK (hP.sub (ws' := [(a 2, .inl (cI, nO, .inl (zA od)))]) [2] rfl)) rfl rfl hl.1 rfl (lv_room (Nat.le_of_ble_eq_true rfl)) dX2_measureNeighbours_31 ⟨Nat.zero_le _, Nat.zero_le _⟩) (fun r hr_ => ?_)
          subst hr_
          refine lv_iload_n hx hb dX2_measureNeighbours_34 rfl (lv_at hl 3 rfl) ?_
          refine lv_iload_n hx hb dX2_measureNeighbours_35 rfl (lv_at hl 2 rfl) ?_
          refine z_cr (va_runV (As := [.int (zI (zat nO od ((sd i) - 1))), .int (zI i), .int (zI kn)]) (rest := []) ⟨hx, hb, hml, hown, hts⟩ (kX2_alikeFrom l D cI cZ cL b a sg len pl bt fh ht nT T (zat nO od ((sd i) - 1)) i kn (by omega) (by omega) (by omega) (hT) (by rw [e1]; omega) (by omega) (by omega)) (cwV 3 hts gX2_measureNeighbours_X2_alikeFrom rfl rfl rfl (by decide +kernel) ⟨Nat.le_of_ble_eq_true rfl, Nat.le_of_ble_eq_true rfl⟩) (zPr_preV (ci := 2) (q0 := 0) hK (hP.sub (ws' := [(b 0, .inr (2, te b a sg len pl bt fh ht)), (b 1, .inl (cI, nT, .inl (zA T)))]) [0, 1] rfl) rfl rfl) rfl rfl hl.1 rfl (lv_room (Nat.le_of_ble_eq_true rfl)) dX2_measureNeighbours_36 ⟨Nat.zero_le _, Nat.zero_le _⟩) (fun r hr_ => ?_)
          subst hr_
          refine lv_goto (tgt := 43) hx hb dX2_measureNeighbours_39 (by decide) ?_
          refine z_top (b := mnk nO len T od sd i kn) (by unfold mnk; first | rw [if_pos (by omega)] | rw [if_neg (by omega)]) ?_
          refine lv_istore_n (lv' := [(1, .int (zI (mnk nO len T od sd i kn))), (3, .int (zI (sd i))), (0, .ref (b 0)), (2, .int (zI i))]) hx hb dX2_measureNeighbours_43 rfl hl (by decide) rfl (fun ls hl => ?_)
          refine lv_aload_n hx hb dX2_measureNeighbours_44 rfl (lv_at hl 2 rfl) ?_
          refine va_get (D := D) (ci := 2) (v := .ref (b 4)) (C := RX2) (T := TX2) (N := 12) hx hb hts inX2_measureNeighbours_X2 hown hK.1 hP 0 rfl rfl 6 (by decide) (hts (.fieldLink RX2 41 "TextEnds" "alike" "[I") (List.mem_of_getElem? (i := 4) rfl)) (fun _ h9 => h9) rfl dX2_measureNeighbours_45 ?_
          refine lv_iload_n hx hb dX2_measureNeighbours_48 rfl (lv_at hl 1 rfl) ?_
          refine lv_iload_n hx hb dX2_measureNeighbours_49 rfl (lv_at hl 0 rfl) ?_
          refine z_cw (wc := [(b 4, .inl (cI, nA, .inl (zA aq)))]) (wr := [(b 0, .inr (2, te b a sg len pl bt fh ht)), (b 1, .inl (cI, nT, .inl (zA T))), (a 2, .inl (cI, nO, .inl (zA od))), (b 3, .inl (cI, nS, .inl (zA sd)))]) (Wt := (fun _ : Unit => [(b 0, .inr (2, te b a sg len pl bt fh ht)), (b 1, .inl (cI, nT, .inl (zA T))), (a 2, .inl (cI, nO, .inl (zA od))), (b 3, .inl (cI, nS, .inl (zA sd))), (b 4, .inl (cI, nA, .inl (zA (zput nA aq (sd i) (mnk nO len T od sd i kn)))))])) [4] [0, 1, 2, 3] [0, 1, 2, 3, 4] hP hD hS hA rfl rfl (by decide) (by decide) (by decide) (by decide) (fun _ => rfl) (fun _ => rfl) (fun hPc hDc => va_runS (As := [.ref (b 4), .int (zI (sd i)), .int (zI (mnk nO len T od sd i kn))]) (rest := []) ⟨hx, hb, hml, hown, hts⟩ (kX2_put l D cI cZ cL (b 4) nA aq (sd i) (mnk nO len T od sd i kn) _ (by omega) (by omega)) (va_cwS 3 hts gX2_measureNeighbours_X2_put rfl rfl rfl (by decide +kernel) ⟨Nat.le_of_ble_eq_true rfl, Nat.le_of_ble_eq_true rfl⟩) (zPw_pre hK hPc hDc) rfl rfl hl.1 rfl (lv_room (Nat.le_of_ble_eq_true rfl)) dX2_measureNeighbours_50 ⟨Nat.zero_le _, Nat.zero_le _⟩) rfl (fun u H locs hp_ hP hD hS => ?_)
          have hP : va_P D vwCl [(b 0, .inr (2, te b a sg len pl bt fh ht)), (b 1, .inl (cI, nT, .inl (zA T))), (a 2, .inl (cI, nO, .inl (zA od))), (b 3, .inl (cI, nS, .inl (zA sd))), (b 4, .inl (cI, nA, .inl (zA (zput nA aq (sd i) (mnk nO len T od sd i kn)))))] H := hP
          have hD : va_D A [(b 0, .inr (2, te b a sg len pl bt fh ht)), (b 1, .inl (cI, nT, .inl (zA T))), (a 2, .inl (cI, nO, .inl (zA od))), (b 3, .inl (cI, nS, .inl (zA sd))), (b 4, .inl (cI, nA, .inl (zA (zput nA aq (sd i) (mnk nO len T od sd i kn)))))] := hD
          refine lv_iconst (v := zI 0) hx hb dX2_measureNeighbours_53 (by first | rfl | decide) ?_
          refine lv_iload_n hx hb dX2_measureNeighbours_54 rfl (lv_at hl 0 rfl) ?_
          refine lv_iconst (v := zI 1) hx hb dX2_measureNeighbours_55 (by first | rfl | decide) ?_
          refine z_isub hx hb dX2_measureNeighbours_56 ?_
          refine va_mmax hx hb (hml.trans hl.1.symm) hown (hts (.methodLink RX2 114 Lib.Math.max.name) (List.mem_of_getElem? (i := 5) rfl)) (hts (.static Lib.Math.max.name) (List.mem_of_getElem? (i := 6) rfl)) (hts (.initialized "java/lang/Math") (List.mem_of_getElem? (i := 7) rfl)) (hts (.code Lib.Math.max.name Lib.Math.max.code 2 (some .int)) (List.mem_of_getElem? (i := 8) rfl)) (Nat.le_of_ble_eq_true rfl) (Nat.le_of_ble_eq_true rfl) (Nat.zero_le _) (Nat.zero_le _) dX2_measureNeighbours_57 ?_
          refine z_topx (b := zmax 0 ((mnk nO len T od sd i kn) - 1)) (zmax_I (by omega) (by omega)) ?_
          refine lv_istore_n (lv' := [(1, .int (zI (zmax 0 ((mnk nO len T od sd i kn) - 1)))), (3, .int (zI (sd i))), (0, .ref (b 0)), (2, .int (zI i))]) hx hb dX2_measureNeighbours_60 rfl hl (by decide) rfl (fun ls hl => ?_)
          refine lv_iinc (v := zI (i + 1)) (lv' := [(2, .int (zI (i + 1))), (1, .int (zI (zmax 0 ((mnk nO len T od sd i kn) - 1)))), (3, .int (zI (sd i))), (0, .ref (b 0))]) hx hb dX2_measureNeighbours_61 hl (k := 3) rfl (zI_add _ _) (by decide) rfl (fun ls hl => ?_)
          refine lv_goto (tgt := 4) hx hb dX2_measureNeighbours_64 (by decide) ?_
          exact ih4 (i + 1) (zmax 0 ((mnk nO len T od sd i kn) - 1)) (zput nA aq (sd i) (mnk nO len T od sd i kn)) _ _ ls (by omega) (by have := zmax_or (a := 0) (b := mnk nO len T od sd i kn - 1); have := zmax_ge (a := 0) (b := mnk nO len T od sd i kn - 1); omega) (stMN_s hq h0.1 rfl) (by omega) (hP) (hD) hS (lv_sub hl [3, 1, 0] rfl)
  exact loop4 _ 0 0 al _ _ ls (by omega) (by omega) (rfl) (Nat.lt_succ_self _) hP hD hS (lv_sub hl [2, 1, 0] rfl)
set_option maxHeartbeats 4000000 in
set_option maxRecDepth 100000 in
/-- packedLetter(a, b, c, d, i) -/
theorem kX2_packedLetter (l : Launch) (D : va_G) (cI cZ cL : ClassId) (w1 w2 w3 w4 i : Int) (hi : 0 ≤ i ∧ i ≤ 15) : Met l yX2_packedLetter wsX2_packedLetter ({ frames := 0, cells := 0, slots := 0, locals := 0 }) (zPr D cI cZ cL [.int (zI w1), .int (zI w2), .int (zI w3), .int (zI w4), .int (zI i)] []) (zQi (fun r => r = zpk w1 w2 w3 w4 i)) 0 0 (fun _ => False) := by
  refine Met.ofW (cc := cX2_packedLetter) (maxL := 6) (ret := (some .int)) (by decide) rfl ?_
  intro p e s m args below meth c s₁ B hml hv
  obtain ⟨rfl, hP, hK⟩ := hv
  have hx := B.exec
  have hb := B.bytes
  have hr := B.returns
  have hts := atoms_spec (ws := wsX2_packedLetter) B.pre
  have hown : s.vm.findClass RX2 = some m.cls := findClass_of_methodNamed B.named
  have hlocks := B.notSynchronized
  have hP : va_P D vwCl [] s.heap := hP
  have hl := lv_entry ([.int (zI w1), .int (zI w2), .int (zI w3), .int (zI w4), .int (zI i)]) (n := 6) (Nat.le_of_ble_eq_true rfl)
  rw [lg_entry_eq]
  generalize (lg_sl ([.int (zI w1), .int (zI w2), .int (zI w3), .int (zI w4), .int (zI i)]) ++ List.replicate (6 - (lg_sl ([.int (zI w1), .int (zI w2), .int (zI w3), .int (zI w4), .int (zI i)])).length) Slot.unset).toArray = ls at hl ⊢
  have hl : lv_has ls 6 [(0, .int (zI w1)), (1, .int (zI w2)), (2, .int (zI w3)), (3, .int (zI w4)), (4, .int (zI i))] := hl
  refine lv_iload hx hb dX2_packedLetter_0 (lv_at hl 4 rfl) ?_
  refine lv_iconst (v := zI 4) hx hb dX2_packedLetter_2 (by first | rfl | decide) ?_
  refine z_icmp_ge (tgt := 10) hx hb dX2_packedLetter_3 (by decide) (by omega) (by omega) (fun h_1 => ?_) (fun h_1 => ?_)
  · skip
    refine lv_iload hx hb dX2_packedLetter_10 (lv_at hl 4 rfl) ?_
    refine lv_bipush (v := zI 8) hx hb dX2_packedLetter_12 (by first | rfl | decide) ?_
    refine z_icmp_ge (tgt := 21) hx hb dX2_packedLetter_14 (by decide) (by omega) (by omega) (fun h_2 => ?_) (fun h_2 => ?_)
    · skip
      refine lv_iload hx hb dX2_packedLetter_21 (lv_at hl 4 rfl) ?_
      refine lv_bipush (v := zI 12) hx hb dX2_packedLetter_23 (by first | rfl | decide) ?_
      refine z_icmp_ge (tgt := 32) hx hb dX2_packedLetter_25 (by decide) (by omega) (by omega) (fun h_3 => ?_) (fun h_3 => ?_)
      · skip
        refine lv_iload_n hx hb dX2_packedLetter_32 rfl (lv_at hl 3 rfl) ?_
        refine z_top (b := zwd w1 w2 w3 w4 i) (by unfold zwd; first | rw [if_pos (by omega)] | rw [if_neg (by omega), if_pos (by omega)] | rw [if_neg (by omega), if_neg (by omega), if_pos (by omega)] | rw [if_neg (by omega), if_neg (by omega), if_neg (by omega)]) ?_
        refine lv_istore (lv' := [(5, .int (zI (zwd w1 w2 w3 w4 i))), (0, .int (zI w1)), (1, .int (zI w2)), (2, .int (zI w3)), (3, .int (zI w4)), (4, .int (zI i))]) hx hb dX2_packedLetter_33 hl (by decide) rfl (fun ls hl => ?_)
        refine lv_iload hx hb dX2_packedLetter_35 (lv_at hl 0 rfl) ?_
        refine lv_bipush (v := zI 24) hx hb dX2_packedLetter_37 (by first | rfl | decide) ?_
        refine lv_bipush (v := zI 8) hx hb dX2_packedLetter_39 (by first | rfl | decide) ?_
        refine lv_iload hx hb dX2_packedLetter_41 (lv_at hl 5 rfl) ?_
        refine lv_iconst (v := zI 3) hx hb dX2_packedLetter_43 (by first | rfl | decide) ?_
        refine lv_iand hx hb dX2_packedLetter_44 ?_
        refine z_topx (b := i % 4) (z_and3) ?_
        refine z_imul hx hb dX2_packedLetter_45 ?_
        refine z_isub hx hb dX2_packedLetter_46 ?_
        refine lv_iushr (v := zI (((zwd w1 w2 w3 w4 i) % 4294967296) / 2 ^ (24 - (8 * (i % 4))).toNat)) hx hb dX2_packedLetter_47 (z_ushr (by omega)) ?_
        refine lv_sipush (v := zI 255) hx hb dX2_packedLetter_48 (by first | rfl | decide) ?_
        refine lv_iand hx hb dX2_packedLetter_51 ?_
        refine z_topx (b := (((zwd w1 w2 w3 w4 i) % 4294967296) / 2 ^ (24 - (8 * (i % 4))).toNat) % 256) (z_and255 _) ?_
        exact W.iret (v := zI ((((zwd w1 w2 w3 w4 i) % 4294967296) / 2 ^ (24 - (8 * (i % 4))).toNat) % 256)) hx hb hr (fun t ht_ hW_ => ⟨(((zwd w1 w2 w3 w4 i) % 4294967296) / 2 ^ (24 - (8 * (i % 4))).toNat) % 256, rfl, rfl, ht_⟩) (fun q h => by cases h) dX2_packedLetter_52
      · skip
        refine lv_iload_n hx hb dX2_packedLetter_28 rfl (lv_at hl 2 rfl) ?_
        refine lv_goto (tgt := 33) hx hb dX2_packedLetter_29 (by decide) ?_
        refine z_top (b := zwd w1 w2 w3 w4 i) (by unfold zwd; first | rw [if_pos (by omega)] | rw [if_neg (by omega), if_pos (by omega)] | rw [if_neg (by omega), if_neg (by omega), if_pos (by omega)] | rw [if_neg (by omega), if_neg (by omega), if_neg (by omega)]) ?_
        refine lv_istore (lv' := [(5, .int (zI (zwd w1 w2 w3 w4 i))), (0, .int (zI w1)), (1, .int (zI w2)), (2, .int (zI w3)), (3, .int (zI w4)), (4, .int (zI i))]) hx hb dX2_packedLetter_33 hl (by decide) rfl (fun ls hl => ?_)
        refine lv_iload hx hb dX2_packedLetter_35 (lv_at hl 0 rfl) ?_
        refine lv_bipush (v := zI 24) hx hb dX2_packedLetter_37 (by first | rfl | decide) ?_
        refine lv_bipush (v := zI 8) hx hb dX2_packedLetter_39 (by first | rfl | decide) ?_
        refine lv_iload hx hb dX2_packedLetter_41 (lv_at hl 5 rfl) ?_
        refine lv_iconst (v := zI 3) hx hb dX2_packedLetter_43 (by first | rfl | decide) ?_
        refine lv_iand hx hb dX2_packedLetter_44 ?_
        refine z_topx (b := i % 4) (z_and3) ?_
        refine z_imul hx hb dX2_packedLetter_45 ?_
        refine z_isub hx hb dX2_packedLetter_46 ?_
        refine lv_iushr (v := zI (((zwd w1 w2 w3 w4 i) % 4294967296) / 2 ^ (24 - (8 * (i % 4))).toNat)) hx hb dX2_packedLetter_47 (z_ushr (by omega)) ?_
        refine lv_sipush (v := zI 255) hx hb dX2_packedLetter_48 (by first | rfl | decide) ?_
        refine lv_iand hx hb dX2_packedLetter_51 ?_
        refine z_topx (b := (((zwd w1 w2 w3 w4 i) % 4294967296) / 2 ^ (24 - (8 * (i % 4))).toNat) % 256) (z_and255 _) ?_
        exact W.iret (v := zI ((((zwd w1 w2 w3 w4 i) % 4294967296) / 2 ^ (24 - (8 * (i % 4))).toNat) % 256)) hx hb hr (fun t ht_ hW_ => ⟨(((zwd w1 w2 w3 w4 i) % 4294967296) / 2 ^ (24 - (8 * (i % 4))).toNat) % 256, rfl, rfl, ht_⟩) (fun q h => by cases h) dX2_packedLetter_52
    · skip
      refine lv_iload_n hx hb dX2_packedLetter_17 rfl (lv_at hl 1 rfl) ?_
      refine lv_goto (tgt := 33) hx hb dX2_packedLetter_18 (by decide) ?_
      refine z_top (b := zwd w1 w2 w3 w4 i) (by unfold zwd; first | rw [if_pos (by omega)] | rw [if_neg (by omega), if_pos (by omega)] | rw [if_neg (by omega), if_neg (by omega), if_pos (by omega)] | rw [if_neg (by omega), if_neg (by omega), if_neg (by omega)]) ?_
      refine lv_istore (lv' := [(5, .int (zI (zwd w1 w2 w3 w4 i))), (0, .int (zI w1)), (1, .int (zI w2)), (2, .int (zI w3)), (3, .int (zI w4)), (4, .int (zI i))]) hx hb dX2_packedLetter_33 hl (by decide) rfl (fun ls hl => ?_)
      refine lv_iload hx hb dX2_packedLetter_35 (lv_at hl 0 rfl) ?_
      refine lv_bipush (v := zI 24) hx hb dX2_packedLetter_37 (by first | rfl | decide) ?_
      refine lv_bipush (v := zI 8) hx hb dX2_packedLetter_39 (by first | rfl | decide) ?_
      refine lv_iload hx hb dX2_packedLetter_41 (lv_at hl 5 rfl) ?_
      refine lv_iconst (v := zI 3) hx hb dX2_packedLetter_43 (by first | rfl | decide) ?_
      refine lv_iand hx hb dX2_packedLetter_44 ?_
      refine z_topx (b := i % 4) (z_and3) ?_
      refine z_imul hx hb dX2_packedLetter_45 ?_
      refine z_isub hx hb dX2_packedLetter_46 ?_
      refine lv_iushr (v := zI (((zwd w1 w2 w3 w4 i) % 4294967296) / 2 ^ (24 - (8 * (i % 4))).toNat)) hx hb dX2_packedLetter_47 (z_ushr (by omega)) ?_
      refine lv_sipush (v := zI 255) hx hb dX2_packedLetter_48 (by first | rfl | decide) ?_
      refine lv_iand hx hb dX2_packedLetter_51 ?_
      refine z_topx (b := (((zwd w1 w2 w3 w4 i) % 4294967296) / 2 ^ (24 - (8 * (i % 4))).toNat) % 256) (z_and255 _) ?_
      exact W.iret (v := zI ((((zwd w1 w2 w3 w4 i) % 4294967296) / 2 ^ (24 - (8 * (i % 4))).toNat) % 256)) hx hb hr (fun t ht_ hW_ => ⟨(((zwd w1 w2 w3 w4 i) % 4294967296) / 2 ^ (24 - (8 * (i % 4))).toNat) % 256, rfl, rfl, ht_⟩) (fun q h => by cases h) dX2_packedLetter_52
  · skip
    refine lv_iload_n hx hb dX2_packedLetter_6 rfl (lv_at hl 0 rfl) ?_
    refine lv_goto (tgt := 33) hx hb dX2_packedLetter_7 (by decide) ?_
    refine z_top (b := zwd w1 w2 w3 w4 i) (by unfold zwd; first | rw [if_pos (by omega)] | rw [if_neg (by omega), if_pos (by omega)] | rw [if_neg (by omega), if_neg (by omega), if_pos (by omega)] | rw [if_neg (by omega), if_neg (by omega), if_neg (by omega)]) ?_
    refine lv_istore (lv' := [(5, .int (zI (zwd w1 w2 w3 w4 i))), (0, .int (zI w1)), (1, .int (zI w2)), (2, .int (zI w3)), (3, .int (zI w4)), (4, .int (zI i))]) hx hb dX2_packedLetter_33 hl (by decide) rfl (fun ls hl => ?_)
    refine lv_iload hx hb dX2_packedLetter_35 (lv_at hl 0 rfl) ?_
    refine lv_bipush (v := zI 24) hx hb dX2_packedLetter_37 (by first | rfl | decide) ?_
    refine lv_bipush (v := zI 8) hx hb dX2_packedLetter_39 (by first | rfl | decide) ?_
    refine lv_iload hx hb dX2_packedLetter_41 (lv_at hl 5 rfl) ?_
    refine lv_iconst (v := zI 3) hx hb dX2_packedLetter_43 (by first | rfl | decide) ?_
    refine lv_iand hx hb dX2_packedLetter_44 ?_
    refine z_topx (b := i % 4) (z_and3) ?_
    refine z_imul hx hb dX2_packedLetter_45 ?_
    refine z_isub hx hb dX2_packedLetter_46 ?_
    refine lv_iushr (v := zI (((zwd w1 w2 w3 w4 i) % 4294967296) / 2 ^ (24 - (8 * (i % 4))).toNat)) hx hb dX2_packedLetter_47 (z_ushr (by omega)) ?_
    refine lv_sipush (v := zI 255) hx hb dX2_packedLetter_48 (by first | rfl | decide) ?_
    refine lv_iand hx hb dX2_packedLetter_51 ?_
    refine z_topx (b := (((zwd w1 w2 w3 w4 i) % 4294967296) / 2 ^ (24 - (8 * (i % 4))).toNat) % 256) (z_and255 _) ?_
    exact W.iret (v := zI ((((zwd w1 w2 w3 w4 i) % 4294967296) / 2 ^ (24 - (8 * (i % 4))).toNat) % 256)) hx hb hr (fun t ht_ hW_ => ⟨(((zwd w1 w2 w3 w4 i) % 4294967296) / 2 ^ (24 - (8 * (i % 4))).toNat) % 256, rfl, rfl, ht_⟩) (fun q h => by cases h) dX2_packedLetter_52
set_option maxHeartbeats 4000000 in
set_option maxRecDepth 100000 in
/-- feedAll(a, b, c, d, n) -/
theorem kX2_feedAll (l : Launch) (D : va_G) (cI cZ cL : ClassId) (b a : Nat → Nat) (sg len pl bt fh ht : Int) (nT : Nat) (T : Int → Int) (w1 w2 w3 w4 n : Int) (szz : Nat) (hlen : 0 ≤ len ∧ len ≤ (nT : Int)) (hsg : zR sg) (bnT : (nT : Int) < 1073741824) (hn : zR n) : Met l yX2_feedAll wsX2_feedAll ({ frames := 2, cells := 0, slots := 0, locals := 42 }) (zPw D cI cZ cL szz [.ref (b 0), .int (zI w1), .int (zI w2), .int (zI w3), .int (zI w4), .int (zI n)] [(b 0, .inr (2, te b a sg len pl bt fh ht)), (b 1, .inl (cI, nT, .inl (zA T)))]) (zQwi D (va_A [(b 0, .inr (2, te b a sg len pl bt fh ht)), (b 1, .inl (cI, nT, .inl (zA T)))] szz) (fun (r : Int) (_ : Unit) => r = (fdA sg (nT : Int) (zpk w1 w2 w3 w4) n T len bt ht).2.2.2.2.1 ∧ True) (fun _ : Unit => [(b 0, .inr (2, te b a sg ((fdA sg (nT : Int) (zpk w1 w2 w3 w4) n T len bt ht).2.1) pl ((fdA sg (nT : Int) (zpk w1 w2 w3 w4) n T len bt ht).2.2.1) fh ((fdA sg (nT : Int) (zpk w1 w2 w3 w4) n T len bt ht).2.2.2.1))), (b 1, .inl (cI, nT, .inl (zA ((fdA sg (nT : Int) (zpk w1 w2 w3 w4) n T len bt ht).1))))])) 0 0 (va_A [(b 0, .inr (2, te b a sg len pl bt fh ht)), (b 1, .inl (cI, nT, .inl (zA T)))] szz) := by
  refine Met.ofW (cc := cX2_feedAll) (maxL := 7) (ret := (some .int)) (by decide) rfl ?_
  intro p e s m args below meth c s₁ B hml hv
  obtain ⟨rfl, hsz, hP, hK, hD0⟩ := hv
  have hx := B.exec
  have hb := B.bytes
  have hr := B.returns
  have hts := atoms_spec (ws := wsX2_feedAll) B.pre
  have hown : s.vm.findClass RX2 = some m.cls := findClass_of_methodNamed B.named
  have hlocks := B.notSynchronized
  subst hsz
  have hD := hD0.self (sz := s.heap.size)
  generalize hAe : va_A [(b 0, .inr (2, te b a sg len pl bt fh ht)), (b 1, .inl (cI, nT, .inl (zA T)))] s.heap.size = A at hD ⊢
  have hA : ∀ q : Nat, s.heap.size ≤ q → A q := fun q h => by rw [← hAe]; exact Or.inr h
  have hS : va_S A s.heap s.heap [] := va_S.rf
  clear hD0
  have hP : va_P D vwCl [(b 0, .inr (2, te b a sg len pl bt fh ht)), (b 1, .inl (cI, nT, .inl (zA T)))] s.heap := hP
  have hl := lv_entry ([.ref (b 0), .int (zI w1), .int (zI w2), .int (zI w3), .int (zI w4), .int (zI n)]) (n := 7) (Nat.le_of_ble_eq_true rfl)
  rw [lg_entry_eq]
  generalize (lg_sl ([.ref (b 0), .int (zI w1), .int (zI w2), .int (zI w3), .int (zI w4), .int (zI n)]) ++ List.replicate (7 - (lg_sl ([.ref (b 0), .int (zI w1), .int (zI w2), .int (zI w3), .int (zI w4), .int (zI n)])).length) Slot.unset).toArray = ls at hl ⊢
  have hl : lv_has ls 7 [(0, .ref (b 0)), (1, .int (zI w1)), (2, .int (zI w2)), (3, .int (zI w3)), (4, .int (zI w4)), (5, .int (zI n))] := hl
  refine lv_iload hx hb dX2_feedAll_0 (lv_at hl 5 rfl) ?_
  refine lv_iconst (v := zI 1) hx hb dX2_feedAll_2 (by first | rfl | decide) ?_
  refine z_icmp_lt (tgt := 13) hx hb dX2_feedAll_3 (by decide) (by omega) (by omega) (fun h_1 => ?_) (fun h_1 => ?_)
  · skip
    have hno : ¬ (1 ≤ n ∧ n ≤ 16) := by omega
    have hq := fdA_no (sg := sg) (rm := (nT : Int)) (w := zpk w1 w2 w3 w4) (T := T) (len := len) (bt := bt) (h := ht) hno
    have hP : va_P D vwCl [(b 0, .inr (2, te b a sg ((fdA sg (nT : Int) (zpk w1 w2 w3 w4) n T len bt ht).2.1) pl ((fdA sg (nT : Int) (zpk w1 w2 w3 w4) n T len bt ht).2.2.1) fh ((fdA sg (nT : Int) (zpk w1 w2 w3 w4) n T len bt ht).2.2.2.1))), (b 1, .inl (cI, nT, .inl (zA ((fdA sg (nT : Int) (zpk w1 w2 w3 w4) n T len bt ht).1))))] s.heap := by (simp only [← hq]; exact hP)
    have hD : va_D A [(b 0, .inr (2, te b a sg ((fdA sg (nT : Int) (zpk w1 w2 w3 w4) n T len bt ht).2.1) pl ((fdA sg (nT : Int) (zpk w1 w2 w3 w4) n T len bt ht).2.2.1) fh ((fdA sg (nT : Int) (zpk w1 w2 w3 w4) n T len bt ht).2.2.2.1))), (b 1, .inl (cI, nT, .inl (zA ((fdA sg (nT : Int) (zpk w1 w2 w3 w4) n T len bt ht).1))))] := by (simp only [← hq]; exact hD)
    refine lv_iconst (v := zI 0) hx hb dX2_feedAll_13 (by first | rfl | decide) ?_
    exact W.iret (v := zI 0) hx hb hr (fun t ht_ hW_ => ⟨⟨0, (), rfl, ⟨by rw [← hq], trivial⟩, by rw [ht_]; exact hP, hD⟩, hS.F ht_⟩) hS.2.2 dX2_feedAll_14
  · skip
    refine lv_iload hx hb dX2_feedAll_6 (lv_at hl 5 rfl) ?_
    refine lv_bipush (v := zI 16) hx hb dX2_feedAll_8 (by first | rfl | decide) ?_
    refine z_icmp_le (tgt := 15) hx hb dX2_feedAll_10 (by decide) (by omega) (by omega) (fun h_2 => ?_) (fun h_2 => ?_)
    · skip
      refine lv_iconst (v := zI 0) hx hb dX2_feedAll_15 (by first | rfl | decide) ?_
      refine lv_istore (lv' := [(6, .int (zI 0)), (0, .ref (b 0)), (1, .int (zI w1)), (2, .int (zI w2)), (3, .int (zI w3)), (4, .int (zI w4)), (5, .int (zI n))]) hx hb dX2_feedAll_16 hl (by decide) rfl (fun ls hl => ?_)
      have loop18 : ∀ (nn : Nat) (k : Int) (Tq : Int → Int) (lq : Int) (bq : Int) (hq_ : Int) (H : Heap) (locs : List Loc) (ls : Array Slot), (0 ≤ k ∧ k ≤ n) → (0 ≤ lq ∧ lq ≤ (nT : Int)) → ((Tq, lq, bq, hq_, k, true) = zit (stA sg (nT : Int) (zpk w1 w2 w3 w4)) k.toNat (T, len, bt, ht, 0, true)) → ((n - k).toNat) < nn → va_P D vwCl [(b 0, .inr (2, te b a sg lq pl bq fh hq_)), (b 1, .inl (cI, nT, .inl (zA Tq)))] H → va_D A [(b 0, .inr (2, te b a sg lq pl bq fh hq_)), (b 1, .inl (cI, nT, .inl (zA Tq)))] → va_S A s.heap H locs → lv_has ls 7 [(0, .ref (b 0)), (1, .int (zI w1)), (2, .int (zI w2)), (3, .int (zI w3)), (4, .int (zI w4)), (5, .int (zI n)), (6, .int (zI k))] → W p l e (headSpec wsX2_feedAll ({ frames := 2, cells := 0, slots := 0, locals := 42 })).room s m ([.ref (b 0), .int (zI w1), .int (zI w2), .int (zI w3), .int (zI w4), .int (zI n)] : List Value).toArray below meth c H locs 0 0 (MQ below (zQwi D A (fun (r : Int) (_ : Unit) => r = (fdA sg (nT : Int) (zpk w1 w2 w3 w4) n T len bt ht).2.2.2.2.1 ∧ True) (fun _ : Unit => [(b 0, .inr (2, te b a sg ((fdA sg (nT : Int) (zpk w1 w2 w3 w4) n T len bt ht).2.1) pl ((fdA sg (nT : Int) (zpk w1 w2 w3 w4) n T len bt ht).2.2.1) fh ((fdA sg (nT : Int) (zpk w1 w2 w3 w4) n T len bt ht).2.2.2.1))), (b 1, .inl (cI, nT, .inl (zA ((fdA sg (nT : Int) (zpk w1 w2 w3 w4) n T len bt ht).1))))])) ([.ref (b 0), .int (zI w1), .int (zI w2), .int (zI w3), .int (zI w4), .int (zI n)] : List Value).toArray s 0 0 A) (F0 m 18 ls []) := by
        intro nn
        induction nn with
        | zero =>
          intros
          exact absurd (by assumption : _ < 0) (Nat.not_lt_zero _)
        | succ nn ih18 =>
          intro k Tq lq bq hq_ H locs ls h0 hlq hq hmu hP hD hS hl
          refine lv_iload hx hb dX2_feedAll_18 (lv_at hl 6 rfl) ?_
          refine lv_iload hx hb dX2_feedAll_20 (lv_at hl 5 rfl) ?_
          refine z_icmp_ge (tgt := 48) hx hb dX2_feedAll_22 (by decide) (by omega) (by omega) (fun h_3 => ?_) (fun h_3 => ?_)
          · skip
            rw [show k = n by omega] at hq
            have hq := fdA_end (by omega) hq
            have hkn : k = n := by omega
            have hP : va_P D vwCl [(b 0, .inr (2, te b a sg ((fdA sg (nT : Int) (zpk w1 w2 w3 w4) n T len bt ht).2.1) pl ((fdA sg (nT : Int) (zpk w1 w2 w3 w4) n T len bt ht).2.2.1) fh ((fdA sg (nT : Int) (zpk w1 w2 w3 w4) n T len bt ht).2.2.2.1))), (b 1, .inl (cI, nT, .inl (zA ((fdA sg (nT : Int) (zpk w1 w2 w3 w4) n T len bt ht).1))))] H := by (simp only [← hq]; exact hP)
            have hD : va_D A [(b 0, .inr (2, te b a sg ((fdA sg (nT : Int) (zpk w1 w2 w3 w4) n T len bt ht).2.1) pl ((fdA sg (nT : Int) (zpk w1 w2 w3 w4) n T len bt ht).2.2.1) fh ((fdA sg (nT : Int) (zpk w1 w2 w3 w4) n T len bt ht).2.2.2.1))), (b 1, .inl (cI, nT, .inl (zA ((fdA sg (nT : Int) (zpk w1 w2 w3 w4) n T len bt ht).1))))] := by (simp only [← hq]; exact hD)
            refine lv_iload hx hb dX2_feedAll_48 (lv_at hl 6 rfl) ?_
            exact W.iret (v := zI k) hx hb hr (fun t ht_ hW_ => ⟨⟨k, (), rfl, ⟨by first | (rw [← hq]; exact hkn) | rw [← hq], trivial⟩, by rw [ht_]; exact hP, hD⟩, hS.F ht_⟩) hS.2.2 dX2_feedAll_50
          · skip
            have hpk := zpk_S w1 w2 w3 w4 k
            refine lv_aload_n hx hb dX2_feedAll_25 rfl (lv_at hl 0 rfl) ?_
            refine lv_iload_n hx hb dX2_feedAll_26 rfl (lv_at hl 1 rfl) ?_
            refine lv_iload_n hx hb dX2_feedAll_27 rfl (lv_at hl 2 rfl) ?_
            refine lv_iload_n hx hb dX2_feedAll_28 rfl (lv_at hl 3 rfl) ?_
            refine lv_iload hx hb dX2_feedAll_29 (lv_at hl 4 rfl) ?_
            refine lv_iload hx hb dX2_feedAll_31 (lv_at hl 6 rfl) ?_
            refine z_cr (va_runS (As := [.int (zI w1), .int (zI w2), .int (zI w3), .int (zI w4), .int (zI k)]) (rest := [.ref (b 0)]) ⟨hx, hb, hml, hown, hts⟩ (kX2_packedLetter l D cI cZ cL w1 w2 w3 w4 k (by omega)) (va_cwS 5 hts gX2_feedAll_X2_packedLetter rfl rfl rfl (by decide +kernel) ⟨Nat.le_of_ble_eq_true rfl, Nat.le_of_ble_eq_true rfl⟩) (zPr_pre hK (hP.sub (ws' := []) [] rfl)) rfl rfl hl.1 rfl (lv_room (Nat.le_of_ble_eq_true rfl)) dX2_feedAll_33 ⟨Nat.zero_le _, Nat.zero_le _⟩) (fun r hr_ => ?_)
            subst hr_
            refine z_cwi (wc := [(b 0, .inr (2, te b a sg lq pl bq fh hq_)), (b 1, .inl (cI, nT, .inl (zA Tq)))]) (wr := []) (Wt := (fun _ : Unit => [(b 0, .inr (2, te b a sg (if fok sg (nT : Int) lq (zpk w1 w2 w3 w4 k) = true then lq + 1 else lq) pl (if fok sg (nT : Int) lq (zpk w1 w2 w3 w4 k) = true then 0 else bq) fh (if fok sg (nT : Int) lq (zpk w1 w2 w3 w4 k) = true then 0 else hq_))), (b 1, .inl (cI, nT, .inl (zA (if fok sg (nT : Int) lq (zpk w1 w2 w3 w4 k) = true then zup Tq lq (zpk w1 w2 w3 w4 k) else Tq))))])) [0, 1] [] [0, 1] hP hD hS hA rfl rfl (by decide) (by decide) (by decide) (by decide) (fun _ => rfl) (fun _ => rfl) (fun hPc hDc => va_runV (As := [.int (zI (zpk w1 w2 w3 w4 k))]) (rest := []) ⟨hx, hb, hml, hown, hts⟩ (kX2_feed l D cI cZ cL b a sg lq pl bq fh hq_ nT Tq (zpk w1 w2 w3 w4 k) _ (by omega) (by omega) (by omega) (by omega)) (cwV 1 hts gX2_feedAll_X2_feed rfl rfl rfl (by decide +kernel) ⟨Nat.le_of_ble_eq_true rfl, Nat.le_of_ble_eq_true rfl⟩) (zPw_preV (ci := 2) (q0 := 0) hK hPc hDc rfl rfl) rfl rfl hl.1 rfl (lv_room (Nat.le_of_ble_eq_true rfl)) dX2_feedAll_36 ⟨Nat.zero_le _, Nat.zero_le _⟩) rfl (fun r_ u H locs hp_ hP hD hS => ?_)
            have hP : va_P D vwCl [(b 0, .inr (2, te b a sg (if fok sg (nT : Int) lq (zpk w1 w2 w3 w4 k) = true then lq + 1 else lq) pl (if fok sg (nT : Int) lq (zpk w1 w2 w3 w4 k) = true then 0 else bq) fh (if fok sg (nT : Int) lq (zpk w1 w2 w3 w4 k) = true then 0 else hq_))), (b 1, .inl (cI, nT, .inl (zA (if fok sg (nT : Int) lq (zpk w1 w2 w3 w4 k) = true then zup Tq lq (zpk w1 w2 w3 w4 k) else Tq))))] H := hP
            have hD : va_D A [(b 0, .inr (2, te b a sg (if fok sg (nT : Int) lq (zpk w1 w2 w3 w4 k) = true then lq + 1 else lq) pl (if fok sg (nT : Int) lq (zpk w1 w2 w3 w4 k) = true then 0 else bq) fh (if fok sg (nT : Int) lq (zpk w1 w2 w3 w4 k) = true then 0 else hq_))), (b 1, .inl (cI, nT, .inl (zA (if fok sg (nT : Int) lq (zpk w1 w2 w3 w4 k) = true then zup Tq lq (zpk w1 w2 w3 w4 k) else Tq))))] := hD
            obtain ⟨r_4, rfl⟩ : ∃ z, z = r_ := ⟨_, rfl⟩
            obtain ⟨hr_, hp_⟩ := hp_
            subst hr_
            have hp_36 := hp_
            refine z_if_eq (tgt := 48) hx hb dX2_feedAll_39 (by decide) (bi_R _) (fun h_5 => ?_) (fun h_5 => ?_)
            · skip
              have hfk := bi_eq h_5
              have hq := stA_f hq h0.1 hfk
              have hq := fdA_stop (n := n) (i := k + 1) (by omega) (by omega) hq
              simp only [hfk, Bool.false_eq_true, if_false] at hP hD
              have hP : va_P D vwCl [(b 0, .inr (2, te b a sg lq pl bq fh hq_)), (b 1, .inl (cI, nT, .inl (zA Tq)))] H := hP
              have hD : va_D A [(b 0, .inr (2, te b a sg lq pl bq fh hq_)), (b 1, .inl (cI, nT, .inl (zA Tq)))] := hD
              have hP : va_P D vwCl [(b 0, .inr (2, te b a sg ((fdA sg (nT : Int) (zpk w1 w2 w3 w4) n T len bt ht).2.1) pl ((fdA sg (nT : Int) (zpk w1 w2 w3 w4) n T len bt ht).2.2.1) fh ((fdA sg (nT : Int) (zpk w1 w2 w3 w4) n T len bt ht).2.2.2.1))), (b 1, .inl (cI, nT, .inl (zA ((fdA sg (nT : Int) (zpk w1 w2 w3 w4) n T len bt ht).1))))] H := by (simp only [← hq]; exact hP)
              have hD : va_D A [(b 0, .inr (2, te b a sg ((fdA sg (nT : Int) (zpk w1 w2 w3 w4) n T len bt ht).2.1) pl ((fdA sg (nT : Int) (zpk w1 w2 w3 w4) n T len bt ht).2.2.1) fh ((fdA sg (nT : Int) (zpk w1 w2 w3 w4) n T len bt ht).2.2.2.1))), (b 1, .inl (cI, nT, .inl (zA ((fdA sg (nT : Int) (zpk w1 w2 w3 w4) n T len bt ht).1))))] := by (simp only [← hq]; exact hD)
              refine lv_iload hx hb dX2_feedAll_48 (lv_at hl 6 rfl) ?_
              exact W.iret (v := zI k) hx hb hr (fun t ht_ hW_ => ⟨⟨k, (), rfl, ⟨by first | (rw [← hq]; exact hkn) | rw [← hq], trivial⟩, by rw [ht_]; exact hP, hD⟩, hS.F ht_⟩) hS.2.2 dX2_feedAll_50
            · skip
              have hfk := bi_ne h_5
              have hfk2 : lq < (nT : Int) := by have := hfk; simp [fok] at this; omega
              simp only [hfk, if_true] at hP hD
              have hP : va_P D vwCl [(b 0, .inr (2, te b a sg (lq + 1) pl 0 fh 0)), (b 1, .inl (cI, nT, .inl (zA (zup Tq lq (zpk w1 w2 w3 w4 k)))))] H := hP
              have hD : va_D A [(b 0, .inr (2, te b a sg (lq + 1) pl 0 fh 0)), (b 1, .inl (cI, nT, .inl (zA (zup Tq lq (zpk w1 w2 w3 w4 k)))))] := hD
              refine lv_iinc (v := zI (k + 1)) (lv' := [(6, .int (zI (k + 1))), (0, .ref (b 0)), (1, .int (zI w1)), (2, .int (zI w2)), (3, .int (zI w3)), (4, .int (zI w4)), (5, .int (zI n))]) hx hb dX2_feedAll_42 hl (k := 6) rfl (zI_add _ _) (by decide) rfl (fun ls hl => ?_)
              refine lv_goto (tgt := 18) hx hb dX2_feedAll_45 (by decide) ?_
              exact ih18 (k + 1) (zup Tq lq (zpk w1 w2 w3 w4 k)) (lq + 1) 0 0 _ _ ls (by omega) (by have := hfk2; omega) (stA_t hq h0.1 hfk) (by omega) (hP) (hD) hS (lv_sub hl [1, 2, 3, 4, 5, 6, 0] rfl)
      exact loop18 _ 0 T len bt ht _ _ ls (by omega) (by omega) (rfl) (Nat.lt_succ_self _) hP hD hS (lv_sub hl [1, 2, 3, 4, 5, 6, 0] rfl)
    · skip
      have hno : ¬ (1 ≤ n ∧ n ≤ 16) := by omega
      have hq := fdA_no (sg := sg) (rm := (nT : Int)) (w := zpk w1 w2 w3 w4) (T := T) (len := len) (bt := bt) (h := ht) hno
      have hP : va_P D vwCl [(b 0, .inr (2, te b a sg ((fdA sg (nT : Int) (zpk w1 w2 w3 w4) n T len bt ht).2.1) pl ((fdA sg (nT : Int) (zpk w1 w2 w3 w4) n T len bt ht).2.2.1) fh ((fdA sg (nT : Int) (zpk w1 w2 w3 w4) n T len bt ht).2.2.2.1))), (b 1, .inl (cI, nT, .inl (zA ((fdA sg (nT : Int) (zpk w1 w2 w3 w4) n T len bt ht).1))))] s.heap := by (simp only [← hq]; exact hP)
      have hD : va_D A [(b 0, .inr (2, te b a sg ((fdA sg (nT : Int) (zpk w1 w2 w3 w4) n T len bt ht).2.1) pl ((fdA sg (nT : Int) (zpk w1 w2 w3 w4) n T len bt ht).2.2.1) fh ((fdA sg (nT : Int) (zpk w1 w2 w3 w4) n T len bt ht).2.2.2.1))), (b 1, .inl (cI, nT, .inl (zA ((fdA sg (nT : Int) (zpk w1 w2 w3 w4) n T len bt ht).1))))] := by (simp only [← hq]; exact hD)
      refine lv_iconst (v := zI 0) hx hb dX2_feedAll_13 (by first | rfl | decide) ?_
      exact W.iret (v := zI 0) hx hb hr (fun t ht_ hW_ => ⟨⟨0, (), rfl, ⟨by rw [← hq], trivial⟩, by rw [ht_]; exact hP, hD⟩, hS.F ht_⟩) hS.2.2 dX2_feedAll_14
set_option maxHeartbeats 4000000 in
set_option maxRecDepth 100000 in
/-- count(what) -/
theorem kX2_count (l : Launch) (D : va_G) (cI cZ cL : ClassId) (b a : Nat → Nat) (sg len pl bt fh ht : Int) (nT nP : Nat) (T pt : Int → Int) (w : Int) (hbt : bt = 0 ∨ bt = 1) (hw1 : zR w) : Met l yX2_count wsX2_count ({ frames := 0, cells := 0, slots := 0, locals := 0 }) (zPr D cI cZ cL [.ref (b 0), .int (zI w)] [(b 0, .inr (2, te b a sg len pl bt fh ht)), (b 1, .inl (cI, nT, .inl (zA T))), (b 2, .inl (cI, nP, .inl (zA pt)))]) (zQi (fun r => r = zcn len pl bt (nT : Int) sg (nP : Int) w)) 0 0 (fun _ => False) := by
  refine Met.ofW (cc := cX2_count) (maxL := 2) (ret := (some .int)) (by decide) rfl ?_
  intro p e s m args below meth c s₁ B hml hv
  obtain ⟨rfl, hP, hK⟩ := hv
  have hx := B.exec
  have hb := B.bytes
  have hr := B.returns
  have hts := atoms_spec (ws := wsX2_count) B.pre
  have hown : s.vm.findClass RX2 = some m.cls := findClass_of_methodNamed B.named
  have hlocks := B.notSynchronized
  have hP : va_P D vwCl [(b 0, .inr (2, te b a sg len pl bt fh ht)), (b 1, .inl (cI, nT, .inl (zA T))), (b 2, .inl (cI, nP, .inl (zA pt)))] s.heap := hP
  have hl := lv_entry ([.ref (b 0), .int (zI w)]) (n := 2) (Nat.le_of_ble_eq_true rfl)
  rw [lg_entry_eq]
  generalize (lg_sl ([.ref (b 0), .int (zI w)]) ++ List.replicate (2 - (lg_sl ([.ref (b 0), .int (zI w)])).length) Slot.unset).toArray = ls at hl ⊢
  have hl : lv_has ls 2 [(0, .ref (b 0)), (1, .int (zI w))] := hl
  refine lv_iload_n hx hb dX2_count_0 rfl (lv_at hl 1 rfl) ?_
  have hsw : w < 0 ∨ w = 0 ∨ w = 1 ∨ w = 2 ∨ w = 3 ∨ w = 4 ∨ w = 5 ∨ 5 < w := by omega
  rcases hsw with hw | hw | hw | hw | hw | hw | hw | hw
  · skip
    refine lv_tableOut (tgt := 80) hx hb dX2_count_1 (by rw [zI_toInt (by omega)]; omega) (by decide) ?_
    refine lv_iconst (v := zI (-1)) hx hb dX2_count_80 (by first | rfl | decide) ?_
    exact W.iret (v := zI (-1)) hx hb hr (fun t ht_ hW_ => ⟨(-1), rfl, by show _ = zcn len pl bt (nT : Int) sg (nP : Int) w; unfold zcn; (repeat' split) <;> first | rfl | omega, ht_⟩) (fun q h => by cases h) dX2_count_81
  · skip
    refine lv_tableIn (off := 39) (tgt := 40) hx hb dX2_count_1 (by rw [zI_toInt (by omega)]; omega) (by rw [zI_toInt (by omega)]; omega) (by rw [zI_toInt (by omega), hw]; rfl) (by decide) ?_
    refine lv_aload_n hx hb dX2_count_40 rfl (lv_at hl 0 rfl) ?_
    refine va_get (D := D) (ci := 2) (v := .int (zI len)) (C := RX2) (T := TX2) (N := 12) hx hb hts inX2_count_X2 hown hK.1 hP 0 rfl rfl 7 (by decide) (hts (.fieldLink RX2 48 "TextEnds" "length" "I") (List.mem_of_getElem? (i := 1) rfl)) (fun _ h9 => h9) rfl dX2_count_41 ?_
    exact W.iret (v := zI len) hx hb hr (fun t ht_ hW_ => ⟨len, rfl, by show _ = zcn len pl bt (nT : Int) sg (nP : Int) w; unfold zcn; (repeat' split) <;> first | rfl | omega, ht_⟩) (fun q h => by cases h) dX2_count_44
  · skip
    refine lv_tableIn (off := 44) (tgt := 45) hx hb dX2_count_1 (by rw [zI_toInt (by omega)]; omega) (by rw [zI_toInt (by omega)]; omega) (by rw [zI_toInt (by omega), hw]; rfl) (by decide) ?_
    refine lv_aload_n hx hb dX2_count_45 rfl (lv_at hl 0 rfl) ?_
    refine va_get (D := D) (ci := 2) (v := .int (zI pl)) (C := RX2) (T := TX2) (N := 12) hx hb hts inX2_count_X2 hown hK.1 hP 0 rfl rfl 8 (by decide) (hts (.fieldLink RX2 82 "TextEnds" "patternLength" "I") (List.mem_of_getElem? (i := 2) rfl)) (fun _ h9 => h9) rfl dX2_count_46 ?_
    exact W.iret (v := zI pl) hx hb hr (fun t ht_ hW_ => ⟨pl, rfl, by show _ = zcn len pl bt (nT : Int) sg (nP : Int) w; unfold zcn; (repeat' split) <;> first | rfl | omega, ht_⟩) (fun q h => by cases h) dX2_count_49
  · skip
    refine lv_tableIn (off := 49) (tgt := 50) hx hb dX2_count_1 (by rw [zI_toInt (by omega)]; omega) (by rw [zI_toInt (by omega)]; omega) (by rw [zI_toInt (by omega), hw]; rfl) (by decide) ?_
    refine lv_aload_n hx hb dX2_count_50 rfl (lv_at hl 0 rfl) ?_
    refine va_get (D := D) (ci := 2) (v := .int (zI bt)) (C := RX2) (T := TX2) (N := 12) hx hb hts inX2_count_X2 hown hK.1 hP 0 rfl rfl 9 (by decide) (hts (.fieldLink RX2 51 "TextEnds" "built" "Z") (List.mem_of_getElem? (i := 3) rfl)) (fun _ h9 => h9) rfl dX2_count_51 ?_
    refine z_if_eq (tgt := 61) hx hb dX2_count_54 (by decide) (by omega) (fun h_1 => ?_) (fun h_1 => ?_)
    · skip
      refine lv_iconst (v := zI 0) hx hb dX2_count_61 (by first | rfl | decide) ?_
      exact W.iret (v := zI 0) hx hb hr (fun t ht_ hW_ => ⟨0, rfl, by show _ = zcn len pl bt (nT : Int) sg (nP : Int) w; unfold zcn; (repeat' split) <;> first | rfl | omega, ht_⟩) (fun q h => by cases h) dX2_count_62
    · skip
      refine lv_iconst (v := zI 1) hx hb dX2_count_57 (by first | rfl | decide) ?_
      refine lv_goto (tgt := 62) hx hb dX2_count_58 (by decide) ?_
      exact W.iret (v := zI 1) hx hb hr (fun t ht_ hW_ => ⟨1, rfl, by show _ = zcn len pl bt (nT : Int) sg (nP : Int) w; unfold zcn; (repeat' split) <;> first | rfl | omega, ht_⟩) (fun q h => by cases h) dX2_count_62
  · skip
    refine lv_tableIn (off := 62) (tgt := 63) hx hb dX2_count_1 (by rw [zI_toInt (by omega)]; omega) (by rw [zI_toInt (by omega)]; omega) (by rw [zI_toInt (by omega), hw]; rfl) (by decide) ?_
    refine lv_aload_n hx hb dX2_count_63 rfl (lv_at hl 0 rfl) ?_
    refine va_get (D := D) (ci := 2) (v := .ref (b 1)) (C := RX2) (T := TX2) (N := 12) hx hb hts inX2_count_X2 hown hK.1 hP 0 rfl rfl 2 (by decide) (hts (.fieldLink RX2 30 "TextEnds" "text" "[I") (List.mem_of_getElem? (i := 4) rfl)) (fun _ h9 => h9) rfl dX2_count_64 ?_
    refine z_alen hx hb hK.1 hP 1 0 rfl rfl dX2_count_67 ?_
    exact W.iret (v := zI (nT : Int)) hx hb hr (fun t ht_ hW_ => ⟨(nT : Int), rfl, by show _ = zcn len pl bt (nT : Int) sg (nP : Int) w; unfold zcn; (repeat' split) <;> first | rfl | omega, ht_⟩) (fun q h => by cases h) dX2_count_68
  · skip
    refine lv_tableIn (off := 68) (tgt := 69) hx hb dX2_count_1 (by rw [zI_toInt (by omega)]; omega) (by rw [zI_toInt (by omega)]; omega) (by rw [zI_toInt (by omega), hw]; rfl) (by decide) ?_
    refine lv_aload_n hx hb dX2_count_69 rfl (lv_at hl 0 rfl) ?_
    refine va_get (D := D) (ci := 2) (v := .int (zI sg)) (C := RX2) (T := TX2) (N := 12) hx hb hts inX2_count_X2 hown hK.1 hP 0 rfl rfl 0 (by decide) (hts (.fieldLink RX2 13 "TextEnds" "sigma" "I") (List.mem_of_getElem? (i := 5) rfl)) (fun _ h9 => h9) rfl dX2_count_70 ?_
    exact W.iret (v := zI sg) hx hb hr (fun t ht_ hW_ => ⟨sg, rfl, by show _ = zcn len pl bt (nT : Int) sg (nP : Int) w; unfold zcn; (repeat' split) <;> first | rfl | omega, ht_⟩) (fun q h => by cases h) dX2_count_73
  · skip
    refine lv_tableIn (off := 73) (tgt := 74) hx hb dX2_count_1 (by rw [zI_toInt (by omega)]; omega) (by rw [zI_toInt (by omega)]; omega) (by rw [zI_toInt (by omega), hw]; rfl) (by decide) ?_
    refine lv_aload_n hx hb dX2_count_74 rfl (lv_at hl 0 rfl) ?_
    refine va_get (D := D) (ci := 2) (v := .ref (b 2)) (C := RX2) (T := TX2) (N := 12) hx hb hts inX2_count_X2 hown hK.1 hP 0 rfl rfl 4 (by decide) (hts (.fieldLink RX2 35 "TextEnds" "pattern" "[I") (List.mem_of_getElem? (i := 6) rfl)) (fun _ h9 => h9) rfl dX2_count_75 ?_
    refine z_alen hx hb hK.1 hP 2 0 rfl rfl dX2_count_78 ?_
    exact W.iret (v := zI (nP : Int)) hx hb hr (fun t ht_ hW_ => ⟨(nP : Int), rfl, by show _ = zcn len pl bt (nT : Int) sg (nP : Int) w; unfold zcn; (repeat' split) <;> first | rfl | omega, ht_⟩) (fun q h => by cases h) dX2_count_79
  · skip
    refine lv_tableOut (tgt := 80) hx hb dX2_count_1 (by rw [zI_toInt (by omega)]; omega) (by decide) ?_
    refine lv_iconst (v := zI (-1)) hx hb dX2_count_80 (by first | rfl | decide) ?_
    exact W.iret (v := zI (-1)) hx hb hr (fun t ht_ hW_ => ⟨(-1), rfl, by show _ = zcn len pl bt (nT : Int) sg (nP : Int) w; unfold zcn; (repeat' split) <;> first | rfl | omega, ht_⟩) (fun q h => by cases h) dX2_count_81
set_option maxHeartbeats 4000000 in
set_option maxRecDepth 100000 in
/-- count(what) -/
theorem kX3_count (l : Launch) (D : va_G) (cI cZ cL : ClassId) (d : Nat → Nat) (rm sg pr sz bt ps fi ht fo : Int) (w : Int) (hbt : bt = 0 ∨ bt = 1) (hw1 : zR w) : Met l yX3_count wsX3_count ({ frames := 0, cells := 0, slots := 0, locals := 0 }) (zPr D cI cZ cL [.ref (d 0), .int (zI w)] [(d 0, .inr (3, mo d rm sg pr sz bt ps fi ht fo))]) (zQi (fun r => r = zcn sz ps bt rm sg pr w)) 0 0 (fun _ => False) := by
  refine Met.ofW (cc := cX3_count) (maxL := 2) (ret := (some .int)) (by decide) rfl ?_
  intro p e s m args below meth c s₁ B hml hv
  obtain ⟨rfl, hP, hK⟩ := hv
  have hx := B.exec
  have hb := B.bytes
  have hr := B.returns
  have hts := atoms_spec (ws := wsX3_count) B.pre
  have hown : s.vm.findClass RX3 = some m.cls := findClass_of_methodNamed B.named
  have hlocks := B.notSynchronized
  have hP : va_P D vwCl [(d 0, .inr (3, mo d rm sg pr sz bt ps fi ht fo))] s.heap := hP
  have hl := lv_entry ([.ref (d 0), .int (zI w)]) (n := 2) (Nat.le_of_ble_eq_true rfl)
  rw [lg_entry_eq]
  generalize (lg_sl ([.ref (d 0), .int (zI w)]) ++ List.replicate (2 - (lg_sl ([.ref (d 0), .int (zI w)])).length) Slot.unset).toArray = ls at hl ⊢
  have hl : lv_has ls 2 [(0, .ref (d 0)), (1, .int (zI w))] := hl
  refine lv_iload_n hx hb dX3_count_0 rfl (lv_at hl 1 rfl) ?_
  have hsw : w < 0 ∨ w = 0 ∨ w = 1 ∨ w = 2 ∨ w = 3 ∨ w = 4 ∨ w = 5 ∨ 5 < w := by omega
  rcases hsw with hw | hw | hw | hw | hw | hw | hw | hw
  · skip
    refine lv_tableOut (tgt := 78) hx hb dX3_count_1 (by rw [zI_toInt (by omega)]; omega) (by decide) ?_
    refine lv_iconst (v := zI (-1)) hx hb dX3_count_78 (by first | rfl | decide) ?_
    exact W.iret (v := zI (-1)) hx hb hr (fun t ht_ hW_ => ⟨(-1), rfl, by show _ = zcn sz ps bt rm sg pr w; unfold zcn; (repeat' split) <;> first | rfl | omega, ht_⟩) (fun q h => by cases h) dX3_count_79
  · skip
    refine lv_tableIn (off := 39) (tgt := 40) hx hb dX3_count_1 (by rw [zI_toInt (by omega)]; omega) (by rw [zI_toInt (by omega)]; omega) (by rw [zI_toInt (by omega), hw]; rfl) (by decide) ?_
    refine lv_aload_n hx hb dX3_count_40 rfl (lv_at hl 0 rfl) ?_
    refine va_get (D := D) (ci := 3) (v := .int (zI sz)) (C := RX3) (T := TX3) (N := 13) hx hb hts inX3_count_X3 hown hK.1 hP 0 rfl rfl 4 (by decide) (hts (.fieldLink RX3 32 "TextEndsModel" "size" "I") (List.mem_of_getElem? (i := 1) rfl)) (fun _ h9 => h9) rfl dX3_count_41 ?_
    exact W.iret (v := zI sz) hx hb hr (fun t ht_ hW_ => ⟨sz, rfl, by show _ = zcn sz ps bt rm sg pr w; unfold zcn; (repeat' split) <;> first | rfl | omega, ht_⟩) (fun q h => by cases h) dX3_count_44
  · skip
    refine lv_tableIn (off := 44) (tgt := 45) hx hb dX3_count_1 (by rw [zI_toInt (by omega)]; omega) (by rw [zI_toInt (by omega)]; omega) (by rw [zI_toInt (by omega), hw]; rfl) (by decide) ?_
    refine lv_aload_n hx hb dX3_count_45 rfl (lv_at hl 0 rfl) ?_
    refine va_get (D := D) (ci := 3) (v := .int (zI ps)) (C := RX3) (T := TX3) (N := 13) hx hb hts inX3_count_X3 hown hK.1 hP 0 rfl rfl 9 (by decide) (hts (.fieldLink RX3 57 "TextEndsModel" "patternSize" "I") (List.mem_of_getElem? (i := 2) rfl)) (fun _ h9 => h9) rfl dX3_count_46 ?_
    exact W.iret (v := zI ps) hx hb hr (fun t ht_ hW_ => ⟨ps, rfl, by show _ = zcn sz ps bt rm sg pr w; unfold zcn; (repeat' split) <;> first | rfl | omega, ht_⟩) (fun q h => by cases h) dX3_count_49
  · skip
    refine lv_tableIn (off := 49) (tgt := 50) hx hb dX3_count_1 (by rw [zI_toInt (by omega)]; omega) (by rw [zI_toInt (by omega)]; omega) (by rw [zI_toInt (by omega), hw]; rfl) (by decide) ?_
    refine lv_aload_n hx hb dX3_count_50 rfl (lv_at hl 0 rfl) ?_
    refine va_get (D := D) (ci := 3) (v := .int (zI bt)) (C := RX3) (T := TX3) (N := 13) hx hb hts inX3_count_X3 hown hK.1 hP 0 rfl rfl 5 (by decide) (hts (.fieldLink RX3 35 "TextEndsModel" "built" "Z") (List.mem_of_getElem? (i := 3) rfl)) (fun _ h9 => h9) rfl dX3_count_51 ?_
    refine z_if_eq (tgt := 61) hx hb dX3_count_54 (by decide) (by omega) (fun h_1 => ?_) (fun h_1 => ?_)
    · skip
      refine lv_iconst (v := zI 0) hx hb dX3_count_61 (by first | rfl | decide) ?_
      exact W.iret (v := zI 0) hx hb hr (fun t ht_ hW_ => ⟨0, rfl, by show _ = zcn sz ps bt rm sg pr w; unfold zcn; (repeat' split) <;> first | rfl | omega, ht_⟩) (fun q h => by cases h) dX3_count_62
    · skip
      refine lv_iconst (v := zI 1) hx hb dX3_count_57 (by first | rfl | decide) ?_
      refine lv_goto (tgt := 62) hx hb dX3_count_58 (by decide) ?_
      exact W.iret (v := zI 1) hx hb hr (fun t ht_ hW_ => ⟨1, rfl, by show _ = zcn sz ps bt rm sg pr w; unfold zcn; (repeat' split) <;> first | rfl | omega, ht_⟩) (fun q h => by cases h) dX3_count_62
  · skip
    refine lv_tableIn (off := 62) (tgt := 63) hx hb dX3_count_1 (by rw [zI_toInt (by omega)]; omega) (by rw [zI_toInt (by omega)]; omega) (by rw [zI_toInt (by omega), hw]; rfl) (by decide) ?_
    refine lv_aload_n hx hb dX3_count_63 rfl (lv_at hl 0 rfl) ?_
    refine va_get (D := D) (ci := 3) (v := .int (zI rm)) (C := RX3) (T := TX3) (N := 13) hx hb hts inX3_count_X3 hown hK.1 hP 0 rfl rfl 0 (by decide) (hts (.fieldLink RX3 22 "TextEndsModel" "room" "I") (List.mem_of_getElem? (i := 4) rfl)) (fun _ h9 => h9) rfl dX3_count_64 ?_
    exact W.iret (v := zI rm) hx hb hr (fun t ht_ hW_ => ⟨rm, rfl, by show _ = zcn sz ps bt rm sg pr w; unfold zcn; (repeat' split) <;> first | rfl | omega, ht_⟩) (fun q h => by cases h) dX3_count_67
  · skip
    refine lv_tableIn (off := 67) (tgt := 68) hx hb dX3_count_1 (by rw [zI_toInt (by omega)]; omega) (by rw [zI_toInt (by omega)]; omega) (by rw [zI_toInt (by omega), hw]; rfl) (by decide) ?_
    refine lv_aload_n hx hb dX3_count_68 rfl (lv_at hl 0 rfl) ?_
    refine va_get (D := D) (ci := 3) (v := .int (zI sg)) (C := RX3) (T := TX3) (N := 13) hx hb hts inX3_count_X3 hown hK.1 hP 0 rfl rfl 1 (by decide) (hts (.fieldLink RX3 26 "TextEndsModel" "sigma" "I") (List.mem_of_getElem? (i := 5) rfl)) (fun _ h9 => h9) rfl dX3_count_69 ?_
    exact W.iret (v := zI sg) hx hb hr (fun t ht_ hW_ => ⟨sg, rfl, by show _ = zcn sz ps bt rm sg pr w; unfold zcn; (repeat' split) <;> first | rfl | omega, ht_⟩) (fun q h => by cases h) dX3_count_72
  · skip
    refine lv_tableIn (off := 72) (tgt := 73) hx hb dX3_count_1 (by rw [zI_toInt (by omega)]; omega) (by rw [zI_toInt (by omega)]; omega) (by rw [zI_toInt (by omega), hw]; rfl) (by decide) ?_
    refine lv_aload_n hx hb dX3_count_73 rfl (lv_at hl 0 rfl) ?_
    refine va_get (D := D) (ci := 3) (v := .int (zI pr)) (C := RX3) (T := TX3) (N := 13) hx hb hts inX3_count_X3 hown hK.1 hP 0 rfl rfl 2 (by decide) (hts (.fieldLink RX3 29 "TextEndsModel" "patternRoom" "I") (List.mem_of_getElem? (i := 6) rfl)) (fun _ h9 => h9) rfl dX3_count_74 ?_
    exact W.iret (v := zI pr) hx hb hr (fun t ht_ hW_ => ⟨pr, rfl, by show _ = zcn sz ps bt rm sg pr w; unfold zcn; (repeat' split) <;> first | rfl | omega, ht_⟩) (fun q h => by cases h) dX3_count_77
  · skip
    refine lv_tableOut (tgt := 78) hx hb dX3_count_1 (by rw [zI_toInt (by omega)]; omega) (by decide) ?_
    refine lv_iconst (v := zI (-1)) hx hb dX3_count_78 (by first | rfl | decide) ?_
    exact W.iret (v := zI (-1)) hx hb hr (fun t ht_ hW_ => ⟨(-1), rfl, by show _ = zcn sz ps bt rm sg pr w; unfold zcn; (repeat' split) <;> first | rfl | omega, ht_⟩) (fun q h => by cases h) dX3_count_79
set_option maxHeartbeats 4000000 in
set_option maxRecDepth 100000 in
/-- repeatedAt() -/
theorem kX3_repeatedAt (l : Launch) (D : va_G) (cI cZ cL : ClassId) (d : Nat → Nat) (rm sg pr sz bt ps fi ht fo : Int) (nT nO : Nat) (T od : Int → Int) (hsz : 0 ≤ sz ∧ sz ≤ 1000000) (hsT : sz ≤ (nT : Int)) (bnT : (nT : Int) < 1073741824) (hT : zS T) (hbt : bt = 0 ∨ bt = 1) (hsO : sz ≤ (nO : Int)) (bnO : (nO : Int) < 1073741824) (hod : bt ≠ 0 → ∀ i, 0 ≤ i → i < sz → 0 ≤ od i ∧ od i < sz) : Met l yX3_repeatedAt wsX3_repeatedAt ({ frames := 2, cells := 0, slots := 0, locals := 46 }) (zPr D cI cZ cL [.ref (d 0)] [(d 0, .inr (3, mo d rm sg pr sz bt ps fi ht fo)), (d 1, .inl (cI, nT, .inl (zA T))), (d 2, .inl (cI, nO, .inl (zA od)))]) (zQi (fun r => r = zra bt sz (zcc sz T od) od)) 0 0 (fun _ => False) := by
  refine Met.ofW (cc := cX3_repeatedAt) (maxL := 4) (ret := (some .int)) (by decide) rfl ?_
  intro p e s m args below meth c s₁ B hml hv
  obtain ⟨rfl, hP, hK⟩ := hv
  have hx := B.exec
  have hb := B.bytes
  have hr := B.returns
  have hts := atoms_spec (ws := wsX3_repeatedAt) B.pre
  have hown : s.vm.findClass RX3 = some m.cls := findClass_of_methodNamed B.named
  have hlocks := B.notSynchronized
  have hP : va_P D vwCl [(d 0, .inr (3, mo d rm sg pr sz bt ps fi ht fo)), (d 1, .inl (cI, nT, .inl (zA T))), (d 2, .inl (cI, nO, .inl (zA od)))] s.heap := hP
  have hl := lv_entry ([.ref (d 0)]) (n := 4) (Nat.le_of_ble_eq_true rfl)
  rw [lg_entry_eq]
  generalize (lg_sl ([.ref (d 0)]) ++ List.replicate (4 - (lg_sl ([.ref (d 0)])).length) Slot.unset).toArray = ls at hl ⊢
  have hl : lv_has ls 4 [(0, .ref (d 0))] := hl
  have hRS := zrp_S (bt := bt) (sz := sz) (c := zcc sz T od) hsz.1 (fun hb k h1 h2 => by have g1 := hod hb (k - 1) (by omega) (by omega); have g2 := hod hb k (by omega) (by omega); have g3 : 0 ≤ zcc sz T od k ∧ od (k - 1) + zcc sz T od k ≤ sz ∧ od k + zcc sz T od k ≤ sz := zcm_le (len := sz) (T := T) (a := od (k - 1)) (b := od k) (k := 0) (by omega) (by omega); omega)
  refine lv_aload_n hx hb dX3_repeatedAt_0 rfl (lv_at hl 0 rfl) ?_
  refine z_cr (va_runV (As := []) (rest := []) ⟨hx, hb, hml, hown, hts⟩ (kX3_repeated l D cI cZ cL d rm sg pr sz bt ps fi ht fo nT nO T od (by omega) (by omega) (by omega) (hT) (by omega) (by omega) (by omega) (hod)) (cwV 0 hts gX3_repeatedAt_X3_repeated rfl rfl rfl (by decide +kernel) ⟨Nat.le_of_ble_eq_true rfl, Nat.le_of_ble_eq_true rfl⟩) (zPr_preV (ci := 3) (q0 := 0) hK (hP.sub (ws' := [(d 0, .inr (3, mo d rm sg pr sz bt ps fi ht fo)), (d 1, .inl (cI, nT, .inl (zA T))), (d 2, .inl (cI, nO, .inl (zA od)))]) [0, 1, 2] rfl) rfl rfl) rfl rfl hl.1 rfl (lv_room (Nat.le_of_ble_eq_true rfl)) dX3_repeatedAt_1 ⟨Nat.zero_le _, Nat.zero_le _⟩) (fun r hr_ => ?_)
  subst hr_
  refine lv_istore_n (lv' := [(1, .int (zI (zrp bt sz (zcc sz T od)))), (0, .ref (d 0))]) hx hb dX3_repeatedAt_4 rfl hl (by decide) rfl (fun ls hl => ?_)
  refine lv_iload_n hx hb dX3_repeatedAt_5 rfl (lv_at hl 0 rfl) ?_
  refine lv_iconst (v := zI 1) hx hb dX3_repeatedAt_6 (by first | rfl | decide) ?_
  refine z_icmp_ge (tgt := 12) hx hb dX3_repeatedAt_7 (by decide) (by omega) (by omega) (fun h_1 => ?_) (fun h_1 => ?_)
  · skip
    have hge := h_1
    obtain ⟨hbz, jj, hj0, hj1, hj2⟩ := zrp_ex hge
    refine lv_iconst (v := zI 1) hx hb dX3_repeatedAt_12 (by first | rfl | decide) ?_
    refine lv_istore_n (lv' := [(2, .int (zI 1)), (1, .int (zI (zrp bt sz (zcc sz T od)))), (0, .ref (d 0))]) hx hb dX3_repeatedAt_13 rfl hl (by decide) rfl (fun ls hl => ?_)
    have loop14 : ∀ (nn : Nat) (k : Int) (ls : Array Slot), (1 ≤ k ∧ k ≤ jj) → (zfk (zcc sz T od) (zrp bt sz (zcc sz T od)) (sz - k).toNat k = zfk (zcc sz T od) (zrp bt sz (zcc sz T od)) (sz - 1).toNat 1) → ((sz - k).toNat) < nn → lv_has ls 4 [(0, .ref (d 0)), (1, .int (zI (zrp bt sz (zcc sz T od)))), (2, .int (zI k))] → W p l e (headSpec wsX3_repeatedAt ({ frames := 2, cells := 0, slots := 0, locals := 46 })).room s m ([.ref (d 0)] : List Value).toArray below meth c s.heap [] 0 0 (MQ below (zQi (fun r => r = zra bt sz (zcc sz T od) od)) ([.ref (d 0)] : List Value).toArray s 0 0 (fun _ => False)) (F0 m 14 ls []) := by
      intro nn
      induction nn with
      | zero =>
        intros
        exact absurd (by assumption : _ < 0) (Nat.not_lt_zero _)
      | succ nn ih14 =>
        intro k ls h0 hq hmu hl
        have hk1 := hod hbz (k - 1) (by omega) (by omega)
        have hk2 := hod hbz k (by omega) (by omega)
        have hk3 : 0 ≤ zcc sz T od k ∧ od (k - 1) + zcc sz T od k ≤ sz ∧ od k + zcc sz T od k ≤ sz := zcm_le (len := sz) (T := T) (a := od (k - 1)) (b := od k) (k := 0) (by omega) (by omega)
        refine lv_aload_n hx hb dX3_repeatedAt_14 rfl (lv_at hl 0 rfl) ?_
        refine lv_aload_n hx hb dX3_repeatedAt_15 rfl (lv_at hl 0 rfl) ?_
        refine va_get (D := D) (ci := 3) (v := .ref (d 2)) (C := RX3) (T := TX3) (N := 13) hx hb hts inX3_repeatedAt_X3 hown hK.1 hP 0 rfl rfl 6 (by decide) (hts (.fieldLink RX3 13 "TextEndsModel" "order" "[I") (List.mem_of_getElem? (i := 1) rfl)) (fun _ h9 => h9) rfl dX3_repeatedAt_16 ?_
        refine lv_iload_n hx hb dX3_repeatedAt_19 rfl (lv_at hl 2 rfl) ?_
        refine lv_iconst (v := zI 1) hx hb dX3_repeatedAt_20 (by first | rfl | decide) ?_
        refine z_isub hx hb dX3_repeatedAt_21 ?_
        refine z_iald hx hb hK.1 hP 2 0 rfl rfl dX3_repeatedAt_22 (by omega) (by omega) (by omega) ?_
        refine lv_aload_n hx hb dX3_repeatedAt_23 rfl (lv_at hl 0 rfl) ?_
        refine va_get (D := D) (ci := 3) (v := .ref (d 2)) (C := RX3) (T := TX3) (N := 13) hx hb hts inX3_repeatedAt_X3 hown hK.1 hP 0 rfl rfl 6 (by decide) (hts (.fieldLink RX3 13 "TextEndsModel" "order" "[I") (List.mem_of_getElem? (i := 1) rfl)) (fun _ h9 => h9) rfl dX3_repeatedAt_24 ?_
        refine lv_iload_n hx hb dX3_repeatedAt_27 rfl (lv_at hl 2 rfl) ?_
        refine z_iald hx hb hK.1 hP 2 0 rfl rfl dX3_repeatedAt_28 (by omega) (by omega) (by omega) ?_
        refine z_cr (va_runV (As := [.int (zI (od (k - 1))), .int (zI (od k))]) (rest := []) ⟨hx, hb, hml, hown, hts⟩ (kX3_commonOf l D cI cZ cL d rm sg pr sz bt ps fi ht fo nT T (od (k - 1)) (od k) (by omega) (by omega) (by omega) (hT) (by omega) (by omega)) (cwV 2 hts gX3_repeatedAt_X3_commonOf rfl rfl rfl (by decide +kernel) ⟨Nat.le_of_ble_eq_true rfl, Nat.le_of_ble_eq_true rfl⟩) (zPr_preV (ci := 3) (q0 := 0) hK (hP.sub (ws' := [(d 0, .inr (3, mo d rm sg pr sz bt ps fi ht fo)), (d 1, .inl (cI, nT, .inl (zA T)))]) [0, 1] rfl) rfl rfl) rfl rfl hl.1 rfl (lv_room (Nat.le_of_ble_eq_true rfl)) dX3_repeatedAt_29 ⟨Nat.zero_le _, Nat.zero_le _⟩) (fun r hr_ => ?_)
        subst hr_
        refine z_top (b := zcc sz T od k) (rfl) ?_
        refine lv_iload_n hx hb dX3_repeatedAt_32 rfl (lv_at hl 1 rfl) ?_
        refine z_icmp_ge (tgt := 42) hx hb dX3_repeatedAt_33 (by decide) (by omega) (by omega) (fun h_2 => ?_) (fun h_2 => ?_)
        · skip
          have hkk : zfk (zcc sz T od) (zrp bt sz (zcc sz T od)) (sz - k).toNat k = k := zfk_at (by omega)
          have hk0 := hod hbz (k - 1) (by omega) (by omega)
          refine lv_aload_n hx hb dX3_repeatedAt_42 rfl (lv_at hl 0 rfl) ?_
          refine va_get (D := D) (ci := 3) (v := .ref (d 2)) (C := RX3) (T := TX3) (N := 13) hx hb hts inX3_repeatedAt_X3 hown hK.1 hP 0 rfl rfl 6 (by decide) (hts (.fieldLink RX3 13 "TextEndsModel" "order" "[I") (List.mem_of_getElem? (i := 1) rfl)) (fun _ h9 => h9) rfl dX3_repeatedAt_43 ?_
          refine lv_iload_n hx hb dX3_repeatedAt_46 rfl (lv_at hl 2 rfl) ?_
          refine lv_iconst (v := zI 1) hx hb dX3_repeatedAt_47 (by first | rfl | decide) ?_
          refine z_isub hx hb dX3_repeatedAt_48 ?_
          refine z_iald hx hb hK.1 hP 2 0 rfl rfl dX3_repeatedAt_49 (by omega) (by omega) (by omega) ?_
          refine lv_istore_n (lv' := [(3, .int (zI (od (k - 1)))), (0, .ref (d 0)), (1, .int (zI (zrp bt sz (zcc sz T od)))), (2, .int (zI k))]) hx hb dX3_repeatedAt_50 rfl hl (by decide) rfl (fun ls hl => ?_)
          have loop51 : ∀ (nn : Nat) (j : Int) (lq : Int) (ls : Array Slot), (1 ≤ j ∧ j ≤ sz) → (0 ≤ lq ∧ lq ≤ sz) → (zls (zcc sz T od) od (zrp bt sz (zcc sz T od)) (sz - j).toNat j lq = zra bt sz (zcc sz T od) od) → ((sz - j).toNat) < nn → lv_has ls 4 [(0, .ref (d 0)), (1, .int (zI (zrp bt sz (zcc sz T od)))), (2, .int (zI j)), (3, .int (zI lq))] → W p l e (headSpec wsX3_repeatedAt ({ frames := 2, cells := 0, slots := 0, locals := 46 })).room s m ([.ref (d 0)] : List Value).toArray below meth c s.heap [] 0 0 (MQ below (zQi (fun r => r = zra bt sz (zcc sz T od) od)) ([.ref (d 0)] : List Value).toArray s 0 0 (fun _ => False)) (F0 m 51 ls []) := by
            intro nn
            induction nn with
            | zero =>
              intros
              exact absurd (by assumption : _ < 0) (Nat.not_lt_zero _)
            | succ nn ih51 =>
              intro j lq ls g0 gl gq hmu hl
              refine lv_iload_n hx hb dX3_repeatedAt_51 rfl (lv_at hl 2 rfl) ?_
              refine lv_aload_n hx hb dX3_repeatedAt_52 rfl (lv_at hl 0 rfl) ?_
              refine va_get (D := D) (ci := 3) (v := .int (zI sz)) (C := RX3) (T := TX3) (N := 13) hx hb hts inX3_repeatedAt_X3 hown hK.1 hP 0 rfl rfl 4 (by decide) (hts (.fieldLink RX3 32 "TextEndsModel" "size" "I") (List.mem_of_getElem? (i := 2) rfl)) (fun _ h9 => h9) rfl dX3_repeatedAt_53 ?_
              refine z_icmp_ge (tgt := 108) hx hb dX3_repeatedAt_56 (by decide) (by omega) (by omega) (fun h_3 => ?_) (fun h_3 => ?_)
              · skip
                refine lv_iload_n hx hb dX3_repeatedAt_108 rfl (lv_at hl 3 rfl) ?_
                exact W.iret (v := zI lq) hx hb hr (fun t ht_ hW_ => ⟨lq, rfl, by rw [← gq]; first | exact (zls_at (by with_reducible assumption)).symm | exact (zls_0 (by omega)).symm, ht_⟩) (fun q h => by cases h) dX3_repeatedAt_109
              · skip
                have hk1 := hod hbz (j - 1) (by omega) (by omega)
                have hk2 := hod hbz j (by omega) (by omega)
                have hk3 : 0 ≤ zcc sz T od j ∧ od (j - 1) + zcc sz T od j ≤ sz ∧ od j + zcc sz T od j ≤ sz := zcm_le (len := sz) (T := T) (a := od (j - 1)) (b := od j) (k := 0) (by omega) (by omega)
                refine lv_aload_n hx hb dX3_repeatedAt_59 rfl (lv_at hl 0 rfl) ?_
                refine lv_aload_n hx hb dX3_repeatedAt_60 rfl (lv_at hl 0 rfl) ?_
                refine va_get (D := D) (ci := 3) (v := .ref (d 2)) (C := RX3) (T := TX3) (N := 13) hx hb hts inX3_repeatedAt_X3 hown hK.1 hP 0 rfl rfl 6 (by decide) (hts (.fieldLink RX3 13 "TextEndsModel" "order" "[I") (List.mem_of_getElem? (i := 1) rfl)) (fun _ h9 => h9) rfl dX3_repeatedAt_61 ?_
                refine lv_iload_n hx hb dX3_repeatedAt_64 rfl (lv_at hl 2 rfl) ?_
                refine lv_iconst (v := zI 1) hx hb dX3_repeatedAt_65 (by first | rfl | decide) ?_
                refine z_isub hx hb dX3_repeatedAt_66 ?_
                refine z_iald hx hb hK.1 hP 2 0 rfl rfl dX3_repeatedAt_67 (by omega) (by omega) (by omega) ?_
                refine lv_aload_n hx hb dX3_repeatedAt_68 rfl (lv_at hl 0 rfl) ?_
                refine va_get (D := D) (ci := 3) (v := .ref (d 2)) (C := RX3) (T := TX3) (N := 13) hx hb hts inX3_repeatedAt_X3 hown hK.1 hP 0 rfl rfl 6 (by decide) (hts (.fieldLink RX3 13 "TextEndsModel" "order" "[I") (List.mem_of_getElem? (i := 1) rfl)) (fun _ h9 => h9) rfl dX3_repeatedAt_69 ?_
                refine lv_iload_n hx hb dX3_repeatedAt_72 rfl (lv_at hl 2 rfl) ?_
                refine z_iald hx hb hK.1 hP 2 0 rfl rfl dX3_repeatedAt_73 (by omega) (by omega) (by omega) ?_
                refine z_cr (va_runV (As := [.int (zI (od (j - 1))), .int (zI (od j))]) (rest := []) ⟨hx, hb, hml, hown, hts⟩ (kX3_commonOf l D cI cZ cL d rm sg pr sz bt ps fi ht fo nT T (od (j - 1)) (od j) (by omega) (by omega) (by omega) (hT) (by omega) (by omega)) (cwV 2 hts gX3_repeatedAt_X3_commonOf rfl rfl rfl (by decide +kernel) ⟨Nat.le_of_ble_eq_true rfl, Nat.le_of_ble_eq_true rfl⟩) (zPr_preV (ci := 3) (q0 := 0) hK (hP.sub (ws' := [(d 0, .inr (3, mo d rm sg pr sz bt ps fi ht fo)), (d 1, .inl (cI, nT, .inl (zA T)))]) [0, 1] rfl) rfl rfl) rfl rfl hl.1 rfl (lv_room (Nat.le_of_ble_eq_true rfl)) dX3_repeatedAt_74 ⟨Nat.zero_le _, Nat.zero_le _⟩) (fun r hr_ => ?_)
                subst hr_
                refine z_top (b := zcc sz T od j) (rfl) ?_
                refine lv_iload_n hx hb dX3_repeatedAt_77 rfl (lv_at hl 1 rfl) ?_
                refine z_icmp_ne (tgt := 108) hx hb dX3_repeatedAt_78 (by decide) (by omega) (by omega) (fun h_4 => ?_) (fun h_4 => ?_)
                · skip
                  refine lv_iload_n hx hb dX3_repeatedAt_108 rfl (lv_at hl 3 rfl) ?_
                  exact W.iret (v := zI lq) hx hb hr (fun t ht_ hW_ => ⟨lq, rfl, by rw [← gq]; first | exact (zls_at (by with_reducible assumption)).symm | exact (zls_0 (by omega)).symm, ht_⟩) (fun q h => by cases h) dX3_repeatedAt_109
                · skip
                  have hcm := h_4
                  refine lv_aload_n hx hb dX3_repeatedAt_81 rfl (lv_at hl 0 rfl) ?_
                  refine va_get (D := D) (ci := 3) (v := .ref (d 2)) (C := RX3) (T := TX3) (N := 13) hx hb hts inX3_repeatedAt_X3 hown hK.1 hP 0 rfl rfl 6 (by decide) (hts (.fieldLink RX3 13 "TextEndsModel" "order" "[I") (List.mem_of_getElem? (i := 1) rfl)) (fun _ h9 => h9) rfl dX3_repeatedAt_82 ?_
                  refine lv_iload_n hx hb dX3_repeatedAt_85 rfl (lv_at hl 2 rfl) ?_
                  refine z_iald hx hb hK.1 hP 2 0 rfl rfl dX3_repeatedAt_86 (by omega) (by omega) (by omega) ?_
                  refine lv_iload_n hx hb dX3_repeatedAt_87 rfl (lv_at hl 3 rfl) ?_
                  refine z_icmp_ge (tgt := 100) hx hb dX3_repeatedAt_88 (by decide) (by omega) (by omega) (fun h_5 => ?_) (fun h_5 => ?_)
                  · skip
                    refine lv_iload_n hx hb dX3_repeatedAt_100 rfl (lv_at hl 3 rfl) ?_
                    refine z_top (b := if od j < lq then od j else lq) (by first | rw [if_pos (by omega)] | rw [if_neg (by omega)]) ?_
                    refine lv_istore_n (lv' := [(3, .int (zI (if od j < lq then od j else lq))), (0, .ref (d 0)), (1, .int (zI (zrp bt sz (zcc sz T od)))), (2, .int (zI j))]) hx hb dX3_repeatedAt_101 rfl hl (by decide) rfl (fun ls hl => ?_)
                    refine lv_iinc (v := zI (j + 1)) (lv' := [(2, .int (zI (j + 1))), (3, .int (zI (if od j < lq then od j else lq))), (0, .ref (d 0)), (1, .int (zI (zrp bt sz (zcc sz T od))))]) hx hb dX3_repeatedAt_102 hl (k := 3) rfl (zI_add _ _) (by decide) rfl (fun ls hl => ?_)
                    refine lv_goto (tgt := 51) hx hb dX3_repeatedAt_105 (by decide) ?_
                    exact ih51 (j + 1) (if od j < lq then od j else lq) ls (by omega) (by split <;> omega) (by rw [← gq, show (sz - j).toNat = (sz - (j + 1)).toNat + 1 by omega, zls_nx hcm]; rfl) (by omega) (lv_sub hl [2, 3, 0, 1] rfl)
                  · skip
                    refine lv_aload_n hx hb dX3_repeatedAt_91 rfl (lv_at hl 0 rfl) ?_
                    refine va_get (D := D) (ci := 3) (v := .ref (d 2)) (C := RX3) (T := TX3) (N := 13) hx hb hts inX3_repeatedAt_X3 hown hK.1 hP 0 rfl rfl 6 (by decide) (hts (.fieldLink RX3 13 "TextEndsModel" "order" "[I") (List.mem_of_getElem? (i := 1) rfl)) (fun _ h9 => h9) rfl dX3_repeatedAt_92 ?_
                    refine lv_iload_n hx hb dX3_repeatedAt_95 rfl (lv_at hl 2 rfl) ?_
                    refine z_iald hx hb hK.1 hP 2 0 rfl rfl dX3_repeatedAt_96 (by omega) (by omega) (by omega) ?_
                    refine lv_goto (tgt := 101) hx hb dX3_repeatedAt_97 (by decide) ?_
                    refine z_top (b := if od j < lq then od j else lq) (by first | rw [if_pos (by omega)] | rw [if_neg (by omega)]) ?_
                    refine lv_istore_n (lv' := [(3, .int (zI (if od j < lq then od j else lq))), (0, .ref (d 0)), (1, .int (zI (zrp bt sz (zcc sz T od)))), (2, .int (zI j))]) hx hb dX3_repeatedAt_101 rfl hl (by decide) rfl (fun ls hl => ?_)
                    refine lv_iinc (v := zI (j + 1)) (lv' := [(2, .int (zI (j + 1))), (3, .int (zI (if od j < lq then od j else lq))), (0, .ref (d 0)), (1, .int (zI (zrp bt sz (zcc sz T od))))]) hx hb dX3_repeatedAt_102 hl (k := 3) rfl (zI_add _ _) (by decide) rfl (fun ls hl => ?_)
                    refine lv_goto (tgt := 51) hx hb dX3_repeatedAt_105 (by decide) ?_
                    exact ih51 (j + 1) (if od j < lq then od j else lq) ls (by omega) (by split <;> omega) (by rw [← gq, show (sz - j).toNat = (sz - (j + 1)).toNat + 1 by omega, zls_nx hcm]; rfl) (by omega) (lv_sub hl [2, 3, 0, 1] rfl)
          exact loop51 _ k (od (k - 1)) ls (by omega) (by omega) (by unfold zra; rw [if_neg (by omega), ← hq, hkk]) (Nat.lt_succ_self _) (lv_sub hl [1, 2, 3, 0] rfl)
        · skip
          refine lv_iinc (v := zI (k + 1)) (lv' := [(2, .int (zI (k + 1))), (0, .ref (d 0)), (1, .int (zI (zrp bt sz (zcc sz T od))))]) hx hb dX3_repeatedAt_36 hl (k := 2) rfl (zI_add _ _) (by decide) rfl (fun ls hl => ?_)
          refine lv_goto (tgt := 14) hx hb dX3_repeatedAt_39 (by decide) ?_
          exact ih14 (k + 1) ls (by refine ⟨by omega, ?_⟩; rcases Int.lt_or_eq_of_le h0.2 with q | q; omega; rw [← q] at hj2; omega) (by rw [← hq, show (sz - k).toNat = (sz - (k + 1)).toNat + 1 by omega, zfk_nx (by with_reducible assumption)]) (by omega) (lv_sub hl [1, 2, 0] rfl)
    exact loop14 _ 1 ls (by omega) (rfl) (Nat.lt_succ_self _) (lv_sub hl [2, 1, 0] rfl)
  · skip
    have hlt1 := h_1
    refine lv_iconst (v := zI (-1)) hx hb dX3_repeatedAt_10 (by first | rfl | decide) ?_
    exact W.iret (v := zI (-1)) hx hb hr (fun t ht_ hW_ => ⟨(-1), rfl, by show _ = zra bt sz (zcc sz T od) od; unfold zra; rw [if_pos (by omega)], ht_⟩) (fun q h => by cases h) dX3_repeatedAt_11
