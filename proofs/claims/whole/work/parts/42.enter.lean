set_option maxRecDepth 20000 in
theorem inX0_markRising_X0 : ∀ w ∈ wsX00, w ∈ wsX0_markRising := by decide +kernel
set_option maxRecDepth 20000 in
theorem inX0_findValleys_X0 : ∀ w ∈ wsX00, w ∈ wsX0_findValleys := by decide +kernel
set_option maxRecDepth 20000 in
theorem inX0_findBuckets_X0 : ∀ w ∈ wsX00, w ∈ wsX0_findBuckets := by decide +kernel
set_option maxHeartbeats 4000000 in
set_option maxRecDepth 100000 in
/-- markRising() -/
theorem kX0_markRising (l : Launch) (D : va_G) (cI cZ cL : ClassId) (a : Nat → Nat) (ts : Int) (lp : Nat) (len sg vc : Int) (nl nr : Nat) (lt : Int → Int) (rs : Int → Bool) (szz : Nat) (hlen : 0 ≤ len) (hnl : len ≤ (nl : Int)) (bnl : (nl : Int) < 1073741824) (hlr : len ≤ (nr : Int)) (bnr : (nr : Int) < 1073741824) (hlt : zS lt) (hlp : ∀ i, 0 ≤ i → i < len → 0 ≤ lt i) : Met l yX0_markRising wsX0_markRising ({ frames := 1, cells := 0, slots := 0, locals := 21 }) (zPw D cI cZ cL szz [.ref (a 0)] [(a 0, .inr (0, so a ts lp len sg vc)), (lp, .inl (cI, nl, .inl (zA lt))), (a 4, .inl (cZ, nr, .inl (zA (zB rs))))]) (zQw D (va_A [(a 0, .inr (0, so a ts lp len sg vc)), (lp, .inl (cI, nl, .inl (zA lt))), (a 4, .inl (cZ, nr, .inl (zA (zB rs))))] szz) (fun _ : Unit => True) (fun _ : Unit => [(a 0, .inr (0, so a ts lp len sg vc)), (lp, .inl (cI, nl, .inl (zA lt))), (a 4, .inl (cZ, nr, .inl (zA (zB (zfill 0 len (zris len lt) rs)))))])) 0 0 (va_A [(a 0, .inr (0, so a ts lp len sg vc)), (lp, .inl (cI, nl, .inl (zA lt))), (a 4, .inl (cZ, nr, .inl (zA (zB rs))))] szz) := by
  refine Met.ofW (cc := cX0_markRising) (maxL := 4) (ret := none) (by decide) rfl ?_
  intro p e s m args below meth c s₁ B hml hv
  obtain ⟨rfl, hsz, hP, hK, hD0⟩ := hv
  have hx := B.exec
  have hb := B.bytes
  have hr := B.returns
  have hts := atoms_spec (ws := wsX0_markRising) B.pre
  have hown : s.vm.findClass RX0 = some m.cls := findClass_of_methodNamed B.named
  have hlocks := B.notSynchronized
  subst hsz
  have hD := hD0.self (sz := s.heap.size)
  generalize hAe : va_A [(a 0, .inr (0, so a ts lp len sg vc)), (lp, .inl (cI, nl, .inl (zA lt))), (a 4, .inl (cZ, nr, .inl (zA (zB rs))))] s.heap.size = A at hD ⊢
  have hA : ∀ q : Nat, s.heap.size ≤ q → A q := fun q h => by rw [← hAe]; exact Or.inr h
  have hS : va_S A s.heap s.heap [] := va_S.rf
  clear hD0
  have hP : va_P D vwCl [(a 0, .inr (0, so a ts lp len sg vc)), (lp, .inl (cI, nl, .inl (zA lt))), (a 4, .inl (cZ, nr, .inl (zA (zB rs))))] s.heap := hP
  have hl := lv_entry ([.ref (a 0)]) (n := 4) (Nat.le_of_ble_eq_true rfl)
  rw [lg_entry_eq]
  generalize (lg_sl ([.ref (a 0)]) ++ List.replicate (4 - (lg_sl ([.ref (a 0)])).length) Slot.unset).toArray = ls at hl ⊢
  have hl : lv_has ls 4 [(0, .ref (a 0))] := hl
  refine lv_aload_n hx hb dX0_markRising_0 rfl (lv_at hl 0 rfl) ?_
  refine va_get (D := D) (ci := 0) (v := .int (zI len)) (C := RX0) (T := TX0) (N := 15) hx hb hts inX0_markRising_X0 hown hK.1 hP 0 rfl rfl 12 (by decide) (hts (.fieldLink RX0 103 "TextEnds$EndSorter" "length" "I") (List.mem_of_getElem? (i := 1) rfl)) (fun _ h9 => h9) rfl dX0_markRising_1 ?_
  refine lv_iconst (v := zI 1) hx hb dX0_markRising_4 (by first | rfl | decide) ?_
  refine z_isub hx hb dX0_markRising_5 ?_
  refine lv_istore_n (lv' := [(1, .int (zI (len - 1))), (0, .ref (a 0))]) hx hb dX0_markRising_6 rfl hl (by decide) rfl (fun ls hl => ?_)
  have loop7 : ∀ (nn : Nat) (i : Int) (rr : Int → Bool) (H : Heap) (locs : List Loc) (ls : Array Slot), (-1 ≤ i) → (i < len) → (rr = zfill (i + 1) len (zris len lt) rs) → ((i + 1).toNat) < nn → va_P D vwCl [(a 0, .inr (0, so a ts lp len sg vc)), (lp, .inl (cI, nl, .inl (zA lt))), (a 4, .inl (cZ, nr, .inl (zA (zB rr))))] H → va_D A [(a 0, .inr (0, so a ts lp len sg vc)), (lp, .inl (cI, nl, .inl (zA lt))), (a 4, .inl (cZ, nr, .inl (zA (zB rr))))] → va_S A s.heap H locs → lv_has ls 4 [(0, .ref (a 0)), (1, .int (zI i))] → W p l e (headSpec wsX0_markRising ({ frames := 1, cells := 0, slots := 0, locals := 21 })).room s m ([.ref (a 0)] : List Value).toArray below meth c H locs 0 0 (MQ below (zQw D A (fun _ : Unit => True) (fun _ : Unit => [(a 0, .inr (0, so a ts lp len sg vc)), (lp, .inl (cI, nl, .inl (zA lt))), (a 4, .inl (cZ, nr, .inl (zA (zB (zfill 0 len (zris len lt) rs)))))])) ([.ref (a 0)] : List Value).toArray s 0 0 A) (F0 m 7 ls []) := by
    intro nn
    induction nn with
    | zero =>
      intros
      exact absurd (by assumption : _ < 0) (Nat.not_lt_zero _)
    | succ nn ih7 =>
      intro i rr H locs ls h0 h1 hrr hmu hP hD hS hl
      refine lv_iload_n hx hb dX0_markRising_7 rfl (lv_at hl 1 rfl) ?_
      refine z_if_lt (tgt := 62) hx hb dX0_markRising_8 (by decide) (by omega) (fun h_1 => ?_) (fun h_1 => ?_)
      · skip
        have hwe : (zB rr) = (zB (zfill 0 len (zris len lt) rs)) := by rw [hrr, show i + 1 = 0 by omega]
        rw [hwe] at hP hD
        clear hwe
        exact W.vret hx hb hr (fun t ht_ hW_ => ⟨⟨(), rfl, trivial, by rw [ht_]; exact hP, hD⟩, hS.F ht_⟩) hS.2.2 dX0_markRising_62
      · skip
        have hq1 := zla_S hlt len i
        have hq2 := zla_S hlt len (i + 1)
        refine lv_aload_n hx hb dX0_markRising_11 rfl (lv_at hl 0 rfl) ?_
        refine lv_iload_n hx hb dX0_markRising_12 rfl (lv_at hl 1 rfl) ?_
        refine z_cr (va_runV (As := [.int (zI i)]) (rest := []) ⟨hx, hb, hml, hown, hts⟩ (kX0_letterAt l D cI cZ cL a ts lp len sg vc nl lt i (by omega) (by omega) (by omega) (by omega)) (cwV 1 hts gX0_markRising_X0_letterAt rfl rfl rfl (by decide +kernel) ⟨Nat.le_of_ble_eq_true rfl, Nat.le_of_ble_eq_true rfl⟩) (zPr_preV (ci := 0) (q0 := 0) hK (hP.sub (ws' := [(a 0, .inr (0, so a ts lp len sg vc)), (lp, .inl (cI, nl, .inl (zA lt)))]) [0, 1] rfl) rfl rfl) rfl rfl hl.1 rfl (lv_room (Nat.le_of_ble_eq_true rfl)) dX0_markRising_13 ⟨Nat.zero_le _, Nat.zero_le _⟩) (fun r hr_ => ?_)
        subst hr_
        refine lv_istore_n (lv' := [(2, .int (zI (zla len lt i))), (0, .ref (a 0)), (1, .int (zI i))]) hx hb dX0_markRising_16 rfl hl (by decide) rfl (fun ls hl => ?_)
        refine lv_aload_n hx hb dX0_markRising_17 rfl (lv_at hl 1 rfl) ?_
        refine lv_iload_n hx hb dX0_markRising_18 rfl (lv_at hl 2 rfl) ?_
        refine lv_iconst (v := zI 1) hx hb dX0_markRising_19 (by first | rfl | decide) ?_
        refine z_iadd hx hb dX0_markRising_20 ?_
        refine z_cr (va_runV (As := [.int (zI (i + 1))]) (rest := []) ⟨hx, hb, hml, hown, hts⟩ (kX0_letterAt l D cI cZ cL a ts lp len sg vc nl lt (i + 1) (by omega) (by omega) (by omega) (by omega)) (cwV 1 hts gX0_markRising_X0_letterAt rfl rfl rfl (by decide +kernel) ⟨Nat.le_of_ble_eq_true rfl, Nat.le_of_ble_eq_true rfl⟩) (zPr_preV (ci := 0) (q0 := 0) hK (hP.sub (ws' := [(a 0, .inr (0, so a ts lp len sg vc)), (lp, .inl (cI, nl, .inl (zA lt)))]) [0, 1] rfl) rfl rfl) rfl rfl hl.1 rfl (lv_room (Nat.le_of_ble_eq_true rfl)) dX0_markRising_21 ⟨Nat.zero_le _, Nat.zero_le _⟩) (fun r hr_ => ?_)
        subst hr_
        refine lv_istore_n (lv' := [(3, .int (zI (zla len lt (i + 1)))), (2, .int (zI (zla len lt i))), (0, .ref (a 0)), (1, .int (zI i))]) hx hb dX0_markRising_24 rfl hl (by decide) rfl (fun ls hl => ?_)
        refine lv_aload_n hx hb dX0_markRising_25 rfl (lv_at hl 2 rfl) ?_
        refine va_get (D := D) (ci := 0) (v := .ref (a 4)) (C := RX0) (T := TX0) (N := 15) hx hb hts inX0_markRising_X0 hown hK.1 hP 0 rfl rfl 3 (by decide) (hts (.fieldLink RX0 45 "TextEnds$EndSorter" "rising" "[Z") (List.mem_of_getElem? (i := 2) rfl)) (fun _ h9 => h9) rfl dX0_markRising_26 ?_
        refine lv_iload_n hx hb dX0_markRising_29 rfl (lv_at hl 3 rfl) ?_
        refine lv_iload_n hx hb dX0_markRising_30 rfl (lv_at hl 1 rfl) ?_
        refine lv_iload_n hx hb dX0_markRising_31 rfl (lv_at hl 0 rfl) ?_
        refine z_icmp_ne (tgt := 45) hx hb dX0_markRising_32 (by decide) (by omega) (by omega) (fun h_2 => ?_) (fun h_2 => ?_)
        · skip
          refine lv_iload_n hx hb dX0_markRising_45 rfl (lv_at hl 1 rfl) ?_
          refine lv_iload_n hx hb dX0_markRising_46 rfl (lv_at hl 0 rfl) ?_
          refine z_icmp_ge (tgt := 54) hx hb dX0_markRising_47 (by decide) (by omega) (by omega) (fun h_3 => ?_) (fun h_3 => ?_)
          · skip
            refine lv_iconst (v := zI 0) hx hb dX0_markRising_54 (by first | rfl | decide) ?_
            refine z_zast hx hb hK.1 hP hD hS 2 1 rfl rfl dX0_markRising_55 (by omega) (by omega) (by omega) (by first | exact Or.inl rfl | exact Or.inr rfl | exact bi_01 _) (fun H locs hP hD hS => ?_)
            have hP : va_P D vwCl [(a 0, .inr (0, so a ts lp len sg vc)), (lp, .inl (cI, nl, .inl (zA lt))), (a 4, .inl (cZ, nr, .inl (zA (zup (zB rr) i 0))))] H := hP
            have hD : va_D A [(a 0, .inr (0, so a ts lp len sg vc)), (lp, .inl (cI, nl, .inl (zA lt))), (a 4, .inl (cZ, nr, .inl (zA (zup (zB rr) i 0))))] := hD
            have hwe : (zup (zB rr) i 0) = (zB (zfill i len (zris len lt) rs)) := mr_step hrr (by omega) (by first | (rw [mr_lt hlp (by omega) (by omega) (by with_reducible assumption)]; rfl) | (rw [mr_gt hlp (by omega) (by omega) (by with_reducible assumption) (by with_reducible assumption)]; rfl) | exact congrArg bi (by rw [hrr]; exact mr_same hlp (by omega) (by omega) (by with_reducible assumption)))
            rw [hwe] at hP hD
            clear hwe
            refine lv_iinc (v := zI (i + (-1))) (lv' := [(1, .int (zI (i + (-1)))), (3, .int (zI (zla len lt (i + 1)))), (2, .int (zI (zla len lt i))), (0, .ref (a 0))]) hx hb dX0_markRising_56 hl (k := 3) rfl (zI_add _ _) (by decide) rfl (fun ls hl => ?_)
            refine lv_goto (tgt := 7) hx hb dX0_markRising_59 (by decide) ?_
            exact ih7 (i + (-1)) (zfill i len (zris len lt) rs) _ _ ls (by omega) (by omega) (by rw [show i + (-1) + 1 = i by omega]) (by omega) (hP) (hD) hS (lv_sub hl [3, 0] rfl)
          · skip
            refine lv_iconst (v := zI 1) hx hb dX0_markRising_50 (by first | rfl | decide) ?_
            refine lv_goto (tgt := 55) hx hb dX0_markRising_51 (by decide) ?_
            refine z_zast hx hb hK.1 hP hD hS 2 1 rfl rfl dX0_markRising_55 (by omega) (by omega) (by omega) (by first | exact Or.inl rfl | exact Or.inr rfl | exact bi_01 _) (fun H locs hP hD hS => ?_)
            have hP : va_P D vwCl [(a 0, .inr (0, so a ts lp len sg vc)), (lp, .inl (cI, nl, .inl (zA lt))), (a 4, .inl (cZ, nr, .inl (zA (zup (zB rr) i 1))))] H := hP
            have hD : va_D A [(a 0, .inr (0, so a ts lp len sg vc)), (lp, .inl (cI, nl, .inl (zA lt))), (a 4, .inl (cZ, nr, .inl (zA (zup (zB rr) i 1))))] := hD
            have hwe : (zup (zB rr) i 1) = (zB (zfill i len (zris len lt) rs)) := mr_step hrr (by omega) (by first | (rw [mr_lt hlp (by omega) (by omega) (by with_reducible assumption)]; rfl) | (rw [mr_gt hlp (by omega) (by omega) (by with_reducible assumption) (by with_reducible assumption)]; rfl) | exact congrArg bi (by rw [hrr]; exact mr_same hlp (by omega) (by omega) (by with_reducible assumption)))
            rw [hwe] at hP hD
            clear hwe
            refine lv_iinc (v := zI (i + (-1))) (lv' := [(1, .int (zI (i + (-1)))), (3, .int (zI (zla len lt (i + 1)))), (2, .int (zI (zla len lt i))), (0, .ref (a 0))]) hx hb dX0_markRising_56 hl (k := 3) rfl (zI_add _ _) (by decide) rfl (fun ls hl => ?_)
            refine lv_goto (tgt := 7) hx hb dX0_markRising_59 (by decide) ?_
            exact ih7 (i + (-1)) (zfill i len (zris len lt) rs) _ _ ls (by omega) (by omega) (by rw [show i + (-1) + 1 = i by omega]) (by omega) (hP) (hD) hS (lv_sub hl [3, 0] rfl)
        · skip
          refine lv_aload_n hx hb dX0_markRising_35 rfl (lv_at hl 2 rfl) ?_
          refine lv_iload_n hx hb dX0_markRising_36 rfl (lv_at hl 3 rfl) ?_
          refine lv_iconst (v := zI 1) hx hb dX0_markRising_37 (by first | rfl | decide) ?_
          refine z_iadd hx hb dX0_markRising_38 ?_
          refine z_cr (va_runV (As := [.int (zI (i + 1))]) (rest := [.int (zI i), .ref (a 4)]) ⟨hx, hb, hml, hown, hts⟩ (kX0_isRising l D cI cZ cL a ts lp len sg vc nr rr (i + 1) (by omega) (by omega) (by omega) (by omega)) (cwV 1 hts gX0_markRising_X0_isRising rfl rfl rfl (by decide +kernel) ⟨Nat.le_of_ble_eq_true rfl, Nat.le_of_ble_eq_true rfl⟩) (zPr_preV (ci := 0) (q0 := 0) hK (hP.sub (ws' := [(a 0, .inr (0, so a ts lp len sg vc)), (a 4, .inl (cZ, nr, .inl (zA (zB rr))))]) [0, 2] rfl) rfl rfl) rfl rfl hl.1 rfl (lv_room (Nat.le_of_ble_eq_true rfl)) dX0_markRising_39 ⟨Nat.zero_le _, Nat.zero_le _⟩) (fun r hr_ => ?_)
          subst hr_
          refine lv_goto (tgt := 55) hx hb dX0_markRising_42 (by decide) ?_
          refine z_zast hx hb hK.1 hP hD hS 2 1 rfl rfl dX0_markRising_55 (by omega) (by omega) (by omega) (by first | exact Or.inl rfl | exact Or.inr rfl | exact bi_01 _) (fun H locs hP hD hS => ?_)
          have hP : va_P D vwCl [(a 0, .inr (0, so a ts lp len sg vc)), (lp, .inl (cI, nl, .inl (zA lt))), (a 4, .inl (cZ, nr, .inl (zA (zup (zB rr) i (bi (zir len rr (i + 1)))))))] H := hP
          have hD : va_D A [(a 0, .inr (0, so a ts lp len sg vc)), (lp, .inl (cI, nl, .inl (zA lt))), (a 4, .inl (cZ, nr, .inl (zA (zup (zB rr) i (bi (zir len rr (i + 1)))))))] := hD
          have hwe : (zup (zB rr) i (bi (zir len rr (i + 1)))) = (zB (zfill i len (zris len lt) rs)) := mr_step hrr (by omega) (by first | (rw [mr_lt hlp (by omega) (by omega) (by with_reducible assumption)]; rfl) | (rw [mr_gt hlp (by omega) (by omega) (by with_reducible assumption) (by with_reducible assumption)]; rfl) | exact congrArg bi (by rw [hrr]; exact mr_same hlp (by omega) (by omega) (by with_reducible assumption)))
          rw [hwe] at hP hD
          clear hwe
          refine lv_iinc (v := zI (i + (-1))) (lv' := [(1, .int (zI (i + (-1)))), (3, .int (zI (zla len lt (i + 1)))), (2, .int (zI (zla len lt i))), (0, .ref (a 0))]) hx hb dX0_markRising_56 hl (k := 3) rfl (zI_add _ _) (by decide) rfl (fun ls hl => ?_)
          refine lv_goto (tgt := 7) hx hb dX0_markRising_59 (by decide) ?_
          exact ih7 (i + (-1)) (zfill i len (zris len lt) rs) _ _ ls (by omega) (by omega) (by rw [show i + (-1) + 1 = i by omega]) (by omega) (hP) (hD) hS (lv_sub hl [3, 0] rfl)
  exact loop7 _ (len - 1) rs _ _ ls (by omega) (by omega) (by rw [show len - 1 + 1 = len by omega]; exact zfill_0 _ _ _) (Nat.lt_succ_self _) hP hD hS (lv_sub hl [1, 0] rfl)
set_option maxHeartbeats 4000000 in
set_option maxRecDepth 100000 in
/-- findValleys() -/
theorem kX0_findValleys (l : Launch) (D : va_G) (cI cZ cL : ClassId) (a : Nat → Nat) (ts : Int) (lp : Nat) (len sg vc : Int) (nr nV nM : Nat) (rs : Int → Bool) (vl vn : Int → Int) (szz : Nat) (hlen : 0 ≤ len) (hlr : len ≤ (nr : Int)) (hlm : len ≤ (nM : Int)) (bnr : (nr : Int) < 1073741824) (bnV : (nV : Int) < 1073741824) (bnM : (nM : Int) < 1073741824) : Met l yX0_findValleys wsX0_findValleys ({ frames := 1, cells := 0, slots := 0, locals := 22 }) (zPw D cI cZ cL szz [.ref (a 0)] [(a 0, .inr (0, so a ts lp len sg vc)), (a 4, .inl (cZ, nr, .inl (zA (zB rs)))), (a 5, .inl (cI, nV, .inl (zA vl))), (a 6, .inl (cI, nM, .inl (zA vn)))]) (zQw D (va_A [(a 0, .inr (0, so a ts lp len sg vc)), (a 4, .inl (cZ, nr, .inl (zA (zB rs)))), (a 5, .inl (cI, nV, .inl (zA vl))), (a 6, .inl (cI, nM, .inl (zA vn)))] szz) (fun _ : Unit => True) (fun _ : Unit => [(a 0, .inr (0, so a ts lp len sg ((fvq nV len rs vn vl).2.2))), (a 4, .inl (cZ, nr, .inl (zA (zB rs)))), (a 5, .inl (cI, nV, .inl (zA ((fvq nV len rs vn vl).2.1)))), (a 6, .inl (cI, nM, .inl (zA ((fvq nV len rs vn vl).1))))])) 0 0 (va_A [(a 0, .inr (0, so a ts lp len sg vc)), (a 4, .inl (cZ, nr, .inl (zA (zB rs)))), (a 5, .inl (cI, nV, .inl (zA vl))), (a 6, .inl (cI, nM, .inl (zA vn)))] szz) := by
  refine Met.ofW (cc := cX0_findValleys) (maxL := 3) (ret := none) (by decide) rfl ?_
  intro p e s m args below meth c s₁ B hml hv
  obtain ⟨rfl, hsz, hP, hK, hD0⟩ := hv
  have hx := B.exec
  have hb := B.bytes
  have hr := B.returns
  have hts := atoms_spec (ws := wsX0_findValleys) B.pre
  have hown : s.vm.findClass RX0 = some m.cls := findClass_of_methodNamed B.named
  have hlocks := B.notSynchronized
  subst hsz
  have hD := hD0.self (sz := s.heap.size)
  generalize hAe : va_A [(a 0, .inr (0, so a ts lp len sg vc)), (a 4, .inl (cZ, nr, .inl (zA (zB rs)))), (a 5, .inl (cI, nV, .inl (zA vl))), (a 6, .inl (cI, nM, .inl (zA vn)))] s.heap.size = A at hD ⊢
  have hA : ∀ q : Nat, s.heap.size ≤ q → A q := fun q h => by rw [← hAe]; exact Or.inr h
  have hS : va_S A s.heap s.heap [] := va_S.rf
  clear hD0
  have hP : va_P D vwCl [(a 0, .inr (0, so a ts lp len sg vc)), (a 4, .inl (cZ, nr, .inl (zA (zB rs)))), (a 5, .inl (cI, nV, .inl (zA vl))), (a 6, .inl (cI, nM, .inl (zA vn)))] s.heap := hP
  have hl := lv_entry ([.ref (a 0)]) (n := 3) (Nat.le_of_ble_eq_true rfl)
  rw [lg_entry_eq]
  generalize (lg_sl ([.ref (a 0)]) ++ List.replicate (3 - (lg_sl ([.ref (a 0)])).length) Slot.unset).toArray = ls at hl ⊢
  have hl : lv_has ls 3 [(0, .ref (a 0))] := hl
  refine lv_aload_n hx hb dX0_findValleys_0 rfl (lv_at hl 0 rfl) ?_
  refine lv_iconst (v := zI 0) hx hb dX0_findValleys_1 (by first | rfl | decide) ?_
  refine va_put (D := D) (ci := 0) (v := .int (zI 0)) (ty := .int) (C := RX0) (T := TX0) (N := 15) hx hb hts inX0_findValleys_X0 tyX0 tyX0_ok nmX0 hown hK.1 hP hD hS 0 rfl rfl 14 (by decide) (hts (.fieldLink RX0 97 "TextEnds$EndSorter" "valleyCount" "I") (List.mem_of_getElem? (i := 1) rfl)) (fun _ h9 => h9) rfl (by decide +kernel) rfl rfl (Nat.le_of_ble_eq_true rfl) dX0_findValleys_2 (fun H locs hP hD hS => ?_)
  have hP : va_P D vwCl [(a 0, .inr (0, so a ts lp len sg 0)), (a 4, .inl (cZ, nr, .inl (zA (zB rs)))), (a 5, .inl (cI, nV, .inl (zA vl))), (a 6, .inl (cI, nM, .inl (zA vn)))] H := hP
  have hD : va_D A [(a 0, .inr (0, so a ts lp len sg 0)), (a 4, .inl (cZ, nr, .inl (zA (zB rs)))), (a 5, .inl (cI, nV, .inl (zA vl))), (a 6, .inl (cI, nM, .inl (zA vn)))] := hD
  refine lv_iconst (v := zI 0) hx hb dX0_findValleys_5 (by first | rfl | decide) ?_
  refine lv_istore_n (lv' := [(1, .int (zI 0)), (0, .ref (a 0))]) hx hb dX0_findValleys_6 rfl hl (by decide) rfl (fun ls hl => ?_)
  have loop7 : ∀ (nn : Nat) (i : Int) (vlq : Int → Int) (vnq : Int → Int) (vcq : Int) (H : Heap) (locs : List Loc) (ls : Array Slot), (0 ≤ i) → (i ≤ len) → (0 ≤ vcq ∧ vcq ≤ i) → ((vnq, vlq, vcq) = zit (stV nV len rs) i.toNat (vn, vl, 0)) → ((len - i).toNat) < nn → va_P D vwCl [(a 0, .inr (0, so a ts lp len sg vcq)), (a 4, .inl (cZ, nr, .inl (zA (zB rs)))), (a 5, .inl (cI, nV, .inl (zA vlq))), (a 6, .inl (cI, nM, .inl (zA vnq)))] H → va_D A [(a 0, .inr (0, so a ts lp len sg vcq)), (a 4, .inl (cZ, nr, .inl (zA (zB rs)))), (a 5, .inl (cI, nV, .inl (zA vlq))), (a 6, .inl (cI, nM, .inl (zA vnq)))] → va_S A s.heap H locs → lv_has ls 3 [(0, .ref (a 0)), (1, .int (zI i))] → W p l e (headSpec wsX0_findValleys ({ frames := 1, cells := 0, slots := 0, locals := 22 })).room s m ([.ref (a 0)] : List Value).toArray below meth c H locs 0 0 (MQ below (zQw D A (fun _ : Unit => True) (fun _ : Unit => [(a 0, .inr (0, so a ts lp len sg ((fvq nV len rs vn vl).2.2))), (a 4, .inl (cZ, nr, .inl (zA (zB rs)))), (a 5, .inl (cI, nV, .inl (zA ((fvq nV len rs vn vl).2.1)))), (a 6, .inl (cI, nM, .inl (zA ((fvq nV len rs vn vl).1))))])) ([.ref (a 0)] : List Value).toArray s 0 0 A) (F0 m 7 ls []) := by
    intro nn
    induction nn with
    | zero =>
      intros
      exact absurd (by assumption : _ < 0) (Nat.not_lt_zero _)
    | succ nn ih7 =>
      intro i vlq vnq vcq H locs ls h0 h1 hv hq hmu hP hD hS hl
      refine lv_iload_n hx hb dX0_findValleys_7 rfl (lv_at hl 1 rfl) ?_
      refine lv_aload_n hx hb dX0_findValleys_8 rfl (lv_at hl 0 rfl) ?_
      refine va_get (D := D) (ci := 0) (v := .int (zI len)) (C := RX0) (T := TX0) (N := 15) hx hb hts inX0_findValleys_X0 hown hK.1 hP 0 rfl rfl 12 (by decide) (hts (.fieldLink RX0 103 "TextEnds$EndSorter" "length" "I") (List.mem_of_getElem? (i := 2) rfl)) (fun _ h9 => h9) rfl dX0_findValleys_9 ?_
      refine z_icmp_ge (tgt := 89) hx hb dX0_findValleys_12 (by decide) (by omega) (by omega) (fun h_1 => ?_) (fun h_1 => ?_)
      · skip
        rw [show i = len by omega] at hq
        have hwe : vlq = ((fvq nV len rs vn vl).2.1) := congrArg (fun z => z.2.1) hq
        rw [hwe] at hP hD
        clear hwe
        have hwe : vnq = ((fvq nV len rs vn vl).1) := congrArg (fun z => z.1) hq
        rw [hwe] at hP hD
        clear hwe
        have hwe : vcq = ((fvq nV len rs vn vl).2.2) := congrArg (fun z => z.2.2) hq
        rw [hwe] at hP hD
        clear hwe
        exact W.vret hx hb hr (fun t ht_ hW_ => ⟨⟨(), rfl, trivial, by rw [ht_]; exact hP, hD⟩, hS.F ht_⟩) hS.2.2 dX0_findValleys_89
      · skip
        refine lv_aload_n hx hb dX0_findValleys_15 rfl (lv_at hl 0 rfl) ?_
        refine lv_iload_n hx hb dX0_findValleys_16 rfl (lv_at hl 1 rfl) ?_
        refine z_cr (va_runV (As := [.int (zI i)]) (rest := []) ⟨hx, hb, hml, hown, hts⟩ (kX0_isRising l D cI cZ cL a ts lp len sg vcq nr rs i (by omega) (by omega) (by omega) (by omega)) (cwV 1 hts gX0_findValleys_X0_isRising rfl rfl rfl (by decide +kernel) ⟨Nat.le_of_ble_eq_true rfl, Nat.le_of_ble_eq_true rfl⟩) (zPr_preV (ci := 0) (q0 := 0) hK (hP.sub (ws' := [(a 0, .inr (0, so a ts lp len sg vcq)), (a 4, .inl (cZ, nr, .inl (zA (zB rs))))]) [0, 1] rfl) rfl rfl) rfl rfl hl.1 rfl (lv_room (Nat.le_of_ble_eq_true rfl)) dX0_findValleys_17 ⟨Nat.zero_le _, Nat.zero_le _⟩) (fun r hr_ => ?_)
        subst hr_
        refine z_if_eq (tgt := 37) hx hb dX0_findValleys_20 (by decide) (bi_R _) (fun h_2 => ?_) (fun h_2 => ?_)
        · skip
          refine lv_iconst (v := zI 0) hx hb dX0_findValleys_37 (by first | rfl | decide) ?_
          refine lv_istore_n (lv' := [(2, .int (zI 0)), (0, .ref (a 0)), (1, .int (zI i))]) hx hb dX0_findValleys_38 rfl hl (by decide) rfl (fun ls hl => ?_)
          refine lv_aload_n hx hb dX0_findValleys_39 rfl (lv_at hl 1 rfl) ?_
          refine va_get (D := D) (ci := 0) (v := .ref (a 6)) (C := RX0) (T := TX0) (N := 15) hx hb hts inX0_findValleys_X0 hown hK.1 hP 0 rfl rfl 5 (by decide) (hts (.fieldLink RX0 49 "TextEnds$EndSorter" "valleyNumber" "[I") (List.mem_of_getElem? (i := 3) rfl)) (fun _ h9 => h9) rfl dX0_findValleys_40 ?_
          refine lv_iload_n hx hb dX0_findValleys_43 rfl (lv_at hl 2 rfl) ?_
          refine lv_iload_n hx hb dX0_findValleys_44 rfl (lv_at hl 0 rfl) ?_
          refine z_if_eq (tgt := 55) hx hb dX0_findValleys_45 (by decide) (by omega) (fun h_3 => ?_) (fun h_3 => ?_)
          · skip
            refine lv_iconst (v := zI (-1)) hx hb dX0_findValleys_55 (by first | rfl | decide) ?_
            refine z_iast hx hb hK.1 hP hD hS 3 0 rfl rfl dX0_findValleys_56 (by omega) (by omega) (by omega) (fun H locs hP hD hS => ?_)
            have hP : va_P D vwCl [(a 0, .inr (0, so a ts lp len sg vcq)), (a 4, .inl (cZ, nr, .inl (zA (zB rs)))), (a 5, .inl (cI, nV, .inl (zA vlq))), (a 6, .inl (cI, nM, .inl (zA (zup vnq i (-1)))))] H := hP
            have hD : va_D A [(a 0, .inr (0, so a ts lp len sg vcq)), (a 4, .inl (cZ, nr, .inl (zA (zB rs)))), (a 5, .inl (cI, nV, .inl (zA vlq))), (a 6, .inl (cI, nM, .inl (zA (zup vnq i (-1)))))] := hD
            refine lv_iload_n hx hb dX0_findValleys_57 rfl (lv_at hl 0 rfl) ?_
            refine z_if_eq (tgt := 83) hx hb dX0_findValleys_58 (by decide) (by omega) (fun h_4 => ?_) (fun h_4 => ?_)
            · skip
              refine lv_iinc (v := zI (i + 1)) (lv' := [(1, .int (zI (i + 1))), (2, .int (zI 0)), (0, .ref (a 0))]) hx hb dX0_findValleys_83 hl (k := 2) rfl (zI_add _ _) (by decide) rfl (fun ls hl => ?_)
              refine lv_goto (tgt := 7) hx hb dX0_findValleys_86 (by decide) ?_
              exact ih7 (i + 1) vlq (zup vnq i (-1)) vcq _ _ ls (by omega) (by omega) (by omega) (by first | exact stV_t hq h0 (zvl_t (by with_reducible assumption) (by with_reducible assumption)) | exact stV_f hq h0 (zvl_f1 (by with_reducible assumption)) | exact stV_f hq h0 (zvl_f2 (by with_reducible assumption))) (by omega) (hP) (hD) hS (lv_sub hl [2, 0] rfl)
            · skip
              exact absurd h_4 (by decide)
          · skip
            exact absurd h_3 (by decide)
        · skip
          refine lv_aload_n hx hb dX0_findValleys_23 rfl (lv_at hl 0 rfl) ?_
          refine lv_iload_n hx hb dX0_findValleys_24 rfl (lv_at hl 1 rfl) ?_
          refine lv_iconst (v := zI 1) hx hb dX0_findValleys_25 (by first | rfl | decide) ?_
          refine z_isub hx hb dX0_findValleys_26 ?_
          refine z_cr (va_runV (As := [.int (zI (i - 1))]) (rest := []) ⟨hx, hb, hml, hown, hts⟩ (kX0_isFalling l D cI cZ cL a ts lp len sg vcq nr rs (i - 1) (by omega) (by omega) (by omega) (by omega)) (cwV 1 hts gX0_findValleys_X0_isFalling rfl rfl rfl (by decide +kernel) ⟨Nat.le_of_ble_eq_true rfl, Nat.le_of_ble_eq_true rfl⟩) (zPr_preV (ci := 0) (q0 := 0) hK (hP.sub (ws' := [(a 0, .inr (0, so a ts lp len sg vcq)), (a 4, .inl (cZ, nr, .inl (zA (zB rs))))]) [0, 1] rfl) rfl rfl) rfl rfl hl.1 rfl (lv_room (Nat.le_of_ble_eq_true rfl)) dX0_findValleys_27 ⟨Nat.zero_le _, Nat.zero_le _⟩) (fun r hr_ => ?_)
          subst hr_
          refine z_if_eq (tgt := 37) hx hb dX0_findValleys_30 (by decide) (bi_R _) (fun h_5 => ?_) (fun h_5 => ?_)
          · skip
            refine lv_iconst (v := zI 0) hx hb dX0_findValleys_37 (by first | rfl | decide) ?_
            refine lv_istore_n (lv' := [(2, .int (zI 0)), (0, .ref (a 0)), (1, .int (zI i))]) hx hb dX0_findValleys_38 rfl hl (by decide) rfl (fun ls hl => ?_)
            refine lv_aload_n hx hb dX0_findValleys_39 rfl (lv_at hl 1 rfl) ?_
            refine va_get (D := D) (ci := 0) (v := .ref (a 6)) (C := RX0) (T := TX0) (N := 15) hx hb hts inX0_findValleys_X0 hown hK.1 hP 0 rfl rfl 5 (by decide) (hts (.fieldLink RX0 49 "TextEnds$EndSorter" "valleyNumber" "[I") (List.mem_of_getElem? (i := 3) rfl)) (fun _ h9 => h9) rfl dX0_findValleys_40 ?_
            refine lv_iload_n hx hb dX0_findValleys_43 rfl (lv_at hl 2 rfl) ?_
            refine lv_iload_n hx hb dX0_findValleys_44 rfl (lv_at hl 0 rfl) ?_
            refine z_if_eq (tgt := 55) hx hb dX0_findValleys_45 (by decide) (by omega) (fun h_6 => ?_) (fun h_6 => ?_)
            · skip
              refine lv_iconst (v := zI (-1)) hx hb dX0_findValleys_55 (by first | rfl | decide) ?_
              refine z_iast hx hb hK.1 hP hD hS 3 0 rfl rfl dX0_findValleys_56 (by omega) (by omega) (by omega) (fun H locs hP hD hS => ?_)
              have hP : va_P D vwCl [(a 0, .inr (0, so a ts lp len sg vcq)), (a 4, .inl (cZ, nr, .inl (zA (zB rs)))), (a 5, .inl (cI, nV, .inl (zA vlq))), (a 6, .inl (cI, nM, .inl (zA (zup vnq i (-1)))))] H := hP
              have hD : va_D A [(a 0, .inr (0, so a ts lp len sg vcq)), (a 4, .inl (cZ, nr, .inl (zA (zB rs)))), (a 5, .inl (cI, nV, .inl (zA vlq))), (a 6, .inl (cI, nM, .inl (zA (zup vnq i (-1)))))] := hD
              refine lv_iload_n hx hb dX0_findValleys_57 rfl (lv_at hl 0 rfl) ?_
              refine z_if_eq (tgt := 83) hx hb dX0_findValleys_58 (by decide) (by omega) (fun h_7 => ?_) (fun h_7 => ?_)
              · skip
                refine lv_iinc (v := zI (i + 1)) (lv' := [(1, .int (zI (i + 1))), (2, .int (zI 0)), (0, .ref (a 0))]) hx hb dX0_findValleys_83 hl (k := 2) rfl (zI_add _ _) (by decide) rfl (fun ls hl => ?_)
                refine lv_goto (tgt := 7) hx hb dX0_findValleys_86 (by decide) ?_
                exact ih7 (i + 1) vlq (zup vnq i (-1)) vcq _ _ ls (by omega) (by omega) (by omega) (by first | exact stV_t hq h0 (zvl_t (by with_reducible assumption) (by with_reducible assumption)) | exact stV_f hq h0 (zvl_f1 (by with_reducible assumption)) | exact stV_f hq h0 (zvl_f2 (by with_reducible assumption))) (by omega) (hP) (hD) hS (lv_sub hl [2, 0] rfl)
              · skip
                exact absurd h_7 (by decide)
            · skip
              exact absurd h_6 (by decide)
          · skip
            refine lv_iconst (v := zI 1) hx hb dX0_findValleys_33 (by first | rfl | decide) ?_
            refine lv_goto (tgt := 38) hx hb dX0_findValleys_34 (by decide) ?_
            refine lv_istore_n (lv' := [(2, .int (zI 1)), (0, .ref (a 0)), (1, .int (zI i))]) hx hb dX0_findValleys_38 rfl hl (by decide) rfl (fun ls hl => ?_)
            refine lv_aload_n hx hb dX0_findValleys_39 rfl (lv_at hl 1 rfl) ?_
            refine va_get (D := D) (ci := 0) (v := .ref (a 6)) (C := RX0) (T := TX0) (N := 15) hx hb hts inX0_findValleys_X0 hown hK.1 hP 0 rfl rfl 5 (by decide) (hts (.fieldLink RX0 49 "TextEnds$EndSorter" "valleyNumber" "[I") (List.mem_of_getElem? (i := 3) rfl)) (fun _ h9 => h9) rfl dX0_findValleys_40 ?_
            refine lv_iload_n hx hb dX0_findValleys_43 rfl (lv_at hl 2 rfl) ?_
            refine lv_iload_n hx hb dX0_findValleys_44 rfl (lv_at hl 0 rfl) ?_
            refine z_if_eq (tgt := 55) hx hb dX0_findValleys_45 (by decide) (by omega) (fun h_8 => ?_) (fun h_8 => ?_)
            · skip
              exact absurd h_8 (by decide)
            · skip
              refine lv_aload_n hx hb dX0_findValleys_48 rfl (lv_at hl 1 rfl) ?_
              refine va_get (D := D) (ci := 0) (v := .int (zI vcq)) (C := RX0) (T := TX0) (N := 15) hx hb hts inX0_findValleys_X0 hown hK.1 hP 0 rfl rfl 14 (by decide) (hts (.fieldLink RX0 97 "TextEnds$EndSorter" "valleyCount" "I") (List.mem_of_getElem? (i := 1) rfl)) (fun _ h9 => h9) rfl dX0_findValleys_49 ?_
              refine lv_goto (tgt := 56) hx hb dX0_findValleys_52 (by decide) ?_
              refine z_iast hx hb hK.1 hP hD hS 3 0 rfl rfl dX0_findValleys_56 (by omega) (by omega) (by omega) (fun H locs hP hD hS => ?_)
              have hP : va_P D vwCl [(a 0, .inr (0, so a ts lp len sg vcq)), (a 4, .inl (cZ, nr, .inl (zA (zB rs)))), (a 5, .inl (cI, nV, .inl (zA vlq))), (a 6, .inl (cI, nM, .inl (zA (zup vnq i vcq))))] H := hP
              have hD : va_D A [(a 0, .inr (0, so a ts lp len sg vcq)), (a 4, .inl (cZ, nr, .inl (zA (zB rs)))), (a 5, .inl (cI, nV, .inl (zA vlq))), (a 6, .inl (cI, nM, .inl (zA (zup vnq i vcq))))] := hD
              refine lv_iload_n hx hb dX0_findValleys_57 rfl (lv_at hl 0 rfl) ?_
              refine z_if_eq (tgt := 83) hx hb dX0_findValleys_58 (by decide) (by omega) (fun h_9 => ?_) (fun h_9 => ?_)
              · skip
                exact absurd h_9 (by decide)
              · skip
                refine lv_aload_n hx hb dX0_findValleys_61 rfl (lv_at hl 1 rfl) ?_
                refine va_get (D := D) (ci := 0) (v := .ref (a 5)) (C := RX0) (T := TX0) (N := 15) hx hb hts inX0_findValleys_X0 hown hK.1 hP 0 rfl rfl 4 (by decide) (hts (.fieldLink RX0 52 "TextEnds$EndSorter" "valleys" "[I") (List.mem_of_getElem? (i := 4) rfl)) (fun _ h9 => h9) rfl dX0_findValleys_62 ?_
                refine lv_aload_n hx hb dX0_findValleys_65 rfl (lv_at hl 1 rfl) ?_
                refine va_get (D := D) (ci := 0) (v := .int (zI vcq)) (C := RX0) (T := TX0) (N := 15) hx hb hts inX0_findValleys_X0 hown hK.1 hP 0 rfl rfl 14 (by decide) (hts (.fieldLink RX0 97 "TextEnds$EndSorter" "valleyCount" "I") (List.mem_of_getElem? (i := 1) rfl)) (fun _ h9 => h9) rfl dX0_findValleys_66 ?_
                refine lv_iload_n hx hb dX0_findValleys_69 rfl (lv_at hl 2 rfl) ?_
                refine z_cw (wc := [(a 5, .inl (cI, nV, .inl (zA vlq)))]) (wr := [(a 0, .inr (0, so a ts lp len sg vcq)), (a 4, .inl (cZ, nr, .inl (zA (zB rs)))), (a 6, .inl (cI, nM, .inl (zA (zup vnq i vcq))))]) (Wt := (fun _ : Unit => [(a 0, .inr (0, so a ts lp len sg vcq)), (a 4, .inl (cZ, nr, .inl (zA (zB rs)))), (a 5, .inl (cI, nV, .inl (zA (zput nV vlq vcq i)))), (a 6, .inl (cI, nM, .inl (zA (zup vnq i vcq))))])) [2] [0, 1, 3] [0, 1, 3, 2] hP hD hS hA rfl rfl (by decide) (by decide) (by decide) (by decide) (fun _ => rfl) (fun _ => rfl) (fun hPc hDc => va_runSN (As := [.ref (a 5), .int (zI vcq), .int (zI i)]) (rest := []) ⟨hx, hb, hml, hown, hts⟩ (kX2_put l D cI cZ cL (a 5) nV vlq vcq i _ (by omega) (by omega)) ⟨va_cnB 3 hts gX0_findValleys_X2_put_n127 rfl rfl rfl hK.2.1 (hts (.initialized RX2) (List.mem_of_getElem? (i := 16) rfl)) (by decide +kernel) ⟨Nat.le_of_ble_eq_true rfl, Nat.le_of_ble_eq_true rfl⟩, hts (.static yX2_put) (List.mem_of_getElem? (i := 15) rfl), trivial⟩ (zPw_pre hK hPc hDc) rfl rfl hl.1 rfl (lv_room (Nat.le_of_ble_eq_true rfl)) dX0_findValleys_70 ⟨Nat.zero_le _, Nat.zero_le _⟩) rfl (fun u H locs hp_ hP hD hS => ?_)
                have hP : va_P D vwCl [(a 0, .inr (0, so a ts lp len sg vcq)), (a 4, .inl (cZ, nr, .inl (zA (zB rs)))), (a 5, .inl (cI, nV, .inl (zA (zput nV vlq vcq i)))), (a 6, .inl (cI, nM, .inl (zA (zup vnq i vcq))))] H := hP
                have hD : va_D A [(a 0, .inr (0, so a ts lp len sg vcq)), (a 4, .inl (cZ, nr, .inl (zA (zB rs)))), (a 5, .inl (cI, nV, .inl (zA (zput nV vlq vcq i)))), (a 6, .inl (cI, nM, .inl (zA (zup vnq i vcq))))] := hD
                refine lv_aload_n hx hb dX0_findValleys_73 rfl (lv_at hl 1 rfl) ?_
                refine lv_dup hx hb dX0_findValleys_74 rfl ?_
                refine va_get (D := D) (ci := 0) (v := .int (zI vcq)) (C := RX0) (T := TX0) (N := 15) hx hb hts inX0_findValleys_X0 hown hK.1 hP 0 rfl rfl 14 (by decide) (hts (.fieldLink RX0 97 "TextEnds$EndSorter" "valleyCount" "I") (List.mem_of_getElem? (i := 1) rfl)) (fun _ h9 => h9) rfl dX0_findValleys_75 ?_
                refine lv_iconst (v := zI 1) hx hb dX0_findValleys_78 (by first | rfl | decide) ?_
                refine z_iadd hx hb dX0_findValleys_79 ?_
                refine va_put (D := D) (ci := 0) (v := .int (zI (vcq + 1))) (ty := .int) (C := RX0) (T := TX0) (N := 15) hx hb hts inX0_findValleys_X0 tyX0 tyX0_ok nmX0 hown hK.1 hP hD hS 0 rfl rfl 14 (by decide) (hts (.fieldLink RX0 97 "TextEnds$EndSorter" "valleyCount" "I") (List.mem_of_getElem? (i := 1) rfl)) (fun _ h9 => h9) rfl (by decide +kernel) rfl rfl (Nat.le_of_ble_eq_true rfl) dX0_findValleys_80 (fun H locs hP hD hS => ?_)
                have hP : va_P D vwCl [(a 0, .inr (0, so a ts lp len sg (vcq + 1))), (a 4, .inl (cZ, nr, .inl (zA (zB rs)))), (a 5, .inl (cI, nV, .inl (zA (zput nV vlq vcq i)))), (a 6, .inl (cI, nM, .inl (zA (zup vnq i vcq))))] H := hP
                have hD : va_D A [(a 0, .inr (0, so a ts lp len sg (vcq + 1))), (a 4, .inl (cZ, nr, .inl (zA (zB rs)))), (a 5, .inl (cI, nV, .inl (zA (zput nV vlq vcq i)))), (a 6, .inl (cI, nM, .inl (zA (zup vnq i vcq))))] := hD
                refine lv_iinc (v := zI (i + 1)) (lv' := [(1, .int (zI (i + 1))), (2, .int (zI 1)), (0, .ref (a 0))]) hx hb dX0_findValleys_83 hl (k := 2) rfl (zI_add _ _) (by decide) rfl (fun ls hl => ?_)
                refine lv_goto (tgt := 7) hx hb dX0_findValleys_86 (by decide) ?_
                exact ih7 (i + 1) (zput nV vlq vcq i) (zup vnq i vcq) (vcq + 1) _ _ ls (by omega) (by omega) (by omega) (by first | exact stV_t hq h0 (zvl_t (by with_reducible assumption) (by with_reducible assumption)) | exact stV_f hq h0 (zvl_f1 (by with_reducible assumption)) | exact stV_f hq h0 (zvl_f2 (by with_reducible assumption))) (by omega) (hP) (hD) hS (lv_sub hl [2, 0] rfl)
  exact loop7 _ 0 vl vn 0 _ _ ls (by omega) (by omega) (by omega) (rfl) (Nat.lt_succ_self _) hP hD hS (lv_sub hl [1, 0] rfl)
set_option maxHeartbeats 4000000 in
set_option maxRecDepth 100000 in
/-- findBuckets() -/
theorem kX0_findBuckets (l : Launch) (D : va_G) (cI cZ cL : ClassId) (a : Nat → Nat) (ts : Int) (lp : Nat) (len sg vc : Int) (nl nr nF nR : Nat) (lt : Int → Int) (rs : Int → Bool) (ff rf : Int → Int) (szz : Nat) (hlen : 0 ≤ len) (hnl : len ≤ (nl : Int)) (bnl : (nl : Int) < 1073741824) (hlr : len ≤ (nr : Int)) (hsg : 0 ≤ sg) (hsF : sg + 1 ≤ (nF : Int)) (hsR : sg ≤ (nR : Int)) (bnr : (nr : Int) < 1073741824) (bnF : (nF : Int) < 1073741824) (bnR : (nR : Int) < 1073741824) (hlt : zS lt) : Met l yX0_findBuckets wsX0_findBuckets ({ frames := 1, cells := 0, slots := 0, locals := 22 }) (zPw D cI cZ cL szz [.ref (a 0)] [(a 0, .inr (0, so a ts lp len sg vc)), (lp, .inl (cI, nl, .inl (zA lt))), (a 4, .inl (cZ, nr, .inl (zA (zB rs)))), (a 8, .inl (cI, nF, .inl (zA ff))), (a 9, .inl (cI, nR, .inl (zA rf)))]) (zQw D (va_A [(a 0, .inr (0, so a ts lp len sg vc)), (lp, .inl (cI, nl, .inl (zA lt))), (a 4, .inl (cZ, nr, .inl (zA (zB rs)))), (a 8, .inl (cI, nF, .inl (zA ff))), (a 9, .inl (cI, nR, .inl (zA rf)))] szz) (fun _ : Unit => True) (fun _ : Unit => [(a 0, .inr (0, so a ts lp len sg vc)), (lp, .inl (cI, nl, .inl (zA lt))), (a 4, .inl (cZ, nr, .inl (zA (zB rs)))), (a 8, .inl (cI, nF, .inl (zA (zup (fbB nF nR len sg lt rs ff rf).2.1 sg (fbB nF nR len sg lt rs ff rf).1)))), (a 9, .inl (cI, nR, .inl (zA ((fbB nF nR len sg lt rs ff rf).2.2))))])) 0 0 (va_A [(a 0, .inr (0, so a ts lp len sg vc)), (lp, .inl (cI, nl, .inl (zA lt))), (a 4, .inl (cZ, nr, .inl (zA (zB rs)))), (a 8, .inl (cI, nF, .inl (zA ff))), (a 9, .inl (cI, nR, .inl (zA rf)))] szz) := by
  refine Met.ofW (cc := cX0_findBuckets) (maxL := 5) (ret := none) (by decide) rfl ?_
  intro p e s m args below meth c s₁ B hml hv
  obtain ⟨rfl, hsz, hP, hK, hD0⟩ := hv
  have hx := B.exec
  have hb := B.bytes
  have hr := B.returns
  have hts := atoms_spec (ws := wsX0_findBuckets) B.pre
  have hown : s.vm.findClass RX0 = some m.cls := findClass_of_methodNamed B.named
  have hlocks := B.notSynchronized
  subst hsz
  have hD := hD0.self (sz := s.heap.size)
  generalize hAe : va_A [(a 0, .inr (0, so a ts lp len sg vc)), (lp, .inl (cI, nl, .inl (zA lt))), (a 4, .inl (cZ, nr, .inl (zA (zB rs)))), (a 8, .inl (cI, nF, .inl (zA ff))), (a 9, .inl (cI, nR, .inl (zA rf)))] s.heap.size = A at hD ⊢
  have hA : ∀ q : Nat, s.heap.size ≤ q → A q := fun q h => by rw [← hAe]; exact Or.inr h
  have hS : va_S A s.heap s.heap [] := va_S.rf
  clear hD0
  have hP : va_P D vwCl [(a 0, .inr (0, so a ts lp len sg vc)), (lp, .inl (cI, nl, .inl (zA lt))), (a 4, .inl (cZ, nr, .inl (zA (zB rs)))), (a 8, .inl (cI, nF, .inl (zA ff))), (a 9, .inl (cI, nR, .inl (zA rf)))] s.heap := hP
  have hl := lv_entry ([.ref (a 0)]) (n := 5) (Nat.le_of_ble_eq_true rfl)
  rw [lg_entry_eq]
  generalize (lg_sl ([.ref (a 0)]) ++ List.replicate (5 - (lg_sl ([.ref (a 0)])).length) Slot.unset).toArray = ls at hl ⊢
  have hl : lv_has ls 5 [(0, .ref (a 0))] := hl
  refine lv_iconst (v := zI 0) hx hb dX0_findBuckets_0 (by first | rfl | decide) ?_
  refine lv_istore_n (lv' := [(1, .int (zI 0)), (0, .ref (a 0))]) hx hb dX0_findBuckets_1 rfl hl (by decide) rfl (fun ls hl => ?_)
  have loop2 : ∀ (nn : Nat) (k : Int) (fA : Int → Int) (rA : Int → Int) (H : Heap) (locs : List Loc) (ls : Array Slot), (0 ≤ k) → (k ≤ sg) → (fA = zfill 0 k (fun _ => 0) ff) → (rA = zfill 0 k (fun _ => 0) rf) → ((sg - k).toNat) < nn → va_P D vwCl [(a 0, .inr (0, so a ts lp len sg vc)), (lp, .inl (cI, nl, .inl (zA lt))), (a 4, .inl (cZ, nr, .inl (zA (zB rs)))), (a 8, .inl (cI, nF, .inl (zA fA))), (a 9, .inl (cI, nR, .inl (zA rA)))] H → va_D A [(a 0, .inr (0, so a ts lp len sg vc)), (lp, .inl (cI, nl, .inl (zA lt))), (a 4, .inl (cZ, nr, .inl (zA (zB rs)))), (a 8, .inl (cI, nF, .inl (zA fA))), (a 9, .inl (cI, nR, .inl (zA rA)))] → va_S A s.heap H locs → lv_has ls 5 [(0, .ref (a 0)), (1, .int (zI k))] → W p l e (headSpec wsX0_findBuckets ({ frames := 1, cells := 0, slots := 0, locals := 22 })).room s m ([.ref (a 0)] : List Value).toArray below meth c H locs 0 0 (MQ below (zQw D A (fun _ : Unit => True) (fun _ : Unit => [(a 0, .inr (0, so a ts lp len sg vc)), (lp, .inl (cI, nl, .inl (zA lt))), (a 4, .inl (cZ, nr, .inl (zA (zB rs)))), (a 8, .inl (cI, nF, .inl (zA (zup (fbB nF nR len sg lt rs ff rf).2.1 sg (fbB nF nR len sg lt rs ff rf).1)))), (a 9, .inl (cI, nR, .inl (zA ((fbB nF nR len sg lt rs ff rf).2.2))))])) ([.ref (a 0)] : List Value).toArray s 0 0 A) (F0 m 2 ls []) := by
    intro nn
    induction nn with
    | zero =>
      intros
      exact absurd (by assumption : _ < 0) (Nat.not_lt_zero _)
    | succ nn ih2 =>
      intro k fA rA H locs ls h0 h1 hfA hrA hmu hP hD hS hl
      refine lv_iload_n hx hb dX0_findBuckets_2 rfl (lv_at hl 1 rfl) ?_
      refine lv_aload_n hx hb dX0_findBuckets_3 rfl (lv_at hl 0 rfl) ?_
      refine va_get (D := D) (ci := 0) (v := .int (zI sg)) (C := RX0) (T := TX0) (N := 15) hx hb hts inX0_findBuckets_X0 hown hK.1 hP 0 rfl rfl 13 (by decide) (hts (.fieldLink RX0 107 "TextEnds$EndSorter" "sigma" "I") (List.mem_of_getElem? (i := 1) rfl)) (fun _ h9 => h9) rfl dX0_findBuckets_4 ?_
      refine z_icmp_ge (tgt := 30) hx hb dX0_findBuckets_7 (by decide) (by omega) (by omega) (fun h_1 => ?_) (fun h_1 => ?_)
      · skip
        refine lv_iconst (v := zI 0) hx hb dX0_findBuckets_30 (by first | rfl | decide) ?_
        refine lv_istore_n (lv' := [(1, .int (zI 0)), (0, .ref (a 0))]) hx hb dX0_findBuckets_31 rfl hl (by decide) rfl (fun ls hl => ?_)
        have loop32 : ∀ (nn : Nat) (i : Int) (fC : Int → Int) (rC : Int → Int) (H : Heap) (locs : List Loc) (ls : Array Slot), (0 ≤ i) → (i ≤ len) → ((fC, rC) = zit (stC nF nR len lt rs) i.toNat (zfill 0 sg (fun _ => 0) ff, zfill 0 sg (fun _ => 0) rf)) → ((len - i).toNat) < nn → va_P D vwCl [(a 0, .inr (0, so a ts lp len sg vc)), (lp, .inl (cI, nl, .inl (zA lt))), (a 4, .inl (cZ, nr, .inl (zA (zB rs)))), (a 8, .inl (cI, nF, .inl (zA fC))), (a 9, .inl (cI, nR, .inl (zA rC)))] H → va_D A [(a 0, .inr (0, so a ts lp len sg vc)), (lp, .inl (cI, nl, .inl (zA lt))), (a 4, .inl (cZ, nr, .inl (zA (zB rs)))), (a 8, .inl (cI, nF, .inl (zA fC))), (a 9, .inl (cI, nR, .inl (zA rC)))] → va_S A s.heap H locs → lv_has ls 5 [(0, .ref (a 0)), (1, .int (zI i))] → W p l e (headSpec wsX0_findBuckets ({ frames := 1, cells := 0, slots := 0, locals := 22 })).room s m ([.ref (a 0)] : List Value).toArray below meth c H locs 0 0 (MQ below (zQw D A (fun _ : Unit => True) (fun _ : Unit => [(a 0, .inr (0, so a ts lp len sg vc)), (lp, .inl (cI, nl, .inl (zA lt))), (a 4, .inl (cZ, nr, .inl (zA (zB rs)))), (a 8, .inl (cI, nF, .inl (zA (zup (fbB nF nR len sg lt rs ff rf).2.1 sg (fbB nF nR len sg lt rs ff rf).1)))), (a 9, .inl (cI, nR, .inl (zA ((fbB nF nR len sg lt rs ff rf).2.2))))])) ([.ref (a 0)] : List Value).toArray s 0 0 A) (F0 m 32 ls []) := by
          intro nn
          induction nn with
          | zero =>
            intros
            exact absurd (by assumption : _ < 0) (Nat.not_lt_zero _)
          | succ nn ih32 =>
            intro i fC rC H locs ls g0 g1 hqC hmu hP hD hS hl
            refine lv_iload_n hx hb dX0_findBuckets_32 rfl (lv_at hl 1 rfl) ?_
            refine lv_aload_n hx hb dX0_findBuckets_33 rfl (lv_at hl 0 rfl) ?_
            refine va_get (D := D) (ci := 0) (v := .int (zI len)) (C := RX0) (T := TX0) (N := 15) hx hb hts inX0_findBuckets_X0 hown hK.1 hP 0 rfl rfl 12 (by decide) (hts (.fieldLink RX0 103 "TextEnds$EndSorter" "length" "I") (List.mem_of_getElem? (i := 4) rfl)) (fun _ h9 => h9) rfl dX0_findBuckets_34 ?_
            refine z_icmp_ge (tgt := 85) hx hb dX0_findBuckets_37 (by decide) (by omega) (by omega) (fun h_2 => ?_) (fun h_2 => ?_)
            · skip
              refine lv_iconst (v := zI 0) hx hb dX0_findBuckets_85 (by first | rfl | decide) ?_
              refine lv_istore_n (lv' := [(1, .int (zI 0)), (0, .ref (a 0))]) hx hb dX0_findBuckets_86 rfl hl (by decide) rfl (fun ls hl => ?_)
              refine lv_iconst (v := zI 0) hx hb dX0_findBuckets_87 (by first | rfl | decide) ?_
              refine lv_istore_n (lv' := [(2, .int (zI 0)), (1, .int (zI 0)), (0, .ref (a 0))]) hx hb dX0_findBuckets_88 rfl hl (by decide) rfl (fun ls hl => ?_)
              have loop89 : ∀ (nn : Nat) (sl : Int) (j : Int) (fB : Int → Int) (rB : Int → Int) (H : Heap) (locs : List Loc) (ls : Array Slot), (0 ≤ j) → (j ≤ sg) → ((sl, fB, rB) = zit stB j.toNat (0, (fbC nF nR len sg lt rs ff rf).1, (fbC nF nR len sg lt rs ff rf).2)) → ((sg - j).toNat) < nn → va_P D vwCl [(a 0, .inr (0, so a ts lp len sg vc)), (lp, .inl (cI, nl, .inl (zA lt))), (a 4, .inl (cZ, nr, .inl (zA (zB rs)))), (a 8, .inl (cI, nF, .inl (zA fB))), (a 9, .inl (cI, nR, .inl (zA rB)))] H → va_D A [(a 0, .inr (0, so a ts lp len sg vc)), (lp, .inl (cI, nl, .inl (zA lt))), (a 4, .inl (cZ, nr, .inl (zA (zB rs)))), (a 8, .inl (cI, nF, .inl (zA fB))), (a 9, .inl (cI, nR, .inl (zA rB)))] → va_S A s.heap H locs → lv_has ls 5 [(0, .ref (a 0)), (1, .int (zI sl)), (2, .int (zI j))] → W p l e (headSpec wsX0_findBuckets ({ frames := 1, cells := 0, slots := 0, locals := 22 })).room s m ([.ref (a 0)] : List Value).toArray below meth c H locs 0 0 (MQ below (zQw D A (fun _ : Unit => True) (fun _ : Unit => [(a 0, .inr (0, so a ts lp len sg vc)), (lp, .inl (cI, nl, .inl (zA lt))), (a 4, .inl (cZ, nr, .inl (zA (zB rs)))), (a 8, .inl (cI, nF, .inl (zA (zup (fbB nF nR len sg lt rs ff rf).2.1 sg (fbB nF nR len sg lt rs ff rf).1)))), (a 9, .inl (cI, nR, .inl (zA ((fbB nF nR len sg lt rs ff rf).2.2))))])) ([.ref (a 0)] : List Value).toArray s 0 0 A) (F0 m 89 ls []) := by
                intro nn
                induction nn with
                | zero =>
                  intros
                  exact absurd (by assumption : _ < 0) (Nat.not_lt_zero _)
                | succ nn ih89 =>
                  intro sl j fB rB H locs ls f0 f1 hqB hmu hP hD hS hl
                  refine lv_iload_n hx hb dX0_findBuckets_89 rfl (lv_at hl 2 rfl) ?_
                  refine lv_aload_n hx hb dX0_findBuckets_90 rfl (lv_at hl 0 rfl) ?_
                  refine va_get (D := D) (ci := 0) (v := .int (zI sg)) (C := RX0) (T := TX0) (N := 15) hx hb hts inX0_findBuckets_X0 hown hK.1 hP 0 rfl rfl 13 (by decide) (hts (.fieldLink RX0 107 "TextEnds$EndSorter" "sigma" "I") (List.mem_of_getElem? (i := 1) rfl)) (fun _ h9 => h9) rfl dX0_findBuckets_91 ?_
                  refine z_icmp_ge (tgt := 139) hx hb dX0_findBuckets_94 (by decide) (by omega) (by omega) (fun h_3 => ?_) (fun h_3 => ?_)
                  · skip
                    refine lv_aload_n hx hb dX0_findBuckets_139 rfl (lv_at hl 0 rfl) ?_
                    refine va_get (D := D) (ci := 0) (v := .ref (a 8)) (C := RX0) (T := TX0) (N := 15) hx hb hts inX0_findBuckets_X0 hown hK.1 hP 0 rfl rfl 7 (by decide) (hts (.fieldLink RX0 58 "TextEnds$EndSorter" "fallingFrom" "[I") (List.mem_of_getElem? (i := 2) rfl)) (fun _ h9 => h9) rfl dX0_findBuckets_140 ?_
                    refine lv_aload_n hx hb dX0_findBuckets_143 rfl (lv_at hl 0 rfl) ?_
                    refine va_get (D := D) (ci := 0) (v := .int (zI sg)) (C := RX0) (T := TX0) (N := 15) hx hb hts inX0_findBuckets_X0 hown hK.1 hP 0 rfl rfl 13 (by decide) (hts (.fieldLink RX0 107 "TextEnds$EndSorter" "sigma" "I") (List.mem_of_getElem? (i := 1) rfl)) (fun _ h9 => h9) rfl dX0_findBuckets_144 ?_
                    refine lv_iload_n hx hb dX0_findBuckets_147 rfl (lv_at hl 1 rfl) ?_
                    refine z_iast hx hb hK.1 hP hD hS 3 0 rfl rfl dX0_findBuckets_148 (by omega) (by omega) (by omega) (fun H locs hP hD hS => ?_)
                    have hP : va_P D vwCl [(a 0, .inr (0, so a ts lp len sg vc)), (lp, .inl (cI, nl, .inl (zA lt))), (a 4, .inl (cZ, nr, .inl (zA (zB rs)))), (a 8, .inl (cI, nF, .inl (zA (zup fB sg sl)))), (a 9, .inl (cI, nR, .inl (zA rB)))] H := hP
                    have hD : va_D A [(a 0, .inr (0, so a ts lp len sg vc)), (lp, .inl (cI, nl, .inl (zA lt))), (a 4, .inl (cZ, nr, .inl (zA (zB rs)))), (a 8, .inl (cI, nF, .inl (zA (zup fB sg sl)))), (a 9, .inl (cI, nR, .inl (zA rB)))] := hD
                    rw [show j = sg by omega] at hqB
                    have hwe : (zup fB sg sl) = (zup (fbB nF nR len sg lt rs ff rf).2.1 sg (fbB nF nR len sg lt rs ff rf).1) := by rw [fbB, ← hqB]
                    rw [hwe] at hP hD
                    clear hwe
                    have hwe : rB = ((fbB nF nR len sg lt rs ff rf).2.2) := by rw [fbB, ← hqB]
                    rw [hwe] at hP hD
                    clear hwe
                    exact W.vret hx hb hr (fun t ht_ hW_ => ⟨⟨(), rfl, trivial, by rw [ht_]; exact hP, hD⟩, hS.F ht_⟩) hS.2.2 dX0_findBuckets_149
                  · skip
                    refine lv_iload_n hx hb dX0_findBuckets_97 rfl (lv_at hl 1 rfl) ?_
                    refine lv_aload_n hx hb dX0_findBuckets_98 rfl (lv_at hl 0 rfl) ?_
                    refine va_get (D := D) (ci := 0) (v := .ref (a 8)) (C := RX0) (T := TX0) (N := 15) hx hb hts inX0_findBuckets_X0 hown hK.1 hP 0 rfl rfl 7 (by decide) (hts (.fieldLink RX0 58 "TextEnds$EndSorter" "fallingFrom" "[I") (List.mem_of_getElem? (i := 2) rfl)) (fun _ h9 => h9) rfl dX0_findBuckets_99 ?_
                    refine lv_iload_n hx hb dX0_findBuckets_102 rfl (lv_at hl 2 rfl) ?_
                    refine z_iald hx hb hK.1 hP 3 0 rfl rfl dX0_findBuckets_103 (by omega) (by omega) (by omega) ?_
                    refine z_iadd hx hb dX0_findBuckets_104 ?_
                    refine lv_istore_n (lv' := [(3, .int (zI (sl + (fB j)))), (0, .ref (a 0)), (1, .int (zI sl)), (2, .int (zI j))]) hx hb dX0_findBuckets_105 rfl hl (by decide) rfl (fun ls hl => ?_)
                    refine lv_iload_n hx hb dX0_findBuckets_106 rfl (lv_at hl 0 rfl) ?_
                    refine lv_aload_n hx hb dX0_findBuckets_107 rfl (lv_at hl 1 rfl) ?_
                    refine va_get (D := D) (ci := 0) (v := .ref (a 9)) (C := RX0) (T := TX0) (N := 15) hx hb hts inX0_findBuckets_X0 hown hK.1 hP 0 rfl rfl 8 (by decide) (hts (.fieldLink RX0 61 "TextEnds$EndSorter" "risingFrom" "[I") (List.mem_of_getElem? (i := 3) rfl)) (fun _ h9 => h9) rfl dX0_findBuckets_108 ?_
                    refine lv_iload_n hx hb dX0_findBuckets_111 rfl (lv_at hl 3 rfl) ?_
                    refine z_iald hx hb hK.1 hP 4 0 rfl rfl dX0_findBuckets_112 (by omega) (by omega) (by omega) ?_
                    refine z_iadd hx hb dX0_findBuckets_113 ?_
                    refine lv_istore (lv' := [(4, .int (zI ((sl + (fB j)) + (rB j)))), (3, .int (zI (sl + (fB j)))), (0, .ref (a 0)), (1, .int (zI sl)), (2, .int (zI j))]) hx hb dX0_findBuckets_114 hl (by decide) rfl (fun ls hl => ?_)
                    refine lv_aload_n hx hb dX0_findBuckets_116 rfl (lv_at hl 2 rfl) ?_
                    refine va_get (D := D) (ci := 0) (v := .ref (a 8)) (C := RX0) (T := TX0) (N := 15) hx hb hts inX0_findBuckets_X0 hown hK.1 hP 0 rfl rfl 7 (by decide) (hts (.fieldLink RX0 58 "TextEnds$EndSorter" "fallingFrom" "[I") (List.mem_of_getElem? (i := 2) rfl)) (fun _ h9 => h9) rfl dX0_findBuckets_117 ?_
                    refine lv_iload_n hx hb dX0_findBuckets_120 rfl (lv_at hl 4 rfl) ?_
                    refine lv_iload_n hx hb dX0_findBuckets_121 rfl (lv_at hl 3 rfl) ?_
                    refine z_iast hx hb hK.1 hP hD hS 3 0 rfl rfl dX0_findBuckets_122 (by omega) (by omega) (by omega) (fun H locs hP hD hS => ?_)
                    have hP : va_P D vwCl [(a 0, .inr (0, so a ts lp len sg vc)), (lp, .inl (cI, nl, .inl (zA lt))), (a 4, .inl (cZ, nr, .inl (zA (zB rs)))), (a 8, .inl (cI, nF, .inl (zA (zup fB j sl)))), (a 9, .inl (cI, nR, .inl (zA rB)))] H := hP
                    have hD : va_D A [(a 0, .inr (0, so a ts lp len sg vc)), (lp, .inl (cI, nl, .inl (zA lt))), (a 4, .inl (cZ, nr, .inl (zA (zB rs)))), (a 8, .inl (cI, nF, .inl (zA (zup fB j sl)))), (a 9, .inl (cI, nR, .inl (zA rB)))] := hD
                    refine lv_aload_n hx hb dX0_findBuckets_123 rfl (lv_at hl 2 rfl) ?_
                    refine va_get (D := D) (ci := 0) (v := .ref (a 9)) (C := RX0) (T := TX0) (N := 15) hx hb hts inX0_findBuckets_X0 hown hK.1 hP 0 rfl rfl 8 (by decide) (hts (.fieldLink RX0 61 "TextEnds$EndSorter" "risingFrom" "[I") (List.mem_of_getElem? (i := 3) rfl)) (fun _ h9 => h9) rfl dX0_findBuckets_124 ?_
                    refine lv_iload_n hx hb dX0_findBuckets_127 rfl (lv_at hl 4 rfl) ?_
                    refine lv_iload_n hx hb dX0_findBuckets_128 rfl (lv_at hl 1 rfl) ?_
                    refine z_iast hx hb hK.1 hP hD hS 4 0 rfl rfl dX0_findBuckets_129 (by omega) (by omega) (by omega) (fun H locs hP hD hS => ?_)
                    have hP : va_P D vwCl [(a 0, .inr (0, so a ts lp len sg vc)), (lp, .inl (cI, nl, .inl (zA lt))), (a 4, .inl (cZ, nr, .inl (zA (zB rs)))), (a 8, .inl (cI, nF, .inl (zA (zup fB j sl)))), (a 9, .inl (cI, nR, .inl (zA (zup rB j (sl + (fB j))))))] H := hP
                    have hD : va_D A [(a 0, .inr (0, so a ts lp len sg vc)), (lp, .inl (cI, nl, .inl (zA lt))), (a 4, .inl (cZ, nr, .inl (zA (zB rs)))), (a 8, .inl (cI, nF, .inl (zA (zup fB j sl)))), (a 9, .inl (cI, nR, .inl (zA (zup rB j (sl + (fB j))))))] := hD
                    refine lv_iload hx hb dX0_findBuckets_130 (lv_at hl 0 rfl) ?_
                    refine lv_istore_n (lv' := [(1, .int (zI ((sl + (fB j)) + (rB j)))), (4, .int (zI ((sl + (fB j)) + (rB j)))), (3, .int (zI (sl + (fB j)))), (0, .ref (a 0)), (2, .int (zI j))]) hx hb dX0_findBuckets_132 rfl hl (by decide) rfl (fun ls hl => ?_)
                    refine lv_iinc (v := zI (j + 1)) (lv' := [(2, .int (zI (j + 1))), (1, .int (zI ((sl + (fB j)) + (rB j)))), (4, .int (zI ((sl + (fB j)) + (rB j)))), (3, .int (zI (sl + (fB j)))), (0, .ref (a 0))]) hx hb dX0_findBuckets_133 hl (k := 4) rfl (zI_add _ _) (by decide) rfl (fun ls hl => ?_)
                    refine lv_goto (tgt := 89) hx hb dX0_findBuckets_136 (by decide) ?_
                    exact ih89 ((sl + (fB j)) + (rB j)) (j + 1) (zup fB j sl) (zup rB j (sl + (fB j))) _ _ ls (by omega) (by omega) (stB_s hqB f0) (by omega) (hP) (hD) hS (lv_sub hl [4, 1, 0] rfl)
              exact loop89 _ 0 0 fC rC _ _ ls (by omega) (by omega) (by rw [show i = len by omega] at hqC; rw [fbC, ← hqC]; rfl) (Nat.lt_succ_self _) hP hD hS (lv_sub hl [2, 1, 0] rfl)
            · skip
              refine lv_aload_n hx hb dX0_findBuckets_40 rfl (lv_at hl 0 rfl) ?_
              refine va_get (D := D) (ci := 0) (v := .ref (a 4)) (C := RX0) (T := TX0) (N := 15) hx hb hts inX0_findBuckets_X0 hown hK.1 hP 0 rfl rfl 3 (by decide) (hts (.fieldLink RX0 45 "TextEnds$EndSorter" "rising" "[Z") (List.mem_of_getElem? (i := 5) rfl)) (fun _ h9 => h9) rfl dX0_findBuckets_41 ?_
              refine lv_iload_n hx hb dX0_findBuckets_44 rfl (lv_at hl 1 rfl) ?_
              refine z_zald hx hb hK.1 hP 2 1 rfl rfl dX0_findBuckets_45 (by omega) (by omega) (by omega) ?_
              refine z_if_eq (tgt := 56) hx hb dX0_findBuckets_46 (by decide) (zB_R _ _) (fun h_4 => ?_) (fun h_4 => ?_)
              · skip
                refine lv_aload_n hx hb dX0_findBuckets_56 rfl (lv_at hl 0 rfl) ?_
                refine va_get (D := D) (ci := 0) (v := .ref (a 8)) (C := RX0) (T := TX0) (N := 15) hx hb hts inX0_findBuckets_X0 hown hK.1 hP 0 rfl rfl 7 (by decide) (hts (.fieldLink RX0 58 "TextEnds$EndSorter" "fallingFrom" "[I") (List.mem_of_getElem? (i := 2) rfl)) (fun _ h9 => h9) rfl dX0_findBuckets_57 ?_
                refine lv_astore_n (lv' := [(2, .ref (a 8)), (0, .ref (a 0)), (1, .int (zI i))]) hx hb dX0_findBuckets_60 rfl hl (by decide) rfl (fun ls hl => ?_)
                have hq1 := zla_S hlt len i
                refine lv_aload_n hx hb dX0_findBuckets_61 rfl (lv_at hl 1 rfl) ?_
                refine lv_iload_n hx hb dX0_findBuckets_62 rfl (lv_at hl 2 rfl) ?_
                refine z_cr (va_runV (As := [.int (zI i)]) (rest := []) ⟨hx, hb, hml, hown, hts⟩ (kX0_letterAt l D cI cZ cL a ts lp len sg vc nl lt i (by omega) (by omega) (by omega) (by omega)) (cwV 1 hts gX0_findBuckets_X0_letterAt rfl rfl rfl (by decide +kernel) ⟨Nat.le_of_ble_eq_true rfl, Nat.le_of_ble_eq_true rfl⟩) (zPr_preV (ci := 0) (q0 := 0) hK (hP.sub (ws' := [(a 0, .inr (0, so a ts lp len sg vc)), (lp, .inl (cI, nl, .inl (zA lt)))]) [0, 1] rfl) rfl rfl) rfl rfl hl.1 rfl (lv_room (Nat.le_of_ble_eq_true rfl)) dX0_findBuckets_63 ⟨Nat.zero_le _, Nat.zero_le _⟩) (fun r hr_ => ?_)
                subst hr_
                refine lv_istore_n (lv' := [(3, .int (zI (zla len lt i))), (2, .ref (a 8)), (0, .ref (a 0)), (1, .int (zI i))]) hx hb dX0_findBuckets_66 rfl hl (by decide) rfl (fun ls hl => ?_)
                refine lv_aload_n hx hb dX0_findBuckets_67 rfl (lv_at hl 1 rfl) ?_
                refine lv_iload_n hx hb dX0_findBuckets_68 rfl (lv_at hl 0 rfl) ?_
                refine lv_aload_n hx hb dX0_findBuckets_69 rfl (lv_at hl 1 rfl) ?_
                refine lv_iload_n hx hb dX0_findBuckets_70 rfl (lv_at hl 0 rfl) ?_
                refine z_cr (va_runSN (As := [.ref (a 8), .int (zI (zla len lt i))]) (rest := [.int (zI (zla len lt i)), .ref (a 8)]) ⟨hx, hb, hml, hown, hts⟩ (kX2_at l D cI cZ cL (a 8) nF fC (zla len lt i) (by omega) (by omega)) ⟨va_cnB 2 hts gX0_findBuckets_X2_at_n131 rfl rfl rfl hK.2.2 (hts (.initialized RX2) (List.mem_of_getElem? (i := 13) rfl)) (by decide +kernel) ⟨Nat.le_of_ble_eq_true rfl, Nat.le_of_ble_eq_true rfl⟩, hts (.static yX2_at) (List.mem_of_getElem? (i := 12) rfl), trivial⟩ (zPr_pre hK (hP.sub (ws' := [(a 8, .inl (cI, nF, .inl (zA fC)))]) [3] rfl)) rfl rfl hl.1 rfl (lv_room (Nat.le_of_ble_eq_true rfl)) dX0_findBuckets_71 ⟨Nat.zero_le _, Nat.zero_le _⟩) (fun r hr_ => ?_)
                subst hr_
                refine lv_iconst (v := zI 1) hx hb dX0_findBuckets_74 (by first | rfl | decide) ?_
                refine z_iadd hx hb dX0_findBuckets_75 ?_
                refine z_cw (wc := [(a 8, .inl (cI, nF, .inl (zA fC)))]) (wr := [(a 0, .inr (0, so a ts lp len sg vc)), (lp, .inl (cI, nl, .inl (zA lt))), (a 4, .inl (cZ, nr, .inl (zA (zB rs)))), (a 9, .inl (cI, nR, .inl (zA rC)))]) (Wt := (fun _ : Unit => [(a 0, .inr (0, so a ts lp len sg vc)), (lp, .inl (cI, nl, .inl (zA lt))), (a 4, .inl (cZ, nr, .inl (zA (zB rs)))), (a 8, .inl (cI, nF, .inl (zA (zput nF fC (zla len lt i) ((zat nF fC (zla len lt i)) + 1))))), (a 9, .inl (cI, nR, .inl (zA rC)))])) [3] [0, 1, 2, 4] [0, 1, 2, 4, 3] hP hD hS hA rfl rfl (by decide) (by decide) (by decide) (by decide) (fun _ => rfl) (fun _ => rfl) (fun hPc hDc => va_runSN (As := [.ref (a 8), .int (zI (zla len lt i)), .int (zI ((zat nF fC (zla len lt i)) + 1))]) (rest := []) ⟨hx, hb, hml, hown, hts⟩ (kX2_put l D cI cZ cL (a 8) nF fC (zla len lt i) ((zat nF fC (zla len lt i)) + 1) _ (by omega) (by omega)) ⟨va_cnB 3 hts gX0_findBuckets_X2_put_n127 rfl rfl rfl hK.2.1 (hts (.initialized RX2) (List.mem_of_getElem? (i := 13) rfl)) (by decide +kernel) ⟨Nat.le_of_ble_eq_true rfl, Nat.le_of_ble_eq_true rfl⟩, hts (.static yX2_put) (List.mem_of_getElem? (i := 15) rfl), trivial⟩ (zPw_pre hK hPc hDc) rfl rfl hl.1 rfl (lv_room (Nat.le_of_ble_eq_true rfl)) dX0_findBuckets_76 ⟨Nat.zero_le _, Nat.zero_le _⟩) rfl (fun u H locs hp_ hP hD hS => ?_)
                have hP : va_P D vwCl [(a 0, .inr (0, so a ts lp len sg vc)), (lp, .inl (cI, nl, .inl (zA lt))), (a 4, .inl (cZ, nr, .inl (zA (zB rs)))), (a 8, .inl (cI, nF, .inl (zA (zput nF fC (zla len lt i) ((zat nF fC (zla len lt i)) + 1))))), (a 9, .inl (cI, nR, .inl (zA rC)))] H := hP
                have hD : va_D A [(a 0, .inr (0, so a ts lp len sg vc)), (lp, .inl (cI, nl, .inl (zA lt))), (a 4, .inl (cZ, nr, .inl (zA (zB rs)))), (a 8, .inl (cI, nF, .inl (zA (zput nF fC (zla len lt i) ((zat nF fC (zla len lt i)) + 1))))), (a 9, .inl (cI, nR, .inl (zA rC)))] := hD
                refine lv_iinc (v := zI (i + 1)) (lv' := [(1, .int (zI (i + 1))), (3, .int (zI (zla len lt i))), (2, .ref (a 8)), (0, .ref (a 0))]) hx hb dX0_findBuckets_79 hl (k := 3) rfl (zI_add _ _) (by decide) rfl (fun ls hl => ?_)
                refine lv_goto (tgt := 32) hx hb dX0_findBuckets_82 (by decide) ?_
                exact ih32 (i + 1) (zput nF fC (zla len lt i) ((zat nF fC (zla len lt i)) + 1)) rC _ _ ls (by omega) (by omega) (by first | exact stC_t hqC g0 (zB_ne (by with_reducible assumption)) | exact stC_f hqC g0 (zB_eq (by with_reducible assumption))) (by omega) (hP) (hD) hS (lv_sub hl [3, 0] rfl)
              · skip
                refine lv_aload_n hx hb dX0_findBuckets_49 rfl (lv_at hl 0 rfl) ?_
                refine va_get (D := D) (ci := 0) (v := .ref (a 9)) (C := RX0) (T := TX0) (N := 15) hx hb hts inX0_findBuckets_X0 hown hK.1 hP 0 rfl rfl 8 (by decide) (hts (.fieldLink RX0 61 "TextEnds$EndSorter" "risingFrom" "[I") (List.mem_of_getElem? (i := 3) rfl)) (fun _ h9 => h9) rfl dX0_findBuckets_50 ?_
                refine lv_goto (tgt := 60) hx hb dX0_findBuckets_53 (by decide) ?_
                refine lv_astore_n (lv' := [(2, .ref (a 9)), (0, .ref (a 0)), (1, .int (zI i))]) hx hb dX0_findBuckets_60 rfl hl (by decide) rfl (fun ls hl => ?_)
                have hq1 := zla_S hlt len i
                refine lv_aload_n hx hb dX0_findBuckets_61 rfl (lv_at hl 1 rfl) ?_
                refine lv_iload_n hx hb dX0_findBuckets_62 rfl (lv_at hl 2 rfl) ?_
                refine z_cr (va_runV (As := [.int (zI i)]) (rest := []) ⟨hx, hb, hml, hown, hts⟩ (kX0_letterAt l D cI cZ cL a ts lp len sg vc nl lt i (by omega) (by omega) (by omega) (by omega)) (cwV 1 hts gX0_findBuckets_X0_letterAt rfl rfl rfl (by decide +kernel) ⟨Nat.le_of_ble_eq_true rfl, Nat.le_of_ble_eq_true rfl⟩) (zPr_preV (ci := 0) (q0 := 0) hK (hP.sub (ws' := [(a 0, .inr (0, so a ts lp len sg vc)), (lp, .inl (cI, nl, .inl (zA lt)))]) [0, 1] rfl) rfl rfl) rfl rfl hl.1 rfl (lv_room (Nat.le_of_ble_eq_true rfl)) dX0_findBuckets_63 ⟨Nat.zero_le _, Nat.zero_le _⟩) (fun r hr_ => ?_)
                subst hr_
                refine lv_istore_n (lv' := [(3, .int (zI (zla len lt i))), (2, .ref (a 9)), (0, .ref (a 0)), (1, .int (zI i))]) hx hb dX0_findBuckets_66 rfl hl (by decide) rfl (fun ls hl => ?_)
                refine lv_aload_n hx hb dX0_findBuckets_67 rfl (lv_at hl 1 rfl) ?_
                refine lv_iload_n hx hb dX0_findBuckets_68 rfl (lv_at hl 0 rfl) ?_
                refine lv_aload_n hx hb dX0_findBuckets_69 rfl (lv_at hl 1 rfl) ?_
                refine lv_iload_n hx hb dX0_findBuckets_70 rfl (lv_at hl 0 rfl) ?_
                refine z_cr (va_runSN (As := [.ref (a 9), .int (zI (zla len lt i))]) (rest := [.int (zI (zla len lt i)), .ref (a 9)]) ⟨hx, hb, hml, hown, hts⟩ (kX2_at l D cI cZ cL (a 9) nR rC (zla len lt i) (by omega) (by omega)) ⟨va_cnB 2 hts gX0_findBuckets_X2_at_n131 rfl rfl rfl hK.2.2 (hts (.initialized RX2) (List.mem_of_getElem? (i := 13) rfl)) (by decide +kernel) ⟨Nat.le_of_ble_eq_true rfl, Nat.le_of_ble_eq_true rfl⟩, hts (.static yX2_at) (List.mem_of_getElem? (i := 12) rfl), trivial⟩ (zPr_pre hK (hP.sub (ws' := [(a 9, .inl (cI, nR, .inl (zA rC)))]) [4] rfl)) rfl rfl hl.1 rfl (lv_room (Nat.le_of_ble_eq_true rfl)) dX0_findBuckets_71 ⟨Nat.zero_le _, Nat.zero_le _⟩) (fun r hr_ => ?_)
                subst hr_
                refine lv_iconst (v := zI 1) hx hb dX0_findBuckets_74 (by first | rfl | decide) ?_
                refine z_iadd hx hb dX0_findBuckets_75 ?_
                refine z_cw (wc := [(a 9, .inl (cI, nR, .inl (zA rC)))]) (wr := [(a 0, .inr (0, so a ts lp len sg vc)), (lp, .inl (cI, nl, .inl (zA lt))), (a 4, .inl (cZ, nr, .inl (zA (zB rs)))), (a 8, .inl (cI, nF, .inl (zA fC)))]) (Wt := (fun _ : Unit => [(a 0, .inr (0, so a ts lp len sg vc)), (lp, .inl (cI, nl, .inl (zA lt))), (a 4, .inl (cZ, nr, .inl (zA (zB rs)))), (a 8, .inl (cI, nF, .inl (zA fC))), (a 9, .inl (cI, nR, .inl (zA (zput nR rC (zla len lt i) ((zat nR rC (zla len lt i)) + 1)))))])) [4] [0, 1, 2, 3] [0, 1, 2, 3, 4] hP hD hS hA rfl rfl (by decide) (by decide) (by decide) (by decide) (fun _ => rfl) (fun _ => rfl) (fun hPc hDc => va_runSN (As := [.ref (a 9), .int (zI (zla len lt i)), .int (zI ((zat nR rC (zla len lt i)) + 1))]) (rest := []) ⟨hx, hb, hml, hown, hts⟩ (kX2_put l D cI cZ cL (a 9) nR rC (zla len lt i) ((zat nR rC (zla len lt i)) + 1) _ (by omega) (by omega)) ⟨va_cnB 3 hts gX0_findBuckets_X2_put_n127 rfl rfl rfl hK.2.1 (hts (.initialized RX2) (List.mem_of_getElem? (i := 13) rfl)) (by decide +kernel) ⟨Nat.le_of_ble_eq_true rfl, Nat.le_of_ble_eq_true rfl⟩, hts (.static yX2_put) (List.mem_of_getElem? (i := 15) rfl), trivial⟩ (zPw_pre hK hPc hDc) rfl rfl hl.1 rfl (lv_room (Nat.le_of_ble_eq_true rfl)) dX0_findBuckets_76 ⟨Nat.zero_le _, Nat.zero_le _⟩) rfl (fun u H locs hp_ hP hD hS => ?_)
                have hP : va_P D vwCl [(a 0, .inr (0, so a ts lp len sg vc)), (lp, .inl (cI, nl, .inl (zA lt))), (a 4, .inl (cZ, nr, .inl (zA (zB rs)))), (a 8, .inl (cI, nF, .inl (zA fC))), (a 9, .inl (cI, nR, .inl (zA (zput nR rC (zla len lt i) ((zat nR rC (zla len lt i)) + 1)))))] H := hP
                have hD : va_D A [(a 0, .inr (0, so a ts lp len sg vc)), (lp, .inl (cI, nl, .inl (zA lt))), (a 4, .inl (cZ, nr, .inl (zA (zB rs)))), (a 8, .inl (cI, nF, .inl (zA fC))), (a 9, .inl (cI, nR, .inl (zA (zput nR rC (zla len lt i) ((zat nR rC (zla len lt i)) + 1)))))] := hD
                refine lv_iinc (v := zI (i + 1)) (lv' := [(1, .int (zI (i + 1))), (3, .int (zI (zla len lt i))), (2, .ref (a 9)), (0, .ref (a 0))]) hx hb dX0_findBuckets_79 hl (k := 3) rfl (zI_add _ _) (by decide) rfl (fun ls hl => ?_)
                refine lv_goto (tgt := 32) hx hb dX0_findBuckets_82 (by decide) ?_
                exact ih32 (i + 1) fC (zput nR rC (zla len lt i) ((zat nR rC (zla len lt i)) + 1)) _ _ ls (by omega) (by omega) (by first | exact stC_t hqC g0 (zB_ne (by with_reducible assumption)) | exact stC_f hqC g0 (zB_eq (by with_reducible assumption))) (by omega) (hP) (hD) hS (lv_sub hl [3, 0] rfl)
        exact loop32 _ 0 fA rA _ _ ls (by omega) (by omega) (by rw [hfA, hrA, show k = sg by omega]; rfl) (Nat.lt_succ_self _) hP hD hS (lv_sub hl [1, 0] rfl)
      · skip
        refine lv_aload_n hx hb dX0_findBuckets_10 rfl (lv_at hl 0 rfl) ?_
        refine va_get (D := D) (ci := 0) (v := .ref (a 8)) (C := RX0) (T := TX0) (N := 15) hx hb hts inX0_findBuckets_X0 hown hK.1 hP 0 rfl rfl 7 (by decide) (hts (.fieldLink RX0 58 "TextEnds$EndSorter" "fallingFrom" "[I") (List.mem_of_getElem? (i := 2) rfl)) (fun _ h9 => h9) rfl dX0_findBuckets_11 ?_
        refine lv_iload_n hx hb dX0_findBuckets_14 rfl (lv_at hl 1 rfl) ?_
        refine lv_iconst (v := zI 0) hx hb dX0_findBuckets_15 (by first | rfl | decide) ?_
        refine z_iast hx hb hK.1 hP hD hS 3 0 rfl rfl dX0_findBuckets_16 (by omega) (by omega) (by omega) (fun H locs hP hD hS => ?_)
        have hP : va_P D vwCl [(a 0, .inr (0, so a ts lp len sg vc)), (lp, .inl (cI, nl, .inl (zA lt))), (a 4, .inl (cZ, nr, .inl (zA (zB rs)))), (a 8, .inl (cI, nF, .inl (zA (zup fA k 0)))), (a 9, .inl (cI, nR, .inl (zA rA)))] H := hP
        have hD : va_D A [(a 0, .inr (0, so a ts lp len sg vc)), (lp, .inl (cI, nl, .inl (zA lt))), (a 4, .inl (cZ, nr, .inl (zA (zB rs)))), (a 8, .inl (cI, nF, .inl (zA (zup fA k 0)))), (a 9, .inl (cI, nR, .inl (zA rA)))] := hD
        refine lv_aload_n hx hb dX0_findBuckets_17 rfl (lv_at hl 0 rfl) ?_
        refine va_get (D := D) (ci := 0) (v := .ref (a 9)) (C := RX0) (T := TX0) (N := 15) hx hb hts inX0_findBuckets_X0 hown hK.1 hP 0 rfl rfl 8 (by decide) (hts (.fieldLink RX0 61 "TextEnds$EndSorter" "risingFrom" "[I") (List.mem_of_getElem? (i := 3) rfl)) (fun _ h9 => h9) rfl dX0_findBuckets_18 ?_
        refine lv_iload_n hx hb dX0_findBuckets_21 rfl (lv_at hl 1 rfl) ?_
        refine lv_iconst (v := zI 0) hx hb dX0_findBuckets_22 (by first | rfl | decide) ?_
        refine z_iast hx hb hK.1 hP hD hS 4 0 rfl rfl dX0_findBuckets_23 (by omega) (by omega) (by omega) (fun H locs hP hD hS => ?_)
        have hP : va_P D vwCl [(a 0, .inr (0, so a ts lp len sg vc)), (lp, .inl (cI, nl, .inl (zA lt))), (a 4, .inl (cZ, nr, .inl (zA (zB rs)))), (a 8, .inl (cI, nF, .inl (zA (zup fA k 0)))), (a 9, .inl (cI, nR, .inl (zA (zup rA k 0))))] H := hP
        have hD : va_D A [(a 0, .inr (0, so a ts lp len sg vc)), (lp, .inl (cI, nl, .inl (zA lt))), (a 4, .inl (cZ, nr, .inl (zA (zB rs)))), (a 8, .inl (cI, nF, .inl (zA (zup fA k 0)))), (a 9, .inl (cI, nR, .inl (zA (zup rA k 0))))] := hD
        refine lv_iinc (v := zI (k + 1)) (lv' := [(1, .int (zI (k + 1))), (0, .ref (a 0))]) hx hb dX0_findBuckets_24 hl (k := 1) rfl (zI_add _ _) (by decide) rfl (fun ls hl => ?_)
        refine lv_goto (tgt := 2) hx hb dX0_findBuckets_27 (by decide) ?_
        exact ih2 (k + 1) (zup fA k 0) (zup rA k 0) _ _ ls (by omega) (by omega) (by rw [hfA]; exact zfill_up (f := fun _ => 0) h0) (by rw [hrA]; exact zfill_up (f := fun _ => 0) h0) (by omega) (hP) (hD) hS (lv_sub hl [1, 0] rfl)
  exact loop2 _ 0 ff rf _ _ ls (by omega) (by omega) (zfill_0 _ _ _) (zfill_0 _ _ _) (Nat.lt_succ_self _) hP hD hS (lv_sub hl [1, 0] rfl)
