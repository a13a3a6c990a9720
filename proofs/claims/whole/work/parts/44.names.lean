set_option maxRecDepth 20000 in
theorem inX0_gatherValleys_X0 : ∀ w ∈ wsX00, w ∈ wsX0_gatherValleys := by decide +kernel
set_option maxRecDepth 20000 in
theorem inX0_stepsToNext_X0 : ∀ w ∈ wsX00, w ∈ wsX0_stepsToNext := by decide +kernel
set_option maxRecDepth 20000 in
theorem inX0_areAlike_X0 : ∀ w ∈ wsX00, w ∈ wsX0_areAlike := by decide +kernel
set_option maxRecDepth 20000 in
theorem inX0_nameValleys_X0 : ∀ w ∈ wsX00, w ∈ wsX0_nameValleys := by decide +kernel
set_option maxRecDepth 20000 in
theorem inX0_takeOrderFromBelow_X0 : ∀ w ∈ wsX00, w ∈ wsX0_takeOrderFromBelow := by decide +kernel
set_option maxRecDepth 20000 in
theorem inX1_hold_X1 : ∀ w ∈ wsX10, w ∈ wsX1_hold := by decide +kernel
set_option maxHeartbeats 4000000 in
set_option maxRecDepth 100000 in
/-- gatherValleys() -/
theorem kX0_gatherValleys (l : Launch) (D : va_G) (cI cZ cL : ClassId) (a : Nat → Nat) (ts : Int) (lp : Nat) (len sg vc : Int) (nO nM nW : Nat) (od vn sv : Int → Int) (szz : Nat) (hlen : 0 ≤ len) (hlO : len ≤ (nO : Int)) (bnO : (nO : Int) < 1073741824) (bnM : (nM : Int) < 1073741824) (bnW : (nW : Int) < 1073741824) (hod : zS od) (hvn : zS vn) : Met l yX0_gatherValleys wsX0_gatherValleys ({ frames := 1, cells := 0, slots := 0, locals := 22 }) (zPw D cI cZ cL szz [.ref (a 0)] [(a 0, .inr (0, so a ts lp len sg vc)), (a 2, .inl (cI, nO, .inl (zA od))), (a 6, .inl (cI, nM, .inl (zA vn))), (a 7, .inl (cI, nW, .inl (zA sv)))]) (zQw D (va_A [(a 0, .inr (0, so a ts lp len sg vc)), (a 2, .inl (cI, nO, .inl (zA od))), (a 6, .inl (cI, nM, .inl (zA vn))), (a 7, .inl (cI, nW, .inl (zA sv)))] szz) (fun _ : Unit => True) (fun _ : Unit => [(a 0, .inr (0, so a ts lp len sg vc)), (a 2, .inl (cI, nO, .inl (zA od))), (a 6, .inl (cI, nM, .inl (zA vn))), (a 7, .inl (cI, nW, .inl (zA ((zit (stG nM nW vn od) len.toNat (0, sv)).2))))])) 0 0 (va_A [(a 0, .inr (0, so a ts lp len sg vc)), (a 2, .inl (cI, nO, .inl (zA od))), (a 6, .inl (cI, nM, .inl (zA vn))), (a 7, .inl (cI, nW, .inl (zA sv)))] szz) := by
  refine Met.ofW (cc := cX0_gatherValleys) (maxL := 4) (ret := none) (by decide) rfl ?_
  intro p e s m args below meth c s₁ B hml hv
  obtain ⟨rfl, hsz, hP, hK, hD0⟩ := hv
  have hx := B.exec
  have hb := B.bytes
  have hr := B.returns
  have hts := atoms_spec (ws := wsX0_gatherValleys) B.pre
  have hown : s.vm.findClass RX0 = some m.cls := findClass_of_methodNamed B.named
  have hlocks := B.notSynchronized
  subst hsz
  have hD := hD0.self (sz := s.heap.size)
  generalize hAe : va_A [(a 0, .inr (0, so a ts lp len sg vc)), (a 2, .inl (cI, nO, .inl (zA od))), (a 6, .inl (cI, nM, .inl (zA vn))), (a 7, .inl (cI, nW, .inl (zA sv)))] s.heap.size = A at hD ⊢
  have hA : ∀ q : Nat, s.heap.size ≤ q → A q := fun q h => by rw [← hAe]; exact Or.inr h
  have hS : va_S A s.heap s.heap [] := va_S.rf
  clear hD0
  have hP : va_P D vwCl [(a 0, .inr (0, so a ts lp len sg vc)), (a 2, .inl (cI, nO, .inl (zA od))), (a 6, .inl (cI, nM, .inl (zA vn))), (a 7, .inl (cI, nW, .inl (zA sv)))] s.heap := hP
  have hl := lv_entry ([.ref (a 0)]) (n := 4) (Nat.le_of_ble_eq_true rfl)
  rw [lg_entry_eq]
  generalize (lg_sl ([.ref (a 0)]) ++ List.replicate (4 - (lg_sl ([.ref (a 0)])).length) Slot.unset).toArray = ls at hl ⊢
  have hl : lv_has ls 4 [(0, .ref (a 0))] := hl
  refine lv_iconst (v := zI 0) hx hb dX0_gatherValleys_0 (by first | rfl | decide) ?_
  refine lv_istore_n (lv' := [(1, .int (zI 0)), (0, .ref (a 0))]) hx hb dX0_gatherValleys_1 rfl hl (by decide) rfl (fun ls hl => ?_)
  refine lv_iconst (v := zI 0) hx hb dX0_gatherValleys_2 (by first | rfl | decide) ?_
  refine lv_istore_n (lv' := [(2, .int (zI 0)), (1, .int (zI 0)), (0, .ref (a 0))]) hx hb dX0_gatherValleys_3 rfl hl (by decide) rfl (fun ls hl => ?_)
  have loop4 : ∀ (nn : Nat) (i : Int) (g : Int) (svq : Int → Int) (H : Heap) (locs : List Loc) (ls : Array Slot), (0 ≤ i) → (i ≤ len) → (0 ≤ g ∧ g ≤ i) → ((g, svq) = zit (stG nM nW vn od) i.toNat (0, sv)) → ((len - i).toNat) < nn → va_P D vwCl [(a 0, .inr (0, so a ts lp len sg vc)), (a 2, .inl (cI, nO, .inl (zA od))), (a 6, .inl (cI, nM, .inl (zA vn))), (a 7, .inl (cI, nW, .inl (zA svq)))] H → va_D A [(a 0, .inr (0, so a ts lp len sg vc)), (a 2, .inl (cI, nO, .inl (zA od))), (a 6, .inl (cI, nM, .inl (zA vn))), (a 7, .inl (cI, nW, .inl (zA svq)))] → va_S A s.heap H locs → lv_has ls 4 [(0, .ref (a 0)), (1, .int (zI g)), (2, .int (zI i))] → W p l e (headSpec wsX0_gatherValleys ({ frames := 1, cells := 0, slots := 0, locals := 22 })).room s m ([.ref (a 0)] : List Value).toArray below meth c H locs 0 0 (MQ below (zQw D A (fun _ : Unit => True) (fun _ : Unit => [(a 0, .inr (0, so a ts lp len sg vc)), (a 2, .inl (cI, nO, .inl (zA od))), (a 6, .inl (cI, nM, .inl (zA vn))), (a 7, .inl (cI, nW, .inl (zA ((zit (stG nM nW vn od) len.toNat (0, sv)).2))))])) ([.ref (a 0)] : List Value).toArray s 0 0 A) (F0 m 4 ls []) := by
    intro nn
    induction nn with
    | zero =>
      intros
      exact absurd (by assumption : _ < 0) (Nat.not_lt_zero _)
    | succ nn ih4 =>
      intro i g svq H locs ls h0 h1 hg hq hmu hP hD hS hl
      refine lv_iload_n hx hb dX0_gatherValleys_4 rfl (lv_at hl 2 rfl) ?_
      refine lv_aload_n hx hb dX0_gatherValleys_5 rfl (lv_at hl 0 rfl) ?_
      refine va_get (D := D) (ci := 0) (v := .int (zI len)) (C := RX0) (T := TX0) (N := 15) hx hb hts inX0_gatherValleys_X0 hown hK.1 hP 0 rfl rfl 12 (by decide) (hts (.fieldLink RX0 103 "TextEnds$EndSorter" "length" "I") (List.mem_of_getElem? (i := 1) rfl)) (fun _ h9 => h9) rfl dX0_gatherValleys_6 ?_
      refine z_icmp_ge (tgt := 49) hx hb dX0_gatherValleys_9 (by decide) (by omega) (by omega) (fun h_1 => ?_) (fun h_1 => ?_)
      · skip
        rw [show i = len by omega] at hq
        have hwe : svq = ((zit (stG nM nW vn od) len.toNat (0, sv)).2) := congrArg (fun z => z.2) hq
        rw [hwe] at hP hD
        clear hwe
        exact W.vret hx hb hr (fun t ht_ hW_ => ⟨⟨(), rfl, trivial, by rw [ht_]; exact hP, hD⟩, hS.F ht_⟩) hS.2.2 dX0_gatherValleys_49
      · skip
        have hk1 := hod i
        have hk2 := zat_S hvn nM (od i)
        refine lv_aload_n hx hb dX0_gatherValleys_12 rfl (lv_at hl 0 rfl) ?_
        refine va_get (D := D) (ci := 0) (v := .ref (a 2)) (C := RX0) (T := TX0) (N := 15) hx hb hts inX0_gatherValleys_X0 hown hK.1 hP 0 rfl rfl 1 (by decide) (hts (.fieldLink RX0 42 "TextEnds$EndSorter" "order" "[I") (List.mem_of_getElem? (i := 2) rfl)) (fun _ h9 => h9) rfl dX0_gatherValleys_13 ?_
        refine lv_iload_n hx hb dX0_gatherValleys_16 rfl (lv_at hl 2 rfl) ?_
        refine z_iald hx hb hK.1 hP 1 0 rfl rfl dX0_gatherValleys_17 (by omega) (by omega) (by omega) ?_
        refine lv_istore_n (lv' := [(3, .int (zI (od i))), (0, .ref (a 0)), (1, .int (zI g)), (2, .int (zI i))]) hx hb dX0_gatherValleys_18 rfl hl (by decide) rfl (fun ls hl => ?_)
        refine lv_aload_n hx hb dX0_gatherValleys_19 rfl (lv_at hl 1 rfl) ?_
        refine va_get (D := D) (ci := 0) (v := .ref (a 6)) (C := RX0) (T := TX0) (N := 15) hx hb hts inX0_gatherValleys_X0 hown hK.1 hP 0 rfl rfl 5 (by decide) (hts (.fieldLink RX0 49 "TextEnds$EndSorter" "valleyNumber" "[I") (List.mem_of_getElem? (i := 3) rfl)) (fun _ h9 => h9) rfl dX0_gatherValleys_20 ?_
        refine lv_iload_n hx hb dX0_gatherValleys_23 rfl (lv_at hl 0 rfl) ?_
        refine z_cr (va_runSN (As := [.ref (a 6), .int (zI (od i))]) (rest := []) ⟨hx, hb, hml, hown, hts⟩ (kX2_at l D cI cZ cL (a 6) nM vn (od i) (by omega) (by omega)) ⟨va_cnB 2 hts gX0_gatherValleys_X2_at_n131 rfl rfl rfl hK.2.2 (hts (.initialized RX2) (List.mem_of_getElem? (i := 6) rfl)) (by decide +kernel) ⟨Nat.le_of_ble_eq_true rfl, Nat.le_of_ble_eq_true rfl⟩, hts (.static yX2_at) (List.mem_of_getElem? (i := 5) rfl), trivial⟩ (zPr_pre hK (hP.sub (ws' := [(a 6, .inl (cI, nM, .inl (zA vn)))]) [2] rfl)) rfl rfl hl.1 rfl (lv_room (Nat.le_of_ble_eq_true rfl)) dX0_gatherValleys_24 ⟨Nat.zero_le _, Nat.zero_le _⟩) (fun r hr_ => ?_)
        subst hr_
        refine lv_iconst (v := zI (-1)) hx hb dX0_gatherValleys_27 (by first | rfl | decide) ?_
        refine z_icmp_eq (tgt := 43) hx hb dX0_gatherValleys_28 (by decide) (by omega) (by omega) (fun h_2 => ?_) (fun h_2 => ?_)
        · skip
          refine lv_iinc (v := zI (i + 1)) (lv' := [(2, .int (zI (i + 1))), (3, .int (zI (od i))), (0, .ref (a 0)), (1, .int (zI g))]) hx hb dX0_gatherValleys_43 hl (k := 3) rfl (zI_add _ _) (by decide) rfl (fun ls hl => ?_)
          refine lv_goto (tgt := 4) hx hb dX0_gatherValleys_46 (by decide) ?_
          exact ih4 (i + 1) g svq _ _ ls (by omega) (by omega) (by omega) (by first | exact stG_t hq h0 (by with_reducible assumption) | exact stG_f hq h0 (by with_reducible assumption)) (by omega) (hP) (hD) hS (lv_sub hl [2, 3, 0] rfl)
        · skip
          refine lv_aload_n hx hb dX0_gatherValleys_31 rfl (lv_at hl 1 rfl) ?_
          refine va_get (D := D) (ci := 0) (v := .ref (a 7)) (C := RX0) (T := TX0) (N := 15) hx hb hts inX0_gatherValleys_X0 hown hK.1 hP 0 rfl rfl 6 (by decide) (hts (.fieldLink RX0 55 "TextEnds$EndSorter" "sortedValleys" "[I") (List.mem_of_getElem? (i := 4) rfl)) (fun _ h9 => h9) rfl dX0_gatherValleys_32 ?_
          refine lv_iload_n hx hb dX0_gatherValleys_35 rfl (lv_at hl 2 rfl) ?_
          refine lv_iload_n hx hb dX0_gatherValleys_36 rfl (lv_at hl 0 rfl) ?_
          refine z_cw (wc := [(a 7, .inl (cI, nW, .inl (zA svq)))]) (wr := [(a 0, .inr (0, so a ts lp len sg vc)), (a 2, .inl (cI, nO, .inl (zA od))), (a 6, .inl (cI, nM, .inl (zA vn)))]) (Wt := (fun _ : Unit => [(a 0, .inr (0, so a ts lp len sg vc)), (a 2, .inl (cI, nO, .inl (zA od))), (a 6, .inl (cI, nM, .inl (zA vn))), (a 7, .inl (cI, nW, .inl (zA (zput nW svq g (od i)))))])) [3] [0, 1, 2] [0, 1, 2, 3] hP hD hS hA rfl rfl (by decide) (by decide) (by decide) (by decide) (fun _ => rfl) (fun _ => rfl) (fun hPc hDc => va_runSN (As := [.ref (a 7), .int (zI g), .int (zI (od i))]) (rest := []) ⟨hx, hb, hml, hown, hts⟩ (kX2_put l D cI cZ cL (a 7) nW svq g (od i) _ (by omega) (by omega)) ⟨va_cnB 3 hts gX0_gatherValleys_X2_put_n127 rfl rfl rfl hK.2.1 (hts (.initialized RX2) (List.mem_of_getElem? (i := 6) rfl)) (by decide +kernel) ⟨Nat.le_of_ble_eq_true rfl, Nat.le_of_ble_eq_true rfl⟩, hts (.static yX2_put) (List.mem_of_getElem? (i := 8) rfl), trivial⟩ (zPw_pre hK hPc hDc) rfl rfl hl.1 rfl (lv_room (Nat.le_of_ble_eq_true rfl)) dX0_gatherValleys_37 ⟨Nat.zero_le _, Nat.zero_le _⟩) rfl (fun u H locs hp_ hP hD hS => ?_)
          have hP : va_P D vwCl [(a 0, .inr (0, so a ts lp len sg vc)), (a 2, .inl (cI, nO, .inl (zA od))), (a 6, .inl (cI, nM, .inl (zA vn))), (a 7, .inl (cI, nW, .inl (zA (zput nW svq g (od i)))))] H := hP
          have hD : va_D A [(a 0, .inr (0, so a ts lp len sg vc)), (a 2, .inl (cI, nO, .inl (zA od))), (a 6, .inl (cI, nM, .inl (zA vn))), (a 7, .inl (cI, nW, .inl (zA (zput nW svq g (od i)))))] := hD
          refine lv_iinc (v := zI (g + 1)) (lv' := [(1, .int (zI (g + 1))), (3, .int (zI (od i))), (0, .ref (a 0)), (2, .int (zI i))]) hx hb dX0_gatherValleys_40 hl (k := 2) rfl (zI_add _ _) (by decide) rfl (fun ls hl => ?_)
          refine lv_iinc (v := zI (i + 1)) (lv' := [(2, .int (zI (i + 1))), (1, .int (zI (g + 1))), (3, .int (zI (od i))), (0, .ref (a 0))]) hx hb dX0_gatherValleys_43 hl (k := 3) rfl (zI_add _ _) (by decide) rfl (fun ls hl => ?_)
          refine lv_goto (tgt := 4) hx hb dX0_gatherValleys_46 (by decide) ?_
          exact ih4 (i + 1) (g + 1) (zput nW svq g (od i)) _ _ ls (by omega) (by omega) (by omega) (by first | exact stG_t hq h0 (by with_reducible assumption) | exact stG_f hq h0 (by with_reducible assumption)) (by omega) (hP) (hD) hS (lv_sub hl [3, 1, 0] rfl)
  exact loop4 _ 0 0 sv _ _ ls (by omega) (by omega) (by omega) (rfl) (Nat.lt_succ_self _) hP hD hS (lv_sub hl [2, 1, 0] rfl)
set_option maxHeartbeats 4000000 in
set_option maxRecDepth 100000 in
/-- stepsToNext(valley) -/
theorem kX0_stepsToNext (l : Launch) (D : va_G) (cI cZ cL : ClassId) (a : Nat → Nat) (ts : Int) (lp : Nat) (len sg vc : Int) (nV nM : Nat) (vl vn : Int → Int) (v : Int) (hlen : 0 ≤ len ∧ len ≤ 1000000) (hvc : 0 ≤ vc ∧ vc ≤ 1000000) (bnV : (nV : Int) < 1073741824) (bnM : (nM : Int) < 1073741824) (hvn : zS vn) (hv : zR v) : Met l yX0_stepsToNext wsX0_stepsToNext ({ frames := 1, cells := 0, slots := 0, locals := 21 }) (zPr D cI cZ cL [.ref (a 0), .int (zI v)] [(a 0, .inr (0, so a ts lp len sg vc)), (a 5, .inl (cI, nV, .inl (zA vl))), (a 6, .inl (cI, nM, .inl (zA vn)))]) (zQi (fun r => r = zst nM nV len vc vn vl v)) 0 0 (fun _ => False) := by
  refine Met.ofW (cc := cX0_stepsToNext) (maxL := 3) (ret := (some .int)) (by decide) rfl ?_
  intro p e s m args below meth c s₁ B hml hv
  obtain ⟨rfl, hP, hK⟩ := hv
  have hx := B.exec
  have hb := B.bytes
  have hr := B.returns
  have hts := atoms_spec (ws := wsX0_stepsToNext) B.pre
  have hown : s.vm.findClass RX0 = some m.cls := findClass_of_methodNamed B.named
  have hlocks := B.notSynchronized
  have hP : va_P D vwCl [(a 0, .inr (0, so a ts lp len sg vc)), (a 5, .inl (cI, nV, .inl (zA vl))), (a 6, .inl (cI, nM, .inl (zA vn)))] s.heap := hP
  have hl := lv_entry ([.ref (a 0), .int (zI v)]) (n := 3) (Nat.le_of_ble_eq_true rfl)
  rw [lg_entry_eq]
  generalize (lg_sl ([.ref (a 0), .int (zI v)]) ++ List.replicate (3 - (lg_sl ([.ref (a 0), .int (zI v)])).length) Slot.unset).toArray = ls at hl ⊢
  have hl : lv_has ls 3 [(0, .ref (a 0)), (1, .int (zI v))] := hl
  have hq1 := zat_S hvn nM v
  refine lv_aload_n hx hb dX0_stepsToNext_0 rfl (lv_at hl 0 rfl) ?_
  refine va_get (D := D) (ci := 0) (v := .ref (a 6)) (C := RX0) (T := TX0) (N := 15) hx hb hts inX0_stepsToNext_X0 hown hK.1 hP 0 rfl rfl 5 (by decide) (hts (.fieldLink RX0 49 "TextEnds$EndSorter" "valleyNumber" "[I") (List.mem_of_getElem? (i := 1) rfl)) (fun _ h9 => h9) rfl dX0_stepsToNext_1 ?_
  refine lv_iload_n hx hb dX0_stepsToNext_4 rfl (lv_at hl 1 rfl) ?_
  refine z_cr (va_runSN (As := [.ref (a 6), .int (zI v)]) (rest := []) ⟨hx, hb, hml, hown, hts⟩ (kX2_at l D cI cZ cL (a 6) nM vn v (by omega) (by omega)) ⟨va_cnB 2 hts gX0_stepsToNext_X2_at_n131 rfl rfl rfl hK.2.2 (hts (.initialized RX2) (List.mem_of_getElem? (i := 6) rfl)) (by decide +kernel) ⟨Nat.le_of_ble_eq_true rfl, Nat.le_of_ble_eq_true rfl⟩, hts (.static yX2_at) (List.mem_of_getElem? (i := 5) rfl), trivial⟩ (zPr_pre hK (hP.sub (ws' := [(a 6, .inl (cI, nM, .inl (zA vn)))]) [2] rfl)) rfl rfl hl.1 rfl (lv_room (Nat.le_of_ble_eq_true rfl)) dX0_stepsToNext_5 ⟨Nat.zero_le _, Nat.zero_le _⟩) (fun r hr_ => ?_)
  subst hr_
  refine lv_iconst (v := zI 1) hx hb dX0_stepsToNext_8 (by first | rfl | decide) ?_
  refine z_iadd hx hb dX0_stepsToNext_9 ?_
  refine lv_istore_n (lv' := [(2, .int (zI ((zat nM vn v) + 1))), (0, .ref (a 0)), (1, .int (zI v))]) hx hb dX0_stepsToNext_10 rfl hl (by decide) rfl (fun ls hl => ?_)
  refine lv_iload_n hx hb dX0_stepsToNext_11 rfl (lv_at hl 0 rfl) ?_
  refine lv_aload_n hx hb dX0_stepsToNext_12 rfl (lv_at hl 1 rfl) ?_
  refine va_get (D := D) (ci := 0) (v := .int (zI vc)) (C := RX0) (T := TX0) (N := 15) hx hb hts inX0_stepsToNext_X0 hown hK.1 hP 0 rfl rfl 14 (by decide) (hts (.fieldLink RX0 97 "TextEnds$EndSorter" "valleyCount" "I") (List.mem_of_getElem? (i := 2) rfl)) (fun _ h9 => h9) rfl dX0_stepsToNext_13 ?_
  refine z_icmp_ge (tgt := 30) hx hb dX0_stepsToNext_16 (by decide) (by omega) (by omega) (fun h_1 => ?_) (fun h_1 => ?_)
  · skip
    refine lv_aload_n hx hb dX0_stepsToNext_30 rfl (lv_at hl 1 rfl) ?_
    refine va_get (D := D) (ci := 0) (v := .int (zI len)) (C := RX0) (T := TX0) (N := 15) hx hb hts inX0_stepsToNext_X0 hown hK.1 hP 0 rfl rfl 12 (by decide) (hts (.fieldLink RX0 103 "TextEnds$EndSorter" "length" "I") (List.mem_of_getElem? (i := 4) rfl)) (fun _ h9 => h9) rfl dX0_stepsToNext_31 ?_
    refine lv_iload_n hx hb dX0_stepsToNext_34 rfl (lv_at hl 2 rfl) ?_
    refine z_isub hx hb dX0_stepsToNext_35 ?_
    exact W.iret (v := zI (len - v)) hx hb hr (fun t ht_ hW_ => ⟨len - v, rfl, by first | (show _ = zst nM nV len vc vn vl v; rw [zst, if_pos (by omega)]) | (show _ = zst nM nV len vc vn vl v; rw [zst, if_neg (by omega)]), ht_⟩) (fun q h => by cases h) dX0_stepsToNext_36
  · skip
    refine lv_aload_n hx hb dX0_stepsToNext_19 rfl (lv_at hl 1 rfl) ?_
    refine va_get (D := D) (ci := 0) (v := .ref (a 5)) (C := RX0) (T := TX0) (N := 15) hx hb hts inX0_stepsToNext_X0 hown hK.1 hP 0 rfl rfl 4 (by decide) (hts (.fieldLink RX0 52 "TextEnds$EndSorter" "valleys" "[I") (List.mem_of_getElem? (i := 3) rfl)) (fun _ h9 => h9) rfl dX0_stepsToNext_20 ?_
    refine lv_iload_n hx hb dX0_stepsToNext_23 rfl (lv_at hl 0 rfl) ?_
    refine z_cr (va_runSN (As := [.ref (a 5), .int (zI ((zat nM vn v) + 1))]) (rest := []) ⟨hx, hb, hml, hown, hts⟩ (kX2_at l D cI cZ cL (a 5) nV vl ((zat nM vn v) + 1) (by omega) (by omega)) ⟨va_cnB 2 hts gX0_stepsToNext_X2_at_n131 rfl rfl rfl hK.2.2 (hts (.initialized RX2) (List.mem_of_getElem? (i := 6) rfl)) (by decide +kernel) ⟨Nat.le_of_ble_eq_true rfl, Nat.le_of_ble_eq_true rfl⟩, hts (.static yX2_at) (List.mem_of_getElem? (i := 5) rfl), trivial⟩ (zPr_pre hK (hP.sub (ws' := [(a 5, .inl (cI, nV, .inl (zA vl)))]) [1] rfl)) rfl rfl hl.1 rfl (lv_room (Nat.le_of_ble_eq_true rfl)) dX0_stepsToNext_24 ⟨Nat.zero_le _, Nat.zero_le _⟩) (fun r hr_ => ?_)
    subst hr_
    refine lv_goto (tgt := 34) hx hb dX0_stepsToNext_27 (by decide) ?_
    refine lv_iload_n hx hb dX0_stepsToNext_34 rfl (lv_at hl 2 rfl) ?_
    refine z_isub hx hb dX0_stepsToNext_35 ?_
    exact W.iret (v := zI ((zat nV vl ((zat nM vn v) + 1)) - v)) hx hb hr (fun t ht_ hW_ => ⟨(zat nV vl ((zat nM vn v) + 1)) - v, rfl, by first | (show _ = zst nM nV len vc vn vl v; rw [zst, if_pos (by omega)]) | (show _ = zst nM nV len vc vn vl v; rw [zst, if_neg (by omega)]), ht_⟩) (fun q h => by cases h) dX0_stepsToNext_36
set_option maxHeartbeats 4000000 in
set_option maxRecDepth 100000 in
/-- areAlike(valley, other) -/
theorem kX0_areAlike (l : Launch) (D : va_G) (cI cZ cL : ClassId) (a : Nat → Nat) (ts : Int) (lp : Nat) (len sg vc : Int) (nl nV nM : Nat) (lt vl vn : Int → Int) (x y : Int) (hlen : 0 ≤ len ∧ len ≤ 1000000) (hvc : 0 ≤ vc ∧ vc ≤ 1000000) (hnl : len ≤ (nl : Int)) (bnl : (nl : Int) < 1073741824) (bnV : (nV : Int) < 1073741824) (bnM : (nM : Int) < 1073741824) (hlt : zS lt) (hvl : zS vl) (hvn : zS vn) (hx1 : -1000000 ≤ x ∧ x ≤ 1000000) (hy1 : -1000000 ≤ y ∧ y ≤ 1000000) : Met l yX0_areAlike wsX0_areAlike ({ frames := 2, cells := 0, slots := 0, locals := 43 }) (zPr D cI cZ cL [.ref (a 0), .int (zI x), .int (zI y)] [(a 0, .inr (0, so a ts lp len sg vc)), (lp, .inl (cI, nl, .inl (zA lt))), (a 5, .inl (cI, nV, .inl (zA vl))), (a 6, .inl (cI, nM, .inl (zA vn)))]) (zQi (fun r => r = bi (zal nM nV len vc lt vn vl x y))) 0 0 (fun _ => False) := by
  refine Met.ofW (cc := cX0_areAlike) (maxL := 5) (ret := (some .boolean)) (by decide) rfl ?_
  intro p e s m args below meth c s₁ B hml hv
  obtain ⟨rfl, hP, hK⟩ := hv
  have hx := B.exec
  have hb := B.bytes
  have hr := B.returns
  have hts := atoms_spec (ws := wsX0_areAlike) B.pre
  have hown : s.vm.findClass RX0 = some m.cls := findClass_of_methodNamed B.named
  have hlocks := B.notSynchronized
  have hP : va_P D vwCl [(a 0, .inr (0, so a ts lp len sg vc)), (lp, .inl (cI, nl, .inl (zA lt))), (a 5, .inl (cI, nV, .inl (zA vl))), (a 6, .inl (cI, nM, .inl (zA vn)))] s.heap := hP
  have hl := lv_entry ([.ref (a 0), .int (zI x), .int (zI y)]) (n := 5) (Nat.le_of_ble_eq_true rfl)
  rw [lg_entry_eq]
  generalize (lg_sl ([.ref (a 0), .int (zI x), .int (zI y)]) ++ List.replicate (5 - (lg_sl ([.ref (a 0), .int (zI x), .int (zI y)])).length) Slot.unset).toArray = ls at hl ⊢
  have hl : lv_has ls 5 [(0, .ref (a 0)), (1, .int (zI x)), (2, .int (zI y))] := hl
  have hq1 := zst_S (nM := nM) (nV := nV) (vc := vc) (vn := vn) hlen hvl hx1
  have hq2 := zst_S (nM := nM) (nV := nV) (vc := vc) (vn := vn) hlen hvl hy1
  refine lv_aload_n hx hb dX0_areAlike_0 rfl (lv_at hl 0 rfl) ?_
  refine lv_iload_n hx hb dX0_areAlike_1 rfl (lv_at hl 1 rfl) ?_
  refine z_cr (va_runV (As := [.int (zI x)]) (rest := []) ⟨hx, hb, hml, hown, hts⟩ (kX0_stepsToNext l D cI cZ cL a ts lp len sg vc nV nM vl vn x (by omega) (by omega) (by omega) (by omega) (hvn) (by omega)) (cwV 1 hts gX0_areAlike_X0_stepsToNext rfl rfl rfl (by decide +kernel) ⟨Nat.le_of_ble_eq_true rfl, Nat.le_of_ble_eq_true rfl⟩) (zPr_preV (ci := 0) (q0 := 0) hK (hP.sub (ws' := [(a 0, .inr (0, so a ts lp len sg vc)), (a 5, .inl (cI, nV, .inl (zA vl))), (a 6, .inl (cI, nM, .inl (zA vn)))]) [0, 2, 3] rfl) rfl rfl) rfl rfl hl.1 rfl (lv_room (Nat.le_of_ble_eq_true rfl)) dX0_areAlike_2 ⟨Nat.zero_le _, Nat.zero_le _⟩) (fun r hr_ => ?_)
  subst hr_
  refine lv_istore_n (lv' := [(3, .int (zI (zst nM nV len vc vn vl x))), (0, .ref (a 0)), (1, .int (zI x)), (2, .int (zI y))]) hx hb dX0_areAlike_5 rfl hl (by decide) rfl (fun ls hl => ?_)
  refine lv_iload_n hx hb dX0_areAlike_6 rfl (lv_at hl 0 rfl) ?_
  refine lv_aload_n hx hb dX0_areAlike_7 rfl (lv_at hl 1 rfl) ?_
  refine lv_iload_n hx hb dX0_areAlike_8 rfl (lv_at hl 3 rfl) ?_
  refine z_cr (va_runV (As := [.int (zI y)]) (rest := [.int (zI (zst nM nV len vc vn vl x))]) ⟨hx, hb, hml, hown, hts⟩ (kX0_stepsToNext l D cI cZ cL a ts lp len sg vc nV nM vl vn y (by omega) (by omega) (by omega) (by omega) (hvn) (by omega)) (cwV 1 hts gX0_areAlike_X0_stepsToNext rfl rfl rfl (by decide +kernel) ⟨Nat.le_of_ble_eq_true rfl, Nat.le_of_ble_eq_true rfl⟩) (zPr_preV (ci := 0) (q0 := 0) hK (hP.sub (ws' := [(a 0, .inr (0, so a ts lp len sg vc)), (a 5, .inl (cI, nV, .inl (zA vl))), (a 6, .inl (cI, nM, .inl (zA vn)))]) [0, 2, 3] rfl) rfl rfl) rfl rfl hl.1 rfl (lv_room (Nat.le_of_ble_eq_true rfl)) dX0_areAlike_9 ⟨Nat.zero_le _, Nat.zero_le _⟩) (fun r hr_ => ?_)
  subst hr_
  refine z_icmp_eq (tgt := 17) hx hb dX0_areAlike_12 (by decide) (by omega) (by omega) (fun h_1 => ?_) (fun h_1 => ?_)
  · skip
    have hse := h_1
    refine lv_iconst (v := zI 0) hx hb dX0_areAlike_17 (by first | rfl | decide) ?_
    refine lv_istore (lv' := [(4, .int (zI 0)), (3, .int (zI (zst nM nV len vc vn vl x))), (0, .ref (a 0)), (1, .int (zI x)), (2, .int (zI y))]) hx hb dX0_areAlike_18 hl (by decide) rfl (fun ls hl => ?_)
    have loop20 : ∀ (nn : Nat) (i : Int) (ls : Array Slot), (0 ≤ i) → (i = 0 ∨ i ≤ zst nM nV len vc vn vl x + 1) → (∀ j, 0 ≤ j → j < i → zla len lt (x + j) = zla len lt (y + j)) → ((zst nM nV len vc vn vl x + 1 - i).toNat) < nn → lv_has ls 5 [(0, .ref (a 0)), (1, .int (zI x)), (2, .int (zI y)), (3, .int (zI (zst nM nV len vc vn vl x))), (4, .int (zI i))] → W p l e (headSpec wsX0_areAlike ({ frames := 2, cells := 0, slots := 0, locals := 43 })).room s m ([.ref (a 0), .int (zI x), .int (zI y)] : List Value).toArray below meth c s.heap [] 0 0 (MQ below (zQi (fun r => r = bi (zal nM nV len vc lt vn vl x y))) ([.ref (a 0), .int (zI x), .int (zI y)] : List Value).toArray s 0 0 (fun _ => False)) (F0 m 20 ls []) := by
      intro nn
      induction nn with
      | zero =>
        intros
        exact absurd (by assumption : _ < 0) (Nat.not_lt_zero _)
      | succ nn ih20 =>
        intro i ls h0 hle hal hmu hl
        refine lv_iload hx hb dX0_areAlike_20 (lv_at hl 4 rfl) ?_
        refine lv_iload_n hx hb dX0_areAlike_22 rfl (lv_at hl 3 rfl) ?_
        refine z_icmp_gt (tgt := 53) hx hb dX0_areAlike_23 (by decide) (by omega) (by omega) (fun h_2 => ?_) (fun h_2 => ?_)
        · skip
          refine lv_iconst (v := zI 1) hx hb dX0_areAlike_53 (by first | rfl | decide) ?_
          exact W.zret (ty := .boolean) (v := zI 1) hx hb hr (znar_b2 (by first | exact Or.inl rfl | exact Or.inr rfl | exact bi_01 _ | with_reducible assumption | omega)) (fun t ht_ hW_ => ⟨1, rfl, zal_t hse (fun j a b => hal j a (by omega)), ht_⟩) (fun q h => by cases h) dX0_areAlike_54
        · skip
          have hq3 := zla_S hlt len (x + i)
          have hq4 := zla_S hlt len (y + i)
          refine lv_aload_n hx hb dX0_areAlike_26 rfl (lv_at hl 0 rfl) ?_
          refine lv_iload_n hx hb dX0_areAlike_27 rfl (lv_at hl 1 rfl) ?_
          refine lv_iload hx hb dX0_areAlike_28 (lv_at hl 4 rfl) ?_
          refine z_iadd hx hb dX0_areAlike_30 ?_
          refine z_cr (va_runV (As := [.int (zI (x + i))]) (rest := []) ⟨hx, hb, hml, hown, hts⟩ (kX0_letterAt l D cI cZ cL a ts lp len sg vc nl lt (x + i) (by omega) (by omega) (by omega) (by omega)) (cwV 1 hts gX0_areAlike_X0_letterAt rfl rfl rfl (by decide +kernel) ⟨Nat.le_of_ble_eq_true rfl, Nat.le_of_ble_eq_true rfl⟩) (zPr_preV (ci := 0) (q0 := 0) hK (hP.sub (ws' := [(a 0, .inr (0, so a ts lp len sg vc)), (lp, .inl (cI, nl, .inl (zA lt)))]) [0, 1] rfl) rfl rfl) rfl rfl hl.1 rfl (lv_room (Nat.le_of_ble_eq_true rfl)) dX0_areAlike_31 ⟨Nat.zero_le _, Nat.zero_le _⟩) (fun r hr_ => ?_)
          subst hr_
          refine lv_aload_n hx hb dX0_areAlike_34 rfl (lv_at hl 0 rfl) ?_
          refine lv_iload_n hx hb dX0_areAlike_35 rfl (lv_at hl 2 rfl) ?_
          refine lv_iload hx hb dX0_areAlike_36 (lv_at hl 4 rfl) ?_
          refine z_iadd hx hb dX0_areAlike_38 ?_
          refine z_cr (va_runV (As := [.int (zI (y + i))]) (rest := [.int (zI (zla len lt (x + i)))]) ⟨hx, hb, hml, hown, hts⟩ (kX0_letterAt l D cI cZ cL a ts lp len sg vc nl lt (y + i) (by omega) (by omega) (by omega) (by omega)) (cwV 1 hts gX0_areAlike_X0_letterAt rfl rfl rfl (by decide +kernel) ⟨Nat.le_of_ble_eq_true rfl, Nat.le_of_ble_eq_true rfl⟩) (zPr_preV (ci := 0) (q0 := 0) hK (hP.sub (ws' := [(a 0, .inr (0, so a ts lp len sg vc)), (lp, .inl (cI, nl, .inl (zA lt)))]) [0, 1] rfl) rfl rfl) rfl rfl hl.1 rfl (lv_room (Nat.le_of_ble_eq_true rfl)) dX0_areAlike_39 ⟨Nat.zero_le _, Nat.zero_le _⟩) (fun r hr_ => ?_)
          subst hr_
          refine z_icmp_eq (tgt := 47) hx hb dX0_areAlike_42 (by decide) (by omega) (by omega) (fun h_3 => ?_) (fun h_3 => ?_)
          · skip
            have hee := h_3
            refine lv_iinc (v := zI (i + 1)) (lv' := [(4, .int (zI (i + 1))), (0, .ref (a 0)), (1, .int (zI x)), (2, .int (zI y)), (3, .int (zI (zst nM nV len vc vn vl x)))]) hx hb dX0_areAlike_47 hl (k := 4) rfl (zI_add _ _) (by decide) rfl (fun ls hl => ?_)
            refine lv_goto (tgt := 20) hx hb dX0_areAlike_50 (by decide) ?_
            exact ih20 (i + 1) ls (by omega) (by omega) (fun j a b => by rcases Int.lt_or_eq_of_le (show j ≤ i by omega) with q | q; exact hal j a q; rw [q]; with_reducible assumption) (by omega) (lv_sub hl [1, 2, 3, 4, 0] rfl)
          · skip
            have hen := h_3
            refine lv_iconst (v := zI 0) hx hb dX0_areAlike_45 (by first | rfl | decide) ?_
            exact W.zret (ty := .boolean) (v := zI 0) hx hb hr (znar_b2 (by first | exact Or.inl rfl | exact Or.inr rfl | exact bi_01 _ | with_reducible assumption | omega)) (fun t ht_ hW_ => ⟨0, rfl, zal_f (fun z => hen (z.2 i h0 (by omega))), ht_⟩) (fun q h => by cases h) dX0_areAlike_46
    exact loop20 _ 0 ls (by omega) (by omega) (fun j a b => absurd b (by omega)) (Nat.lt_succ_self _) (lv_sub hl [2, 3, 4, 1, 0] rfl)
  · skip
    have hsn := h_1
    refine lv_iconst (v := zI 0) hx hb dX0_areAlike_15 (by first | rfl | decide) ?_
    exact W.zret (ty := .boolean) (v := zI 0) hx hb hr (znar_b2 (by first | exact Or.inl rfl | exact Or.inr rfl | exact bi_01 _ | with_reducible assumption | omega)) (fun t ht_ hW_ => ⟨0, rfl, zal_f (fun z => hsn z.1), ht_⟩) (fun q h => by cases h) dX0_areAlike_16
set_option maxHeartbeats 4000000 in
set_option maxRecDepth 100000 in
/-- nameValleys(names) -/
theorem kX0_nameValleys (l : Launch) (D : va_G) (cI cZ cL : ClassId) (a : Nat → Nat) (ts : Int) (lp : Nat) (len sg vc : Int) (np nl nV nM nW nP : Nat) (lt vl vn sv nm : Int → Int) (szz : Nat) (hlen : 0 ≤ len ∧ len ≤ 1000000) (hvc : 0 ≤ vc ∧ vc ≤ 1000000) (hnl : len ≤ (nl : Int)) (bnl : (nl : Int) < 1073741824) (bnV : (nV : Int) < 1073741824) (bnM : (nM : Int) < 1073741824) (bnW : (nW : Int) < 1073741824) (bnP : (nP : Int) < 1073741824) (hlt : zS lt) (hvl : zS vl) (hvn : zS vn) (hsv : zS sv) : Met l yX0_nameValleys wsX0_nameValleys ({ frames := 3, cells := 0, slots := 0, locals := 67 }) (zPw D cI cZ cL szz [.ref (a 0), .ref np] [(a 0, .inr (0, so a ts lp len sg vc)), (lp, .inl (cI, nl, .inl (zA lt))), (a 5, .inl (cI, nV, .inl (zA vl))), (a 6, .inl (cI, nM, .inl (zA vn))), (a 7, .inl (cI, nW, .inl (zA sv))), (np, .inl (cI, nP, .inl (zA nm)))]) (zQwi D (va_A [(a 0, .inr (0, so a ts lp len sg vc)), (lp, .inl (cI, nl, .inl (zA lt))), (a 5, .inl (cI, nV, .inl (zA vl))), (a 6, .inl (cI, nM, .inl (zA vn))), (a 7, .inl (cI, nW, .inl (zA sv))), (np, .inl (cI, nP, .inl (zA nm)))] szz) (fun (r : Int) (_ : Unit) => r = (zit (stN nM nV nW nP len vc lt vn vl sv) vc.toNat (0, -1, nm)).1 ∧ True) (fun _ : Unit => [(a 0, .inr (0, so a ts lp len sg vc)), (lp, .inl (cI, nl, .inl (zA lt))), (a 5, .inl (cI, nV, .inl (zA vl))), (a 6, .inl (cI, nM, .inl (zA vn))), (a 7, .inl (cI, nW, .inl (zA sv))), (np, .inl (cI, nP, .inl (zA ((zit (stN nM nV nW nP len vc lt vn vl sv) vc.toNat (0, -1, nm)).2.2))))])) 0 0 (va_A [(a 0, .inr (0, so a ts lp len sg vc)), (lp, .inl (cI, nl, .inl (zA lt))), (a 5, .inl (cI, nV, .inl (zA vl))), (a 6, .inl (cI, nM, .inl (zA vn))), (a 7, .inl (cI, nW, .inl (zA sv))), (np, .inl (cI, nP, .inl (zA nm)))] szz) := by
  refine Met.ofW (cc := cX0_nameValleys) (maxL := 6) (ret := (some .int)) (by decide) rfl ?_
  intro p e s m args below meth c s₁ B hml hv
  obtain ⟨rfl, hsz, hP, hK, hD0⟩ := hv
  have hx := B.exec
  have hb := B.bytes
  have hr := B.returns
  have hts := atoms_spec (ws := wsX0_nameValleys) B.pre
  have hown : s.vm.findClass RX0 = some m.cls := findClass_of_methodNamed B.named
  have hlocks := B.notSynchronized
  subst hsz
  have hD := hD0.self (sz := s.heap.size)
  generalize hAe : va_A [(a 0, .inr (0, so a ts lp len sg vc)), (lp, .inl (cI, nl, .inl (zA lt))), (a 5, .inl (cI, nV, .inl (zA vl))), (a 6, .inl (cI, nM, .inl (zA vn))), (a 7, .inl (cI, nW, .inl (zA sv))), (np, .inl (cI, nP, .inl (zA nm)))] s.heap.size = A at hD ⊢
  have hA : ∀ q : Nat, s.heap.size ≤ q → A q := fun q h => by rw [← hAe]; exact Or.inr h
  have hS : va_S A s.heap s.heap [] := va_S.rf
  clear hD0
  have hP : va_P D vwCl [(a 0, .inr (0, so a ts lp len sg vc)), (lp, .inl (cI, nl, .inl (zA lt))), (a 5, .inl (cI, nV, .inl (zA vl))), (a 6, .inl (cI, nM, .inl (zA vn))), (a 7, .inl (cI, nW, .inl (zA sv))), (np, .inl (cI, nP, .inl (zA nm)))] s.heap := hP
  have hl := lv_entry ([.ref (a 0), .ref np]) (n := 6) (Nat.le_of_ble_eq_true rfl)
  rw [lg_entry_eq]
  generalize (lg_sl ([.ref (a 0), .ref np]) ++ List.replicate (6 - (lg_sl ([.ref (a 0), .ref np])).length) Slot.unset).toArray = ls at hl ⊢
  have hl : lv_has ls 6 [(0, .ref (a 0)), (1, .ref np)] := hl
  refine lv_iconst (v := zI 0) hx hb dX0_nameValleys_0 (by first | rfl | decide) ?_
  refine lv_istore_n (lv' := [(2, .int (zI 0)), (0, .ref (a 0)), (1, .ref np)]) hx hb dX0_nameValleys_1 rfl hl (by decide) rfl (fun ls hl => ?_)
  refine lv_iconst (v := zI (-1)) hx hb dX0_nameValleys_2 (by first | rfl | decide) ?_
  refine lv_istore_n (lv' := [(3, .int (zI (-1))), (2, .int (zI 0)), (0, .ref (a 0)), (1, .ref np)]) hx hb dX0_nameValleys_3 rfl hl (by decide) rfl (fun ls hl => ?_)
  refine lv_iconst (v := zI 0) hx hb dX0_nameValleys_4 (by first | rfl | decide) ?_
  refine lv_istore (lv' := [(4, .int (zI 0)), (3, .int (zI (-1))), (2, .int (zI 0)), (0, .ref (a 0)), (1, .ref np)]) hx hb dX0_nameValleys_5 hl (by decide) rfl (fun ls hl => ?_)
  have loop7 : ∀ (nn : Nat) (i : Int) (ct : Int) (fo : Int) (nmq : Int → Int) (H : Heap) (locs : List Loc) (ls : Array Slot), (0 ≤ i) → (i ≤ vc) → (0 ≤ ct ∧ ct ≤ i) → (-1000000 ≤ fo ∧ fo ≤ 1000000) → ((ct, fo, nmq) = zit (stN nM nV nW nP len vc lt vn vl sv) i.toNat (0, -1, nm)) → ((vc - i).toNat) < nn → va_P D vwCl [(a 0, .inr (0, so a ts lp len sg vc)), (lp, .inl (cI, nl, .inl (zA lt))), (a 5, .inl (cI, nV, .inl (zA vl))), (a 6, .inl (cI, nM, .inl (zA vn))), (a 7, .inl (cI, nW, .inl (zA sv))), (np, .inl (cI, nP, .inl (zA nmq)))] H → va_D A [(a 0, .inr (0, so a ts lp len sg vc)), (lp, .inl (cI, nl, .inl (zA lt))), (a 5, .inl (cI, nV, .inl (zA vl))), (a 6, .inl (cI, nM, .inl (zA vn))), (a 7, .inl (cI, nW, .inl (zA sv))), (np, .inl (cI, nP, .inl (zA nmq)))] → va_S A s.heap H locs → lv_has ls 6 [(0, .ref (a 0)), (1, .ref np), (2, .int (zI ct)), (3, .int (zI fo)), (4, .int (zI i))] → W p l e (headSpec wsX0_nameValleys ({ frames := 3, cells := 0, slots := 0, locals := 67 })).room s m ([.ref (a 0), .ref np] : List Value).toArray below meth c H locs 0 0 (MQ below (zQwi D A (fun (r : Int) (_ : Unit) => r = (zit (stN nM nV nW nP len vc lt vn vl sv) vc.toNat (0, -1, nm)).1 ∧ True) (fun _ : Unit => [(a 0, .inr (0, so a ts lp len sg vc)), (lp, .inl (cI, nl, .inl (zA lt))), (a 5, .inl (cI, nV, .inl (zA vl))), (a 6, .inl (cI, nM, .inl (zA vn))), (a 7, .inl (cI, nW, .inl (zA sv))), (np, .inl (cI, nP, .inl (zA ((zit (stN nM nV nW nP len vc lt vn vl sv) vc.toNat (0, -1, nm)).2.2))))])) ([.ref (a 0), .ref np] : List Value).toArray s 0 0 A) (F0 m 7 ls []) := by
    intro nn
    induction nn with
    | zero =>
      intros
      exact absurd (by assumption : _ < 0) (Nat.not_lt_zero _)
    | succ nn ih7 =>
      intro i ct fo nmq H locs ls h0 h1 hct hfo hq hmu hP hD hS hl
      refine lv_iload hx hb dX0_nameValleys_7 (lv_at hl 4 rfl) ?_
      refine lv_aload_n hx hb dX0_nameValleys_9 rfl (lv_at hl 0 rfl) ?_
      refine va_get (D := D) (ci := 0) (v := .int (zI vc)) (C := RX0) (T := TX0) (N := 15) hx hb hts inX0_nameValleys_X0 hown hK.1 hP 0 rfl rfl 14 (by decide) (hts (.fieldLink RX0 97 "TextEnds$EndSorter" "valleyCount" "I") (List.mem_of_getElem? (i := 1) rfl)) (fun _ h9 => h9) rfl dX0_nameValleys_10 ?_
      refine z_icmp_ge (tgt := 70) hx hb dX0_nameValleys_13 (by decide) (by omega) (by omega) (fun h_1 => ?_) (fun h_1 => ?_)
      · skip
        rw [show i = vc by omega] at hq
        have hwe : nmq = ((zit (stN nM nV nW nP len vc lt vn vl sv) vc.toNat (0, -1, nm)).2.2) := congrArg (fun z => z.2.2) hq
        rw [hwe] at hP hD
        clear hwe
        refine lv_iload_n hx hb dX0_nameValleys_70 rfl (lv_at hl 2 rfl) ?_
        exact W.iret (v := zI ct) hx hb hr (fun t ht_ hW_ => ⟨⟨ct, (), rfl, ⟨congrArg (fun z => z.1) hq, trivial⟩, by rw [ht_]; exact hP, hD⟩, hS.F ht_⟩) hS.2.2 dX0_nameValleys_71
      · skip
        have hk1 := zat_S hsv nW i
        have hk2 := zat_S hvn nM (zat nW sv i)
        refine lv_aload_n hx hb dX0_nameValleys_16 rfl (lv_at hl 0 rfl) ?_
        refine va_get (D := D) (ci := 0) (v := .ref (a 7)) (C := RX0) (T := TX0) (N := 15) hx hb hts inX0_nameValleys_X0 hown hK.1 hP 0 rfl rfl 6 (by decide) (hts (.fieldLink RX0 55 "TextEnds$EndSorter" "sortedValleys" "[I") (List.mem_of_getElem? (i := 2) rfl)) (fun _ h9 => h9) rfl dX0_nameValleys_17 ?_
        refine lv_iload hx hb dX0_nameValleys_20 (lv_at hl 4 rfl) ?_
        refine z_cr (va_runSN (As := [.ref (a 7), .int (zI i)]) (rest := []) ⟨hx, hb, hml, hown, hts⟩ (kX2_at l D cI cZ cL (a 7) nW sv i (by omega) (by omega)) ⟨va_cnB 2 hts gX0_nameValleys_X2_at_n131 rfl rfl rfl hK.2.2 (hts (.initialized RX2) (List.mem_of_getElem? (i := 5) rfl)) (by decide +kernel) ⟨Nat.le_of_ble_eq_true rfl, Nat.le_of_ble_eq_true rfl⟩, hts (.static yX2_at) (List.mem_of_getElem? (i := 4) rfl), trivial⟩ (zPr_pre hK (hP.sub (ws' := [(a 7, .inl (cI, nW, .inl (zA sv)))]) [4] rfl)) rfl rfl hl.1 rfl (lv_room (Nat.le_of_ble_eq_true rfl)) dX0_nameValleys_22 ⟨Nat.zero_le _, Nat.zero_le _⟩) (fun r hr_ => ?_)
        subst hr_
        refine lv_istore (lv' := [(5, .int (zI (zat nW sv i))), (0, .ref (a 0)), (1, .ref np), (2, .int (zI ct)), (3, .int (zI fo)), (4, .int (zI i))]) hx hb dX0_nameValleys_25 hl (by decide) rfl (fun ls hl => ?_)
        refine lv_iload hx hb dX0_nameValleys_27 (lv_at hl 5 rfl) ?_
        refine z_if_eq (tgt := 42) hx hb dX0_nameValleys_29 (by decide) (by omega) (fun h_2 => ?_) (fun h_2 => ?_)
        · skip
          refine lv_iinc (v := zI (ct + 1)) (lv' := [(2, .int (zI (ct + 1))), (5, .int (zI (zat nW sv i))), (0, .ref (a 0)), (1, .ref np), (3, .int (zI fo)), (4, .int (zI i))]) hx hb dX0_nameValleys_42 hl (k := 3) rfl (zI_add _ _) (by decide) rfl (fun ls hl => ?_)
          refine lv_aload_n hx hb dX0_nameValleys_45 rfl (lv_at hl 3 rfl) ?_
          refine lv_aload_n hx hb dX0_nameValleys_46 rfl (lv_at hl 2 rfl) ?_
          refine va_get (D := D) (ci := 0) (v := .ref (a 6)) (C := RX0) (T := TX0) (N := 15) hx hb hts inX0_nameValleys_X0 hown hK.1 hP 0 rfl rfl 5 (by decide) (hts (.fieldLink RX0 49 "TextEnds$EndSorter" "valleyNumber" "[I") (List.mem_of_getElem? (i := 3) rfl)) (fun _ h9 => h9) rfl dX0_nameValleys_47 ?_
          refine lv_iload hx hb dX0_nameValleys_50 (lv_at hl 1 rfl) ?_
          refine z_cr (va_runSN (As := [.ref (a 6), .int (zI (zat nW sv i))]) (rest := [.ref np]) ⟨hx, hb, hml, hown, hts⟩ (kX2_at l D cI cZ cL (a 6) nM vn (zat nW sv i) (by omega) (by omega)) ⟨va_cnB 2 hts gX0_nameValleys_X2_at_n131 rfl rfl rfl hK.2.2 (hts (.initialized RX2) (List.mem_of_getElem? (i := 5) rfl)) (by decide +kernel) ⟨Nat.le_of_ble_eq_true rfl, Nat.le_of_ble_eq_true rfl⟩, hts (.static yX2_at) (List.mem_of_getElem? (i := 4) rfl), trivial⟩ (zPr_pre hK (hP.sub (ws' := [(a 6, .inl (cI, nM, .inl (zA vn)))]) [3] rfl)) rfl rfl hl.1 rfl (lv_room (Nat.le_of_ble_eq_true rfl)) dX0_nameValleys_52 ⟨Nat.zero_le _, Nat.zero_le _⟩) (fun r hr_ => ?_)
          subst hr_
          refine lv_iload_n hx hb dX0_nameValleys_55 rfl (lv_at hl 0 rfl) ?_
          refine lv_iconst (v := zI 1) hx hb dX0_nameValleys_56 (by first | rfl | decide) ?_
          refine z_isub hx hb dX0_nameValleys_57 ?_
          refine z_cw (wc := [(np, .inl (cI, nP, .inl (zA nmq)))]) (wr := [(a 0, .inr (0, so a ts lp len sg vc)), (lp, .inl (cI, nl, .inl (zA lt))), (a 5, .inl (cI, nV, .inl (zA vl))), (a 6, .inl (cI, nM, .inl (zA vn))), (a 7, .inl (cI, nW, .inl (zA sv)))]) (Wt := (fun _ : Unit => [(a 0, .inr (0, so a ts lp len sg vc)), (lp, .inl (cI, nl, .inl (zA lt))), (a 5, .inl (cI, nV, .inl (zA vl))), (a 6, .inl (cI, nM, .inl (zA vn))), (a 7, .inl (cI, nW, .inl (zA sv))), (np, .inl (cI, nP, .inl (zA (zput nP nmq (zat nM vn (zat nW sv i)) ((ct + 1) - 1)))))])) [5] [0, 1, 2, 3, 4] [0, 1, 2, 3, 4, 5] hP hD hS hA rfl rfl (by decide) (by decide) (by decide) (by decide) (fun _ => rfl) (fun _ => rfl) (fun hPc hDc => va_runSN (As := [.ref np, .int (zI (zat nM vn (zat nW sv i))), .int (zI ((ct + 1) - 1))]) (rest := []) ⟨hx, hb, hml, hown, hts⟩ (kX2_put l D cI cZ cL np nP nmq (zat nM vn (zat nW sv i)) ((ct + 1) - 1) _ (by omega) (by omega)) ⟨va_cnB 3 hts gX0_nameValleys_X2_put_n127 rfl rfl rfl hK.2.1 (hts (.initialized RX2) (List.mem_of_getElem? (i := 5) rfl)) (by decide +kernel) ⟨Nat.le_of_ble_eq_true rfl, Nat.le_of_ble_eq_true rfl⟩, hts (.static yX2_put) (List.mem_of_getElem? (i := 23) rfl), trivial⟩ (zPw_pre hK hPc hDc) rfl rfl hl.1 rfl (lv_room (Nat.le_of_ble_eq_true rfl)) dX0_nameValleys_58 ⟨Nat.zero_le _, Nat.zero_le _⟩) rfl (fun u H locs hp_ hP hD hS => ?_)
          have hP : va_P D vwCl [(a 0, .inr (0, so a ts lp len sg vc)), (lp, .inl (cI, nl, .inl (zA lt))), (a 5, .inl (cI, nV, .inl (zA vl))), (a 6, .inl (cI, nM, .inl (zA vn))), (a 7, .inl (cI, nW, .inl (zA sv))), (np, .inl (cI, nP, .inl (zA (zput nP nmq (zat nM vn (zat nW sv i)) ((ct + 1) - 1)))))] H := hP
          have hD : va_D A [(a 0, .inr (0, so a ts lp len sg vc)), (lp, .inl (cI, nl, .inl (zA lt))), (a 5, .inl (cI, nV, .inl (zA vl))), (a 6, .inl (cI, nM, .inl (zA vn))), (a 7, .inl (cI, nW, .inl (zA sv))), (np, .inl (cI, nP, .inl (zA (zput nP nmq (zat nM vn (zat nW sv i)) ((ct + 1) - 1)))))] := hD
          refine lv_iload hx hb dX0_nameValleys_61 (lv_at hl 1 rfl) ?_
          refine lv_istore_n (lv' := [(3, .int (zI (zat nW sv i))), (2, .int (zI (ct + 1))), (5, .int (zI (zat nW sv i))), (0, .ref (a 0)), (1, .ref np), (4, .int (zI i))]) hx hb dX0_nameValleys_63 rfl hl (by decide) rfl (fun ls hl => ?_)
          refine lv_iinc (v := zI (i + 1)) (lv' := [(4, .int (zI (i + 1))), (3, .int (zI (zat nW sv i))), (2, .int (zI (ct + 1))), (5, .int (zI (zat nW sv i))), (0, .ref (a 0)), (1, .ref np)]) hx hb dX0_nameValleys_64 hl (k := 5) rfl (zI_add _ _) (by decide) rfl (fun ls hl => ?_)
          refine lv_goto (tgt := 7) hx hb dX0_nameValleys_67 (by decide) ?_
          exact ih7 (i + 1) (ct + 1) (zat nW sv i) (zput nP nmq (zat nM vn (zat nW sv i)) ((ct + 1) - 1)) _ _ ls (by omega) (by omega) (by omega) (by omega) (by first | exact stN_a hq h0 (by with_reducible assumption) (bi_ne (by with_reducible assumption)) | exact stN_b hq h0 (bi_eq (by with_reducible assumption)) | exact stN_c hq h0 (by with_reducible assumption)) (by omega) (hP) (hD) hS (lv_sub hl [4, 5, 2, 1, 0] rfl)
        · skip
          refine lv_aload_n hx hb dX0_nameValleys_32 rfl (lv_at hl 1 rfl) ?_
          refine lv_iload_n hx hb dX0_nameValleys_33 rfl (lv_at hl 4 rfl) ?_
          refine lv_iload hx hb dX0_nameValleys_34 (lv_at hl 0 rfl) ?_
          refine z_cr (va_runV (As := [.int (zI fo), .int (zI (zat nW sv i))]) (rest := []) ⟨hx, hb, hml, hown, hts⟩ (kX0_areAlike l D cI cZ cL a ts lp len sg vc nl nV nM lt vl vn fo (zat nW sv i) (by omega) (by omega) (by omega) (by omega) (by omega) (by omega) (hlt) (hvl) (hvn) (by omega) (by omega)) (cwV 2 hts gX0_nameValleys_X0_areAlike rfl rfl rfl (by decide +kernel) ⟨Nat.le_of_ble_eq_true rfl, Nat.le_of_ble_eq_true rfl⟩) (zPr_preV (ci := 0) (q0 := 0) hK (hP.sub (ws' := [(a 0, .inr (0, so a ts lp len sg vc)), (lp, .inl (cI, nl, .inl (zA lt))), (a 5, .inl (cI, nV, .inl (zA vl))), (a 6, .inl (cI, nM, .inl (zA vn)))]) [0, 1, 2, 3] rfl) rfl rfl) rfl rfl hl.1 rfl (lv_room (Nat.le_of_ble_eq_true rfl)) dX0_nameValleys_36 ⟨Nat.zero_le _, Nat.zero_le _⟩) (fun r hr_ => ?_)
          subst hr_
          refine z_if_ne (tgt := 45) hx hb dX0_nameValleys_39 (by decide) (bi_R _) (fun h_3 => ?_) (fun h_3 => ?_)
          · skip
            refine lv_aload_n hx hb dX0_nameValleys_45 rfl (lv_at hl 2 rfl) ?_
            refine lv_aload_n hx hb dX0_nameValleys_46 rfl (lv_at hl 1 rfl) ?_
            refine va_get (D := D) (ci := 0) (v := .ref (a 6)) (C := RX0) (T := TX0) (N := 15) hx hb hts inX0_nameValleys_X0 hown hK.1 hP 0 rfl rfl 5 (by decide) (hts (.fieldLink RX0 49 "TextEnds$EndSorter" "valleyNumber" "[I") (List.mem_of_getElem? (i := 3) rfl)) (fun _ h9 => h9) rfl dX0_nameValleys_47 ?_
            refine lv_iload hx hb dX0_nameValleys_50 (lv_at hl 0 rfl) ?_
            refine z_cr (va_runSN (As := [.ref (a 6), .int (zI (zat nW sv i))]) (rest := [.ref np]) ⟨hx, hb, hml, hown, hts⟩ (kX2_at l D cI cZ cL (a 6) nM vn (zat nW sv i) (by omega) (by omega)) ⟨va_cnB 2 hts gX0_nameValleys_X2_at_n131 rfl rfl rfl hK.2.2 (hts (.initialized RX2) (List.mem_of_getElem? (i := 5) rfl)) (by decide +kernel) ⟨Nat.le_of_ble_eq_true rfl, Nat.le_of_ble_eq_true rfl⟩, hts (.static yX2_at) (List.mem_of_getElem? (i := 4) rfl), trivial⟩ (zPr_pre hK (hP.sub (ws' := [(a 6, .inl (cI, nM, .inl (zA vn)))]) [3] rfl)) rfl rfl hl.1 rfl (lv_room (Nat.le_of_ble_eq_true rfl)) dX0_nameValleys_52 ⟨Nat.zero_le _, Nat.zero_le _⟩) (fun r hr_ => ?_)
            subst hr_
            refine lv_iload_n hx hb dX0_nameValleys_55 rfl (lv_at hl 3 rfl) ?_
            refine lv_iconst (v := zI 1) hx hb dX0_nameValleys_56 (by first | rfl | decide) ?_
            refine z_isub hx hb dX0_nameValleys_57 ?_
            refine z_cw (wc := [(np, .inl (cI, nP, .inl (zA nmq)))]) (wr := [(a 0, .inr (0, so a ts lp len sg vc)), (lp, .inl (cI, nl, .inl (zA lt))), (a 5, .inl (cI, nV, .inl (zA vl))), (a 6, .inl (cI, nM, .inl (zA vn))), (a 7, .inl (cI, nW, .inl (zA sv)))]) (Wt := (fun _ : Unit => [(a 0, .inr (0, so a ts lp len sg vc)), (lp, .inl (cI, nl, .inl (zA lt))), (a 5, .inl (cI, nV, .inl (zA vl))), (a 6, .inl (cI, nM, .inl (zA vn))), (a 7, .inl (cI, nW, .inl (zA sv))), (np, .inl (cI, nP, .inl (zA (zput nP nmq (zat nM vn (zat nW sv i)) (ct - 1)))))])) [5] [0, 1, 2, 3, 4] [0, 1, 2, 3, 4, 5] hP hD hS hA rfl rfl (by decide) (by decide) (by decide) (by decide) (fun _ => rfl) (fun _ => rfl) (fun hPc hDc => va_runSN (As := [.ref np, .int (zI (zat nM vn (zat nW sv i))), .int (zI (ct - 1))]) (rest := []) ⟨hx, hb, hml, hown, hts⟩ (kX2_put l D cI cZ cL np nP nmq (zat nM vn (zat nW sv i)) (ct - 1) _ (by omega) (by omega)) ⟨va_cnB 3 hts gX0_nameValleys_X2_put_n127 rfl rfl rfl hK.2.1 (hts (.initialized RX2) (List.mem_of_getElem? (i := 5) rfl)) (by decide +kernel) ⟨Nat.le_of_ble_eq_true rfl, Nat.le_of_ble_eq_true rfl⟩, hts (.static yX2_put) (List.mem_of_getElem? (i := 23) rfl), trivial⟩ (zPw_pre hK hPc hDc) rfl rfl hl.1 rfl (lv_room (Nat.le_of_ble_eq_true rfl)) dX0_nameValleys_58 ⟨Nat.zero_le _, Nat.zero_le _⟩) rfl (fun u H locs hp_ hP hD hS => ?_)
            have hP : va_P D vwCl [(a 0, .inr (0, so a ts lp len sg vc)), (lp, .inl (cI, nl, .inl (zA lt))), (a 5, .inl (cI, nV, .inl (zA vl))), (a 6, .inl (cI, nM, .inl (zA vn))), (a 7, .inl (cI, nW, .inl (zA sv))), (np, .inl (cI, nP, .inl (zA (zput nP nmq (zat nM vn (zat nW sv i)) (ct - 1)))))] H := hP
            have hD : va_D A [(a 0, .inr (0, so a ts lp len sg vc)), (lp, .inl (cI, nl, .inl (zA lt))), (a 5, .inl (cI, nV, .inl (zA vl))), (a 6, .inl (cI, nM, .inl (zA vn))), (a 7, .inl (cI, nW, .inl (zA sv))), (np, .inl (cI, nP, .inl (zA (zput nP nmq (zat nM vn (zat nW sv i)) (ct - 1)))))] := hD
            refine lv_iload hx hb dX0_nameValleys_61 (lv_at hl 0 rfl) ?_
            refine lv_istore_n (lv' := [(3, .int (zI (zat nW sv i))), (5, .int (zI (zat nW sv i))), (0, .ref (a 0)), (1, .ref np), (2, .int (zI ct)), (4, .int (zI i))]) hx hb dX0_nameValleys_63 rfl hl (by decide) rfl (fun ls hl => ?_)
            refine lv_iinc (v := zI (i + 1)) (lv' := [(4, .int (zI (i + 1))), (3, .int (zI (zat nW sv i))), (5, .int (zI (zat nW sv i))), (0, .ref (a 0)), (1, .ref np), (2, .int (zI ct))]) hx hb dX0_nameValleys_64 hl (k := 5) rfl (zI_add _ _) (by decide) rfl (fun ls hl => ?_)
            refine lv_goto (tgt := 7) hx hb dX0_nameValleys_67 (by decide) ?_
            exact ih7 (i + 1) ct (zat nW sv i) (zput nP nmq (zat nM vn (zat nW sv i)) (ct - 1)) _ _ ls (by omega) (by omega) (by omega) (by omega) (by first | exact stN_a hq h0 (by with_reducible assumption) (bi_ne (by with_reducible assumption)) | exact stN_b hq h0 (bi_eq (by with_reducible assumption)) | exact stN_c hq h0 (by with_reducible assumption)) (by omega) (hP) (hD) hS (lv_sub hl [3, 4, 5, 1, 0] rfl)
          · skip
            refine lv_iinc (v := zI (ct + 1)) (lv' := [(2, .int (zI (ct + 1))), (5, .int (zI (zat nW sv i))), (0, .ref (a 0)), (1, .ref np), (3, .int (zI fo)), (4, .int (zI i))]) hx hb dX0_nameValleys_42 hl (k := 3) rfl (zI_add _ _) (by decide) rfl (fun ls hl => ?_)
            refine lv_aload_n hx hb dX0_nameValleys_45 rfl (lv_at hl 3 rfl) ?_
            refine lv_aload_n hx hb dX0_nameValleys_46 rfl (lv_at hl 2 rfl) ?_
            refine va_get (D := D) (ci := 0) (v := .ref (a 6)) (C := RX0) (T := TX0) (N := 15) hx hb hts inX0_nameValleys_X0 hown hK.1 hP 0 rfl rfl 5 (by decide) (hts (.fieldLink RX0 49 "TextEnds$EndSorter" "valleyNumber" "[I") (List.mem_of_getElem? (i := 3) rfl)) (fun _ h9 => h9) rfl dX0_nameValleys_47 ?_
            refine lv_iload hx hb dX0_nameValleys_50 (lv_at hl 1 rfl) ?_
            refine z_cr (va_runSN (As := [.ref (a 6), .int (zI (zat nW sv i))]) (rest := [.ref np]) ⟨hx, hb, hml, hown, hts⟩ (kX2_at l D cI cZ cL (a 6) nM vn (zat nW sv i) (by omega) (by omega)) ⟨va_cnB 2 hts gX0_nameValleys_X2_at_n131 rfl rfl rfl hK.2.2 (hts (.initialized RX2) (List.mem_of_getElem? (i := 5) rfl)) (by decide +kernel) ⟨Nat.le_of_ble_eq_true rfl, Nat.le_of_ble_eq_true rfl⟩, hts (.static yX2_at) (List.mem_of_getElem? (i := 4) rfl), trivial⟩ (zPr_pre hK (hP.sub (ws' := [(a 6, .inl (cI, nM, .inl (zA vn)))]) [3] rfl)) rfl rfl hl.1 rfl (lv_room (Nat.le_of_ble_eq_true rfl)) dX0_nameValleys_52 ⟨Nat.zero_le _, Nat.zero_le _⟩) (fun r hr_ => ?_)
            subst hr_
            refine lv_iload_n hx hb dX0_nameValleys_55 rfl (lv_at hl 0 rfl) ?_
            refine lv_iconst (v := zI 1) hx hb dX0_nameValleys_56 (by first | rfl | decide) ?_
            refine z_isub hx hb dX0_nameValleys_57 ?_
            refine z_cw (wc := [(np, .inl (cI, nP, .inl (zA nmq)))]) (wr := [(a 0, .inr (0, so a ts lp len sg vc)), (lp, .inl (cI, nl, .inl (zA lt))), (a 5, .inl (cI, nV, .inl (zA vl))), (a 6, .inl (cI, nM, .inl (zA vn))), (a 7, .inl (cI, nW, .inl (zA sv)))]) (Wt := (fun _ : Unit => [(a 0, .inr (0, so a ts lp len sg vc)), (lp, .inl (cI, nl, .inl (zA lt))), (a 5, .inl (cI, nV, .inl (zA vl))), (a 6, .inl (cI, nM, .inl (zA vn))), (a 7, .inl (cI, nW, .inl (zA sv))), (np, .inl (cI, nP, .inl (zA (zput nP nmq (zat nM vn (zat nW sv i)) ((ct + 1) - 1)))))])) [5] [0, 1, 2, 3, 4] [0, 1, 2, 3, 4, 5] hP hD hS hA rfl rfl (by decide) (by decide) (by decide) (by decide) (fun _ => rfl) (fun _ => rfl) (fun hPc hDc => va_runSN (As := [.ref np, .int (zI (zat nM vn (zat nW sv i))), .int (zI ((ct + 1) - 1))]) (rest := []) ⟨hx, hb, hml, hown, hts⟩ (kX2_put l D cI cZ cL np nP nmq (zat nM vn (zat nW sv i)) ((ct + 1) - 1) _ (by omega) (by omega)) ⟨va_cnB 3 hts gX0_nameValleys_X2_put_n127 rfl rfl rfl hK.2.1 (hts (.initialized RX2) (List.mem_of_getElem? (i := 5) rfl)) (by decide +kernel) ⟨Nat.le_of_ble_eq_true rfl, Nat.le_of_ble_eq_true rfl⟩, hts (.static yX2_put) (List.mem_of_getElem? (i := 23) rfl), trivial⟩ (zPw_pre hK hPc hDc) rfl rfl hl.1 rfl (lv_room (Nat.le_of_ble_eq_true rfl)) dX0_nameValleys_58 ⟨Nat.zero_le _, Nat.zero_le _⟩) rfl (fun u H locs hp_ hP hD hS => ?_)
            have hP : va_P D vwCl [(a 0, .inr (0, so a ts lp len sg vc)), (lp, .inl (cI, nl, .inl (zA lt))), (a 5, .inl (cI, nV, .inl (zA vl))), (a 6, .inl (cI, nM, .inl (zA vn))), (a 7, .inl (cI, nW, .inl (zA sv))), (np, .inl (cI, nP, .inl (zA (zput nP nmq (zat nM vn (zat nW sv i)) ((ct + 1) - 1)))))] H := hP
            have hD : va_D A [(a 0, .inr (0, so a ts lp len sg vc)), (lp, .inl (cI, nl, .inl (zA lt))), (a 5, .inl (cI, nV, .inl (zA vl))), (a 6, .inl (cI, nM, .inl (zA vn))), (a 7, .inl (cI, nW, .inl (zA sv))), (np, .inl (cI, nP, .inl (zA (zput nP nmq (zat nM vn (zat nW sv i)) ((ct + 1) - 1)))))] := hD
            refine lv_iload hx hb dX0_nameValleys_61 (lv_at hl 1 rfl) ?_
            refine lv_istore_n (lv' := [(3, .int (zI (zat nW sv i))), (2, .int (zI (ct + 1))), (5, .int (zI (zat nW sv i))), (0, .ref (a 0)), (1, .ref np), (4, .int (zI i))]) hx hb dX0_nameValleys_63 rfl hl (by decide) rfl (fun ls hl => ?_)
            refine lv_iinc (v := zI (i + 1)) (lv' := [(4, .int (zI (i + 1))), (3, .int (zI (zat nW sv i))), (2, .int (zI (ct + 1))), (5, .int (zI (zat nW sv i))), (0, .ref (a 0)), (1, .ref np)]) hx hb dX0_nameValleys_64 hl (k := 5) rfl (zI_add _ _) (by decide) rfl (fun ls hl => ?_)
            refine lv_goto (tgt := 7) hx hb dX0_nameValleys_67 (by decide) ?_
            exact ih7 (i + 1) (ct + 1) (zat nW sv i) (zput nP nmq (zat nM vn (zat nW sv i)) ((ct + 1) - 1)) _ _ ls (by omega) (by omega) (by omega) (by omega) (by first | exact stN_a hq h0 (by with_reducible assumption) (bi_ne (by with_reducible assumption)) | exact stN_b hq h0 (bi_eq (by with_reducible assumption)) | exact stN_c hq h0 (by with_reducible assumption)) (by omega) (hP) (hD) hS (lv_sub hl [4, 5, 2, 1, 0] rfl)
  exact loop7 _ 0 0 (-1) nm _ _ ls (by omega) (by omega) (by omega) (by omega) (rfl) (Nat.lt_succ_self _) hP hD hS (lv_sub hl [3, 4, 2, 1, 0] rfl)
set_option maxHeartbeats 4000000 in
set_option maxRecDepth 100000 in
/-- takeOrderFromBelow() -/
theorem kX0_takeOrderFromBelow (l : Launch) (D : va_G) (cI cZ cL : ClassId) (a : Nat → Nat) (ts : Int) (lp : Nat) (len sg vc : Int) (nO nV nW : Nat) (od vl sv : Int → Int) (szz : Nat) (hvc : 0 ≤ vc ∧ vc ≤ 1000000) (bnO : (nO : Int) < 1073741824) (bnV : (nV : Int) < 1073741824) (bnW : (nW : Int) < 1073741824) (hod : zS od) : Met l yX0_takeOrderFromBelow wsX0_takeOrderFromBelow ({ frames := 1, cells := 0, slots := 0, locals := 22 }) (zPw D cI cZ cL szz [.ref (a 0)] [(a 0, .inr (0, so a ts lp len sg vc)), (a 2, .inl (cI, nO, .inl (zA od))), (a 5, .inl (cI, nV, .inl (zA vl))), (a 7, .inl (cI, nW, .inl (zA sv)))]) (zQw D (va_A [(a 0, .inr (0, so a ts lp len sg vc)), (a 2, .inl (cI, nO, .inl (zA od))), (a 5, .inl (cI, nV, .inl (zA vl))), (a 7, .inl (cI, nW, .inl (zA sv)))] szz) (fun _ : Unit => True) (fun _ : Unit => [(a 0, .inr (0, so a ts lp len sg vc)), (a 2, .inl (cI, nO, .inl (zA od))), (a 5, .inl (cI, nV, .inl (zA vl))), (a 7, .inl (cI, nW, .inl (zA (zit (stT nO nV nW od vl) vc.toNat sv))))])) 0 0 (va_A [(a 0, .inr (0, so a ts lp len sg vc)), (a 2, .inl (cI, nO, .inl (zA od))), (a 5, .inl (cI, nV, .inl (zA vl))), (a 7, .inl (cI, nW, .inl (zA sv)))] szz) := by
  refine Met.ofW (cc := cX0_takeOrderFromBelow) (maxL := 2) (ret := none) (by decide) rfl ?_
  intro p e s m args below meth c s₁ B hml hv
  obtain ⟨rfl, hsz, hP, hK, hD0⟩ := hv
  have hx := B.exec
  have hb := B.bytes
  have hr := B.returns
  have hts := atoms_spec (ws := wsX0_takeOrderFromBelow) B.pre
  have hown : s.vm.findClass RX0 = some m.cls := findClass_of_methodNamed B.named
  have hlocks := B.notSynchronized
  subst hsz
  have hD := hD0.self (sz := s.heap.size)
  generalize hAe : va_A [(a 0, .inr (0, so a ts lp len sg vc)), (a 2, .inl (cI, nO, .inl (zA od))), (a 5, .inl (cI, nV, .inl (zA vl))), (a 7, .inl (cI, nW, .inl (zA sv)))] s.heap.size = A at hD ⊢
  have hA : ∀ q : Nat, s.heap.size ≤ q → A q := fun q h => by rw [← hAe]; exact Or.inr h
  have hS : va_S A s.heap s.heap [] := va_S.rf
  clear hD0
  have hP : va_P D vwCl [(a 0, .inr (0, so a ts lp len sg vc)), (a 2, .inl (cI, nO, .inl (zA od))), (a 5, .inl (cI, nV, .inl (zA vl))), (a 7, .inl (cI, nW, .inl (zA sv)))] s.heap := hP
  have hl := lv_entry ([.ref (a 0)]) (n := 2) (Nat.le_of_ble_eq_true rfl)
  rw [lg_entry_eq]
  generalize (lg_sl ([.ref (a 0)]) ++ List.replicate (2 - (lg_sl ([.ref (a 0)])).length) Slot.unset).toArray = ls at hl ⊢
  have hl : lv_has ls 2 [(0, .ref (a 0))] := hl
  refine lv_iconst (v := zI 0) hx hb dX0_takeOrderFromBelow_0 (by first | rfl | decide) ?_
  refine lv_istore_n (lv' := [(1, .int (zI 0)), (0, .ref (a 0))]) hx hb dX0_takeOrderFromBelow_1 rfl hl (by decide) rfl (fun ls hl => ?_)
  have loop2 : ∀ (nn : Nat) (i : Int) (svq : Int → Int) (H : Heap) (locs : List Loc) (ls : Array Slot), (0 ≤ i) → (i ≤ vc) → (svq = zit (stT nO nV nW od vl) i.toNat sv) → ((vc - i).toNat) < nn → va_P D vwCl [(a 0, .inr (0, so a ts lp len sg vc)), (a 2, .inl (cI, nO, .inl (zA od))), (a 5, .inl (cI, nV, .inl (zA vl))), (a 7, .inl (cI, nW, .inl (zA svq)))] H → va_D A [(a 0, .inr (0, so a ts lp len sg vc)), (a 2, .inl (cI, nO, .inl (zA od))), (a 5, .inl (cI, nV, .inl (zA vl))), (a 7, .inl (cI, nW, .inl (zA svq)))] → va_S A s.heap H locs → lv_has ls 2 [(0, .ref (a 0)), (1, .int (zI i))] → W p l e (headSpec wsX0_takeOrderFromBelow ({ frames := 1, cells := 0, slots := 0, locals := 22 })).room s m ([.ref (a 0)] : List Value).toArray below meth c H locs 0 0 (MQ below (zQw D A (fun _ : Unit => True) (fun _ : Unit => [(a 0, .inr (0, so a ts lp len sg vc)), (a 2, .inl (cI, nO, .inl (zA od))), (a 5, .inl (cI, nV, .inl (zA vl))), (a 7, .inl (cI, nW, .inl (zA (zit (stT nO nV nW od vl) vc.toNat sv))))])) ([.ref (a 0)] : List Value).toArray s 0 0 A) (F0 m 2 ls []) := by
    intro nn
    induction nn with
    | zero =>
      intros
      exact absurd (by assumption : _ < 0) (Nat.not_lt_zero _)
    | succ nn ih2 =>
      intro i svq H locs ls h0 h1 hq hmu hP hD hS hl
      refine lv_iload_n hx hb dX0_takeOrderFromBelow_2 rfl (lv_at hl 1 rfl) ?_
      refine lv_aload_n hx hb dX0_takeOrderFromBelow_3 rfl (lv_at hl 0 rfl) ?_
      refine va_get (D := D) (ci := 0) (v := .int (zI vc)) (C := RX0) (T := TX0) (N := 15) hx hb hts inX0_takeOrderFromBelow_X0 hown hK.1 hP 0 rfl rfl 14 (by decide) (hts (.fieldLink RX0 97 "TextEnds$EndSorter" "valleyCount" "I") (List.mem_of_getElem? (i := 1) rfl)) (fun _ h9 => h9) rfl dX0_takeOrderFromBelow_4 ?_
      refine z_icmp_ge (tgt := 39) hx hb dX0_takeOrderFromBelow_7 (by decide) (by omega) (by omega) (fun h_1 => ?_) (fun h_1 => ?_)
      · skip
        have hwe : svq = (zit (stT nO nV nW od vl) vc.toNat sv) := by rw [hq, show i = vc by omega]
        rw [hwe] at hP hD
        clear hwe
        exact W.vret hx hb hr (fun t ht_ hW_ => ⟨⟨(), rfl, trivial, by rw [ht_]; exact hP, hD⟩, hS.F ht_⟩) hS.2.2 dX0_takeOrderFromBelow_39
      · skip
        have hk1 := zat_S hod nO i
        refine lv_aload_n hx hb dX0_takeOrderFromBelow_10 rfl (lv_at hl 0 rfl) ?_
        refine va_get (D := D) (ci := 0) (v := .ref (a 7)) (C := RX0) (T := TX0) (N := 15) hx hb hts inX0_takeOrderFromBelow_X0 hown hK.1 hP 0 rfl rfl 6 (by decide) (hts (.fieldLink RX0 55 "TextEnds$EndSorter" "sortedValleys" "[I") (List.mem_of_getElem? (i := 2) rfl)) (fun _ h9 => h9) rfl dX0_takeOrderFromBelow_11 ?_
        refine lv_iload_n hx hb dX0_takeOrderFromBelow_14 rfl (lv_at hl 1 rfl) ?_
        refine lv_aload_n hx hb dX0_takeOrderFromBelow_15 rfl (lv_at hl 0 rfl) ?_
        refine va_get (D := D) (ci := 0) (v := .ref (a 5)) (C := RX0) (T := TX0) (N := 15) hx hb hts inX0_takeOrderFromBelow_X0 hown hK.1 hP 0 rfl rfl 4 (by decide) (hts (.fieldLink RX0 52 "TextEnds$EndSorter" "valleys" "[I") (List.mem_of_getElem? (i := 3) rfl)) (fun _ h9 => h9) rfl dX0_takeOrderFromBelow_16 ?_
        refine lv_aload_n hx hb dX0_takeOrderFromBelow_19 rfl (lv_at hl 0 rfl) ?_
        refine va_get (D := D) (ci := 0) (v := .ref (a 2)) (C := RX0) (T := TX0) (N := 15) hx hb hts inX0_takeOrderFromBelow_X0 hown hK.1 hP 0 rfl rfl 1 (by decide) (hts (.fieldLink RX0 42 "TextEnds$EndSorter" "order" "[I") (List.mem_of_getElem? (i := 4) rfl)) (fun _ h9 => h9) rfl dX0_takeOrderFromBelow_20 ?_
        refine lv_iload_n hx hb dX0_takeOrderFromBelow_23 rfl (lv_at hl 1 rfl) ?_
        refine z_cr (va_runSN (As := [.ref (a 2), .int (zI i)]) (rest := [.ref (a 5), .int (zI i), .ref (a 7)]) ⟨hx, hb, hml, hown, hts⟩ (kX2_at l D cI cZ cL (a 2) nO od i (by omega) (by omega)) ⟨va_cnB 2 hts gX0_takeOrderFromBelow_X2_at_n131 rfl rfl rfl hK.2.2 (hts (.initialized RX2) (List.mem_of_getElem? (i := 6) rfl)) (by decide +kernel) ⟨Nat.le_of_ble_eq_true rfl, Nat.le_of_ble_eq_true rfl⟩, hts (.static yX2_at) (List.mem_of_getElem? (i := 5) rfl), trivial⟩ (zPr_pre hK (hP.sub (ws' := [(a 2, .inl (cI, nO, .inl (zA od)))]) [1] rfl)) rfl rfl hl.1 rfl (lv_room (Nat.le_of_ble_eq_true rfl)) dX0_takeOrderFromBelow_24 ⟨Nat.zero_le _, Nat.zero_le _⟩) (fun r hr_ => ?_)
        subst hr_
        refine z_cr (va_runSN (As := [.ref (a 5), .int (zI (zat nO od i))]) (rest := [.int (zI i), .ref (a 7)]) ⟨hx, hb, hml, hown, hts⟩ (kX2_at l D cI cZ cL (a 5) nV vl (zat nO od i) (by omega) (by omega)) ⟨va_cnB 2 hts gX0_takeOrderFromBelow_X2_at_n131 rfl rfl rfl hK.2.2 (hts (.initialized RX2) (List.mem_of_getElem? (i := 6) rfl)) (by decide +kernel) ⟨Nat.le_of_ble_eq_true rfl, Nat.le_of_ble_eq_true rfl⟩, hts (.static yX2_at) (List.mem_of_getElem? (i := 5) rfl), trivial⟩ (zPr_pre hK (hP.sub (ws' := [(a 5, .inl (cI, nV, .inl (zA vl)))]) [2] rfl)) rfl rfl hl.1 rfl (lv_room (Nat.le_of_ble_eq_true rfl)) dX0_takeOrderFromBelow_27 ⟨Nat.zero_le _, Nat.zero_le _⟩) (fun r hr_ => ?_)
        subst hr_
        refine z_cw (wc := [(a 7, .inl (cI, nW, .inl (zA svq)))]) (wr := [(a 0, .inr (0, so a ts lp len sg vc)), (a 2, .inl (cI, nO, .inl (zA od))), (a 5, .inl (cI, nV, .inl (zA vl)))]) (Wt := (fun _ : Unit => [(a 0, .inr (0, so a ts lp len sg vc)), (a 2, .inl (cI, nO, .inl (zA od))), (a 5, .inl (cI, nV, .inl (zA vl))), (a 7, .inl (cI, nW, .inl (zA (zput nW svq i (zat nV vl (zat nO od i))))))])) [3] [0, 1, 2] [0, 1, 2, 3] hP hD hS hA rfl rfl (by decide) (by decide) (by decide) (by decide) (fun _ => rfl) (fun _ => rfl) (fun hPc hDc => va_runSN (As := [.ref (a 7), .int (zI i), .int (zI (zat nV vl (zat nO od i)))]) (rest := []) ⟨hx, hb, hml, hown, hts⟩ (kX2_put l D cI cZ cL (a 7) nW svq i (zat nV vl (zat nO od i)) _ (by omega) (by omega)) ⟨va_cnB 3 hts gX0_takeOrderFromBelow_X2_put_n127 rfl rfl rfl hK.2.1 (hts (.initialized RX2) (List.mem_of_getElem? (i := 6) rfl)) (by decide +kernel) ⟨Nat.le_of_ble_eq_true rfl, Nat.le_of_ble_eq_true rfl⟩, hts (.static yX2_put) (List.mem_of_getElem? (i := 8) rfl), trivial⟩ (zPw_pre hK hPc hDc) rfl rfl hl.1 rfl (lv_room (Nat.le_of_ble_eq_true rfl)) dX0_takeOrderFromBelow_30 ⟨Nat.zero_le _, Nat.zero_le _⟩) rfl (fun u H locs hp_ hP hD hS => ?_)
        have hP : va_P D vwCl [(a 0, .inr (0, so a ts lp len sg vc)), (a 2, .inl (cI, nO, .inl (zA od))), (a 5, .inl (cI, nV, .inl (zA vl))), (a 7, .inl (cI, nW, .inl (zA (zput nW svq i (zat nV vl (zat nO od i))))))] H := hP
        have hD : va_D A [(a 0, .inr (0, so a ts lp len sg vc)), (a 2, .inl (cI, nO, .inl (zA od))), (a 5, .inl (cI, nV, .inl (zA vl))), (a 7, .inl (cI, nW, .inl (zA (zput nW svq i (zat nV vl (zat nO od i))))))] := hD
        refine lv_iinc (v := zI (i + 1)) (lv' := [(1, .int (zI (i + 1))), (0, .ref (a 0))]) hx hb dX0_takeOrderFromBelow_33 hl (k := 1) rfl (zI_add _ _) (by decide) rfl (fun ls hl => ?_)
        refine lv_goto (tgt := 2) hx hb dX0_takeOrderFromBelow_36 (by decide) ?_
        exact ih2 (i + 1) (zput nW svq i (zat nV vl (zat nO od i))) _ _ ls (by omega) (by omega) (stT_s hq h0) (by omega) (hP) (hD) hS (lv_sub hl [1, 0] rfl)
  exact loop2 _ 0 sv _ _ ls (by omega) (by omega) (rfl) (Nat.lt_succ_self _) hP hD hS (lv_sub hl [1, 0] rfl)
set_option maxHeartbeats 4000000 in
set_option maxRecDepth 100000 in
/-- hold(length, sigma) -/
theorem kX1_hold (l : Launch) (D : va_G) (cI cZ cL : ClassId) (h lp : Nat) (len sg : Int) (nl : Nat) (lt : Int → Int) (x y : Int) (szz : Nat) (bnl : (nl : Int) < 1073741824) (hx1 : zR x) : Met l yX1_hold wsX1_hold ({ frames := 1, cells := 0, slots := 0, locals := 30 }) (zPw D cI cZ cL szz [.ref h, .int (zI x), .int (zI y)] [(h, .inr (1, lo lp len sg)), (lp, .inl (cI, nl, .inl (zA lt)))]) (zQw D (va_A [(h, .inr (1, lo lp len sg)), (lp, .inl (cI, nl, .inl (zA lt)))] szz) (fun _ : Unit => True) (fun _ : Unit => [(h, .inr (1, lo lp (zmin x (nl : Int)) y)), (lp, .inl (cI, nl, .inl (zA lt)))])) 0 0 (va_A [(h, .inr (1, lo lp len sg)), (lp, .inl (cI, nl, .inl (zA lt)))] szz) := by
  refine Met.ofW (cc := cX1_hold) (maxL := 3) (ret := none) (by decide) rfl ?_
  intro p e s m args below meth c s₁ B hml hv
  obtain ⟨rfl, hsz, hP, hK, hD0⟩ := hv
  have hx := B.exec
  have hb := B.bytes
  have hr := B.returns
  have hts := atoms_spec (ws := wsX1_hold) B.pre
  have hown : s.vm.findClass RX1 = some m.cls := findClass_of_methodNamed B.named
  have hlocks := B.notSynchronized
  subst hsz
  have hD := hD0.self (sz := s.heap.size)
  generalize hAe : va_A [(h, .inr (1, lo lp len sg)), (lp, .inl (cI, nl, .inl (zA lt)))] s.heap.size = A at hD ⊢
  have hA : ∀ q : Nat, s.heap.size ≤ q → A q := fun q h => by rw [← hAe]; exact Or.inr h
  have hS : va_S A s.heap s.heap [] := va_S.rf
  clear hD0
  have hP : va_P D vwCl [(h, .inr (1, lo lp len sg)), (lp, .inl (cI, nl, .inl (zA lt)))] s.heap := hP
  have hl := lv_entry ([.ref h, .int (zI x), .int (zI y)]) (n := 3) (Nat.le_of_ble_eq_true rfl)
  rw [lg_entry_eq]
  generalize (lg_sl ([.ref h, .int (zI x), .int (zI y)]) ++ List.replicate (3 - (lg_sl ([.ref h, .int (zI x), .int (zI y)])).length) Slot.unset).toArray = ls at hl ⊢
  have hl : lv_has ls 3 [(0, .ref h), (1, .int (zI x)), (2, .int (zI y))] := hl
  refine lv_aload_n hx hb dX1_hold_0 rfl (lv_at hl 0 rfl) ?_
  refine lv_iload_n hx hb dX1_hold_1 rfl (lv_at hl 1 rfl) ?_
  refine lv_aload_n hx hb dX1_hold_2 rfl (lv_at hl 0 rfl) ?_
  refine va_get (D := D) (ci := 1) (v := .ref lp) (C := RX1) (T := TX1) (N := 3) hx hb hts inX1_hold_X1 hown hK.1 hP 0 rfl rfl 0 (by decide) (hts (.fieldLink RX1 13 "TextEnds$Level" "letters" "[I") (List.mem_of_getElem? (i := 1) rfl)) (fun _ h9 => h9) rfl dX1_hold_3 ?_
  refine z_alen hx hb hK.1 hP 1 0 rfl rfl dX1_hold_6 ?_
  refine va_mmin hx hb (hml.trans hl.1.symm) hown (hts (.methodLink RX1 19 Lib.Math.min.name) (List.mem_of_getElem? (i := 2) rfl)) (hts (.static Lib.Math.min.name) (List.mem_of_getElem? (i := 3) rfl)) (hts (.initialized "java/lang/Math") (List.mem_of_getElem? (i := 4) rfl)) (hts (.code Lib.Math.min.name Lib.Math.min.code 2 (some .int)) (List.mem_of_getElem? (i := 5) rfl)) (Nat.le_of_ble_eq_true rfl) (Nat.le_of_ble_eq_true rfl) (Nat.zero_le _) (Nat.zero_le _) dX1_hold_7 ?_
  refine z_topx (b := zmin x (nl : Int)) (zmin_I (by omega) (by omega)) ?_
  refine va_put (D := D) (ci := 1) (v := .int (zI (zmin x (nl : Int)))) (ty := .int) (C := RX1) (T := TX1) (N := 3) hx hb hts inX1_hold_X1 tyX1 tyX1_ok nmX1 hown hK.1 hP hD hS 0 rfl rfl 1 (by decide) (hts (.fieldLink RX1 22 "TextEnds$Level" "length" "I") (List.mem_of_getElem? (i := 6) rfl)) (fun _ h9 => h9) rfl (by decide +kernel) rfl rfl (Nat.le_of_ble_eq_true rfl) dX1_hold_10 (fun H locs hP hD hS => ?_)
  have hP : va_P D vwCl [(h, .inr (1, lo lp (zmin x (nl : Int)) sg)), (lp, .inl (cI, nl, .inl (zA lt)))] H := hP
  have hD : va_D A [(h, .inr (1, lo lp (zmin x (nl : Int)) sg)), (lp, .inl (cI, nl, .inl (zA lt)))] := hD
  refine lv_aload_n hx hb dX1_hold_13 rfl (lv_at hl 0 rfl) ?_
  refine lv_iload_n hx hb dX1_hold_14 rfl (lv_at hl 2 rfl) ?_
  refine va_put (D := D) (ci := 1) (v := .int (zI y)) (ty := .int) (C := RX1) (T := TX1) (N := 3) hx hb hts inX1_hold_X1 tyX1 tyX1_ok nmX1 hown hK.1 hP hD hS 0 rfl rfl 2 (by decide) (hts (.fieldLink RX1 26 "TextEnds$Level" "sigma" "I") (List.mem_of_getElem? (i := 7) rfl)) (fun _ h9 => h9) rfl (by decide +kernel) rfl rfl (Nat.le_of_ble_eq_true rfl) dX1_hold_15 (fun H locs hP hD hS => ?_)
  have hP : va_P D vwCl [(h, .inr (1, lo lp (zmin x (nl : Int)) y)), (lp, .inl (cI, nl, .inl (zA lt)))] H := hP
  have hD : va_D A [(h, .inr (1, lo lp (zmin x (nl : Int)) y)), (lp, .inl (cI, nl, .inl (zA lt)))] := hD
  exact W.vret hx hb hr (fun t ht_ hW_ => ⟨⟨(), rfl, trivial, by rw [ht_]; exact hP, hD⟩, hS.F ht_⟩) hS.2.2 dX1_hold_18
