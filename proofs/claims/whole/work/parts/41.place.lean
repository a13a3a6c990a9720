set_option maxRecDepth 20000 in
theorem inX0_startBuckets_X0 : ∀ w ∈ wsX00, w ∈ wsX0_startBuckets := by decide +kernel
set_option maxRecDepth 20000 in
theorem inX0_placeFront_X0 : ∀ w ∈ wsX00, w ∈ wsX0_placeFront := by decide +kernel
set_option maxRecDepth 20000 in
theorem inX0_placeBack_X0 : ∀ w ∈ wsX00, w ∈ wsX0_placeBack := by decide +kernel
set_option maxHeartbeats 4000000 in
set_option maxRecDepth 100000 in
/-- startBuckets(from, lettersOn) -/
theorem kX0_startBuckets (l : Launch) (D : va_G) (cI cZ cL : ClassId) (a : Nat → Nat) (ts : Int) (lp : Nat) (len sg vc : Int) (fp nf nN : Nat) (fr ns : Int → Int) (on : Int) (szz : Nat) (hsg : 0 ≤ sg) (hsn : sg ≤ (nN : Int)) (bnf : (nf : Int) < 1073741824) (bnN : (nN : Int) < 1073741824) (hon : 0 ≤ on ∧ on ≤ 1) : Met l yX0_startBuckets wsX0_startBuckets ({ frames := 1, cells := 0, slots := 0, locals := 21 }) (zPw D cI cZ cL szz [.ref (a 0), .ref fp, .int (zI on)] [(a 0, .inr (0, so a ts lp len sg vc)), (a 10, .inl (cI, nN, .inl (zA ns))), (fp, .inl (cI, nf, .inl (zA fr)))]) (zQw D (va_A [(a 0, .inr (0, so a ts lp len sg vc)), (a 10, .inl (cI, nN, .inl (zA ns))), (fp, .inl (cI, nf, .inl (zA fr)))] szz) (fun _ : Unit => True) (fun _ : Unit => [(a 0, .inr (0, so a ts lp len sg vc)), (a 10, .inl (cI, nN, .inl (zA (sbN sg nf fr on ns)))), (fp, .inl (cI, nf, .inl (zA fr)))])) 0 0 (va_A [(a 0, .inr (0, so a ts lp len sg vc)), (a 10, .inl (cI, nN, .inl (zA ns))), (fp, .inl (cI, nf, .inl (zA fr)))] szz) := by
  refine Met.ofW (cc := cX0_startBuckets) (maxL := 4) (ret := none) (by decide) rfl ?_
  intro p e s m args below meth c s₁ B hml hv
  obtain ⟨rfl, hsz, hP, hK, hD0⟩ := hv
  have hx := B.exec
  have hb := B.bytes
  have hr := B.returns
  have hts := atoms_spec (ws := wsX0_startBuckets) B.pre
  have hown : s.vm.findClass RX0 = some m.cls := findClass_of_methodNamed B.named
  have hlocks := B.notSynchronized
  subst hsz
  have hD := hD0.self (sz := s.heap.size)
  generalize hAe : va_A [(a 0, .inr (0, so a ts lp len sg vc)), (a 10, .inl (cI, nN, .inl (zA ns))), (fp, .inl (cI, nf, .inl (zA fr)))] s.heap.size = A at hD ⊢
  have hA : ∀ q : Nat, s.heap.size ≤ q → A q := fun q h => by rw [← hAe]; exact Or.inr h
  have hS : va_S A s.heap s.heap [] := va_S.rf
  clear hD0
  have hP : va_P D vwCl [(a 0, .inr (0, so a ts lp len sg vc)), (a 10, .inl (cI, nN, .inl (zA ns))), (fp, .inl (cI, nf, .inl (zA fr)))] s.heap := hP
  have hl := lv_entry ([.ref (a 0), .ref fp, .int (zI on)]) (n := 4) (Nat.le_of_ble_eq_true rfl)
  rw [lg_entry_eq]
  generalize (lg_sl ([.ref (a 0), .ref fp, .int (zI on)]) ++ List.replicate (4 - (lg_sl ([.ref (a 0), .ref fp, .int (zI on)])).length) Slot.unset).toArray = ls at hl ⊢
  have hl : lv_has ls 4 [(0, .ref (a 0)), (1, .ref fp), (2, .int (zI on))] := hl
  refine lv_iconst (v := zI 0) hx hb dX0_startBuckets_0 (by first | rfl | decide) ?_
  refine lv_istore_n (lv' := [(3, .int (zI 0)), (0, .ref (a 0)), (1, .ref fp), (2, .int (zI on))]) hx hb dX0_startBuckets_1 rfl hl (by decide) rfl (fun ls hl => ?_)
  have loop2 : ∀ (nn : Nat) (k : Int) (nx : Int → Int) (H : Heap) (locs : List Loc) (ls : Array Slot), (0 ≤ k) → (k ≤ sg) → (nx = zfill 0 k (fun j => zat nf fr (j + on)) ns) → ((sg - k).toNat) < nn → va_P D vwCl [(a 0, .inr (0, so a ts lp len sg vc)), (a 10, .inl (cI, nN, .inl (zA nx))), (fp, .inl (cI, nf, .inl (zA fr)))] H → va_D A [(a 0, .inr (0, so a ts lp len sg vc)), (a 10, .inl (cI, nN, .inl (zA nx))), (fp, .inl (cI, nf, .inl (zA fr)))] → va_S A s.heap H locs → lv_has ls 4 [(0, .ref (a 0)), (1, .ref fp), (2, .int (zI on)), (3, .int (zI k))] → W p l e (headSpec wsX0_startBuckets ({ frames := 1, cells := 0, slots := 0, locals := 21 })).room s m ([.ref (a 0), .ref fp, .int (zI on)] : List Value).toArray below meth c H locs 0 0 (MQ below (zQw D A (fun _ : Unit => True) (fun _ : Unit => [(a 0, .inr (0, so a ts lp len sg vc)), (a 10, .inl (cI, nN, .inl (zA (sbN sg nf fr on ns)))), (fp, .inl (cI, nf, .inl (zA fr)))])) ([.ref (a 0), .ref fp, .int (zI on)] : List Value).toArray s 0 0 A) (F0 m 2 ls []) := by
    intro nn
    induction nn with
    | zero =>
      intros
      exact absurd (by assumption : _ < 0) (Nat.not_lt_zero _)
    | succ nn ih2 =>
      intro k nx H locs ls h0 h1 hnx hmu hP hD hS hl
      refine lv_iload_n hx hb dX0_startBuckets_2 rfl (lv_at hl 3 rfl) ?_
      refine lv_aload_n hx hb dX0_startBuckets_3 rfl (lv_at hl 0 rfl) ?_
      refine va_get (D := D) (ci := 0) (v := .int (zI sg)) (C := RX0) (T := TX0) (N := 15) hx hb hts inX0_startBuckets_X0 hown hK.1 hP 0 rfl rfl 13 (by decide) (hts (.fieldLink RX0 107 "TextEnds$EndSorter" "sigma" "I") (List.mem_of_getElem? (i := 1) rfl)) (fun _ h9 => h9) rfl dX0_startBuckets_4 ?_
      refine z_icmp_ge (tgt := 29) hx hb dX0_startBuckets_7 (by decide) (by omega) (by omega) (fun h_1 => ?_) (fun h_1 => ?_)
      · skip
        have hwe : nx = (sbN sg nf fr on ns) := by rw [hnx, show k = sg by omega]; rfl
        rw [hwe] at hP hD
        clear hwe
        exact W.vret hx hb hr (fun t ht_ hW_ => ⟨⟨(), rfl, trivial, by rw [ht_]; exact hP, hD⟩, hS.F ht_⟩) hS.2.2 dX0_startBuckets_29
      · skip
        refine lv_aload_n hx hb dX0_startBuckets_10 rfl (lv_at hl 0 rfl) ?_
        refine va_get (D := D) (ci := 0) (v := .ref (a 10)) (C := RX0) (T := TX0) (N := 15) hx hb hts inX0_startBuckets_X0 hown hK.1 hP 0 rfl rfl 9 (by decide) (hts (.fieldLink RX0 64 "TextEnds$EndSorter" "nextSlot" "[I") (List.mem_of_getElem? (i := 2) rfl)) (fun _ h9 => h9) rfl dX0_startBuckets_11 ?_
        refine lv_iload_n hx hb dX0_startBuckets_14 rfl (lv_at hl 3 rfl) ?_
        refine lv_aload_n hx hb dX0_startBuckets_15 rfl (lv_at hl 1 rfl) ?_
        refine lv_iload_n hx hb dX0_startBuckets_16 rfl (lv_at hl 3 rfl) ?_
        refine lv_iload_n hx hb dX0_startBuckets_17 rfl (lv_at hl 2 rfl) ?_
        refine z_iadd hx hb dX0_startBuckets_18 ?_
        refine z_cr (va_runSN (As := [.ref fp, .int (zI (k + on))]) (rest := [.int (zI k), .ref (a 10)]) ⟨hx, hb, hml, hown, hts⟩ (kX2_at l D cI cZ cL fp nf fr (k + on) (by omega) (by omega)) ⟨va_cnB 2 hts gX0_startBuckets_X2_at_n131 rfl rfl rfl hK.2.2 (hts (.initialized RX2) (List.mem_of_getElem? (i := 4) rfl)) (by decide +kernel) ⟨Nat.le_of_ble_eq_true rfl, Nat.le_of_ble_eq_true rfl⟩, hts (.static yX2_at) (List.mem_of_getElem? (i := 3) rfl), trivial⟩ (zPr_pre hK (hP.sub (ws' := [(fp, .inl (cI, nf, .inl (zA fr)))]) [2] rfl)) rfl rfl hl.1 rfl (lv_room (Nat.le_of_ble_eq_true rfl)) dX0_startBuckets_19 ⟨Nat.zero_le _, Nat.zero_le _⟩) (fun r hr_ => ?_)
        subst hr_
        refine z_iast hx hb hK.1 hP hD hS 1 0 rfl rfl dX0_startBuckets_22 (by omega) (by omega) (by omega) (fun H locs hP hD hS => ?_)
        have hP : va_P D vwCl [(a 0, .inr (0, so a ts lp len sg vc)), (a 10, .inl (cI, nN, .inl (zA (zup nx k (zat nf fr (k + on)))))), (fp, .inl (cI, nf, .inl (zA fr)))] H := hP
        have hD : va_D A [(a 0, .inr (0, so a ts lp len sg vc)), (a 10, .inl (cI, nN, .inl (zA (zup nx k (zat nf fr (k + on)))))), (fp, .inl (cI, nf, .inl (zA fr)))] := hD
        refine lv_iinc (v := zI (k + 1)) (lv' := [(3, .int (zI (k + 1))), (0, .ref (a 0)), (1, .ref fp), (2, .int (zI on))]) hx hb dX0_startBuckets_23 hl (k := 3) rfl (zI_add _ _) (by decide) rfl (fun ls hl => ?_)
        refine lv_goto (tgt := 2) hx hb dX0_startBuckets_26 (by decide) ?_
        exact ih2 (k + 1) (zup nx k (zat nf fr (k + on))) _ _ ls (by omega) (by omega) (by rw [hnx]; exact zfill_up h0) (by omega) (hP) (hD) hS (lv_sub hl [1, 2, 3, 0] rfl)
  exact loop2 _ 0 ns _ _ ls (by omega) (by omega) (zfill_0 _ _ _) (Nat.lt_succ_self _) hP hD hS (lv_sub hl [1, 2, 3, 0] rfl)
set_option maxHeartbeats 4000000 in
set_option maxRecDepth 100000 in
/-- placeFront(place) -/
theorem kX0_placeFront (l : Launch) (D : va_G) (cI cZ cL : ClassId) (a : Nat → Nat) (ts : Int) (lp : Nat) (len sg vc : Int) (nl nO nN : Nat) (lt od ns : Int → Int) (pl : Int) (szz : Nat) (hlen : 0 ≤ len) (hnl : len ≤ (nl : Int)) (bnl : (nl : Int) < 1073741824) (hlt : zS lt) (hns : zS ns) (bnO : (nO : Int) < 1073741824) (bnN : (nN : Int) < 1073741824) (hpl : zR pl) : Met l yX0_placeFront wsX0_placeFront ({ frames := 1, cells := 0, slots := 0, locals := 22 }) (zPw D cI cZ cL szz [.ref (a 0), .int (zI pl)] [(a 0, .inr (0, so a ts lp len sg vc)), (lp, .inl (cI, nl, .inl (zA lt))), (a 2, .inl (cI, nO, .inl (zA od))), (a 10, .inl (cI, nN, .inl (zA ns)))]) (zQw D (va_A [(a 0, .inr (0, so a ts lp len sg vc)), (lp, .inl (cI, nl, .inl (zA lt))), (a 2, .inl (cI, nO, .inl (zA od))), (a 10, .inl (cI, nN, .inl (zA ns)))] szz) (fun _ : Unit => True) (fun _ : Unit => [(a 0, .inr (0, so a ts lp len sg vc)), (lp, .inl (cI, nl, .inl (zA lt))), (a 2, .inl (cI, nO, .inl (zA (pfO nO nN len lt od ns pl)))), (a 10, .inl (cI, nN, .inl (zA (pfN nN len lt ns pl))))])) 0 0 (va_A [(a 0, .inr (0, so a ts lp len sg vc)), (lp, .inl (cI, nl, .inl (zA lt))), (a 2, .inl (cI, nO, .inl (zA od))), (a 10, .inl (cI, nN, .inl (zA ns)))] szz) := by
  refine Met.ofW (cc := cX0_placeFront) (maxL := 4) (ret := none) (by decide) rfl ?_
  intro p e s m args below meth c s₁ B hml hv
  obtain ⟨rfl, hsz, hP, hK, hD0⟩ := hv
  have hx := B.exec
  have hb := B.bytes
  have hr := B.returns
  have hts := atoms_spec (ws := wsX0_placeFront) B.pre
  have hown : s.vm.findClass RX0 = some m.cls := findClass_of_methodNamed B.named
  have hlocks := B.notSynchronized
  subst hsz
  have hD := hD0.self (sz := s.heap.size)
  generalize hAe : va_A [(a 0, .inr (0, so a ts lp len sg vc)), (lp, .inl (cI, nl, .inl (zA lt))), (a 2, .inl (cI, nO, .inl (zA od))), (a 10, .inl (cI, nN, .inl (zA ns)))] s.heap.size = A at hD ⊢
  have hA : ∀ q : Nat, s.heap.size ≤ q → A q := fun q h => by rw [← hAe]; exact Or.inr h
  have hS : va_S A s.heap s.heap [] := va_S.rf
  clear hD0
  have hP : va_P D vwCl [(a 0, .inr (0, so a ts lp len sg vc)), (lp, .inl (cI, nl, .inl (zA lt))), (a 2, .inl (cI, nO, .inl (zA od))), (a 10, .inl (cI, nN, .inl (zA ns)))] s.heap := hP
  have hl := lv_entry ([.ref (a 0), .int (zI pl)]) (n := 4) (Nat.le_of_ble_eq_true rfl)
  rw [lg_entry_eq]
  generalize (lg_sl ([.ref (a 0), .int (zI pl)]) ++ List.replicate (4 - (lg_sl ([.ref (a 0), .int (zI pl)])).length) Slot.unset).toArray = ls at hl ⊢
  have hl : lv_has ls 4 [(0, .ref (a 0)), (1, .int (zI pl))] := hl
  have hq1 := zla_S hlt len pl
  have hq2 := zat_S hns nN (zla len lt pl)
  refine lv_aload_n hx hb dX0_placeFront_0 rfl (lv_at hl 0 rfl) ?_
  refine lv_iload_n hx hb dX0_placeFront_1 rfl (lv_at hl 1 rfl) ?_
  refine z_cr (va_runV (As := [.int (zI pl)]) (rest := []) ⟨hx, hb, hml, hown, hts⟩ (kX0_letterAt l D cI cZ cL a ts lp len sg vc nl lt pl (by omega) (by omega) (by omega) (by omega)) (cwV 1 hts gX0_placeFront_X0_letterAt rfl rfl rfl (by decide +kernel) ⟨Nat.le_of_ble_eq_true rfl, Nat.le_of_ble_eq_true rfl⟩) (zPr_preV (ci := 0) (q0 := 0) hK (hP.sub (ws' := [(a 0, .inr (0, so a ts lp len sg vc)), (lp, .inl (cI, nl, .inl (zA lt)))]) [0, 1] rfl) rfl rfl) rfl rfl hl.1 rfl (lv_room (Nat.le_of_ble_eq_true rfl)) dX0_placeFront_2 ⟨Nat.zero_le _, Nat.zero_le _⟩) (fun r hr_ => ?_)
  subst hr_
  refine lv_istore_n (lv' := [(2, .int (zI (zla len lt pl))), (0, .ref (a 0)), (1, .int (zI pl))]) hx hb dX0_placeFront_5 rfl hl (by decide) rfl (fun ls hl => ?_)
  refine lv_aload_n hx hb dX0_placeFront_6 rfl (lv_at hl 1 rfl) ?_
  refine va_get (D := D) (ci := 0) (v := .ref (a 10)) (C := RX0) (T := TX0) (N := 15) hx hb hts inX0_placeFront_X0 hown hK.1 hP 0 rfl rfl 9 (by decide) (hts (.fieldLink RX0 64 "TextEnds$EndSorter" "nextSlot" "[I") (List.mem_of_getElem? (i := 1) rfl)) (fun _ h9 => h9) rfl dX0_placeFront_7 ?_
  refine lv_iload_n hx hb dX0_placeFront_10 rfl (lv_at hl 0 rfl) ?_
  refine z_cr (va_runSN (As := [.ref (a 10), .int (zI (zla len lt pl))]) (rest := []) ⟨hx, hb, hml, hown, hts⟩ (kX2_at l D cI cZ cL (a 10) nN ns (zla len lt pl) (by omega) (by omega)) ⟨va_cnB 2 hts gX0_placeFront_X2_at_n131 rfl rfl rfl hK.2.2 (hts (.initialized RX2) (List.mem_of_getElem? (i := 11) rfl)) (by decide +kernel) ⟨Nat.le_of_ble_eq_true rfl, Nat.le_of_ble_eq_true rfl⟩, hts (.static yX2_at) (List.mem_of_getElem? (i := 10) rfl), trivial⟩ (zPr_pre hK (hP.sub (ws' := [(a 10, .inl (cI, nN, .inl (zA ns)))]) [3] rfl)) rfl rfl hl.1 rfl (lv_room (Nat.le_of_ble_eq_true rfl)) dX0_placeFront_11 ⟨Nat.zero_le _, Nat.zero_le _⟩) (fun r hr_ => ?_)
  subst hr_
  refine lv_istore_n (lv' := [(3, .int (zI (zat nN ns (zla len lt pl)))), (2, .int (zI (zla len lt pl))), (0, .ref (a 0)), (1, .int (zI pl))]) hx hb dX0_placeFront_14 rfl hl (by decide) rfl (fun ls hl => ?_)
  refine lv_aload_n hx hb dX0_placeFront_15 rfl (lv_at hl 2 rfl) ?_
  refine va_get (D := D) (ci := 0) (v := .ref (a 2)) (C := RX0) (T := TX0) (N := 15) hx hb hts inX0_placeFront_X0 hown hK.1 hP 0 rfl rfl 1 (by decide) (hts (.fieldLink RX0 42 "TextEnds$EndSorter" "order" "[I") (List.mem_of_getElem? (i := 2) rfl)) (fun _ h9 => h9) rfl dX0_placeFront_16 ?_
  refine lv_iload_n hx hb dX0_placeFront_19 rfl (lv_at hl 0 rfl) ?_
  refine lv_iload_n hx hb dX0_placeFront_20 rfl (lv_at hl 3 rfl) ?_
  refine z_cw (wc := [(a 2, .inl (cI, nO, .inl (zA od)))]) (wr := [(a 0, .inr (0, so a ts lp len sg vc)), (lp, .inl (cI, nl, .inl (zA lt))), (a 10, .inl (cI, nN, .inl (zA ns)))]) (Wt := (fun _ : Unit => [(a 0, .inr (0, so a ts lp len sg vc)), (lp, .inl (cI, nl, .inl (zA lt))), (a 2, .inl (cI, nO, .inl (zA (zput nO od (zat nN ns (zla len lt pl)) pl)))), (a 10, .inl (cI, nN, .inl (zA ns)))])) [2] [0, 1, 3] [0, 1, 3, 2] hP hD hS hA rfl rfl (by decide) (by decide) (by decide) (by decide) (fun _ => rfl) (fun _ => rfl) (fun hPc hDc => va_runSN (As := [.ref (a 2), .int (zI (zat nN ns (zla len lt pl))), .int (zI pl)]) (rest := []) ⟨hx, hb, hml, hown, hts⟩ (kX2_put l D cI cZ cL (a 2) nO od (zat nN ns (zla len lt pl)) pl _ (by omega) (by omega)) ⟨va_cnB 3 hts gX0_placeFront_X2_put_n127 rfl rfl rfl hK.2.1 (hts (.initialized RX2) (List.mem_of_getElem? (i := 11) rfl)) (by decide +kernel) ⟨Nat.le_of_ble_eq_true rfl, Nat.le_of_ble_eq_true rfl⟩, hts (.static yX2_put) (List.mem_of_getElem? (i := 13) rfl), trivial⟩ (zPw_pre hK hPc hDc) rfl rfl hl.1 rfl (lv_room (Nat.le_of_ble_eq_true rfl)) dX0_placeFront_21 ⟨Nat.zero_le _, Nat.zero_le _⟩) rfl (fun u H locs hp_ hP hD hS => ?_)
  have hP : va_P D vwCl [(a 0, .inr (0, so a ts lp len sg vc)), (lp, .inl (cI, nl, .inl (zA lt))), (a 2, .inl (cI, nO, .inl (zA (zput nO od (zat nN ns (zla len lt pl)) pl)))), (a 10, .inl (cI, nN, .inl (zA ns)))] H := hP
  have hD : va_D A [(a 0, .inr (0, so a ts lp len sg vc)), (lp, .inl (cI, nl, .inl (zA lt))), (a 2, .inl (cI, nO, .inl (zA (zput nO od (zat nN ns (zla len lt pl)) pl)))), (a 10, .inl (cI, nN, .inl (zA ns)))] := hD
  refine lv_aload_n hx hb dX0_placeFront_24 rfl (lv_at hl 2 rfl) ?_
  refine va_get (D := D) (ci := 0) (v := .ref (a 10)) (C := RX0) (T := TX0) (N := 15) hx hb hts inX0_placeFront_X0 hown hK.1 hP 0 rfl rfl 9 (by decide) (hts (.fieldLink RX0 64 "TextEnds$EndSorter" "nextSlot" "[I") (List.mem_of_getElem? (i := 1) rfl)) (fun _ h9 => h9) rfl dX0_placeFront_25 ?_
  refine lv_iload_n hx hb dX0_placeFront_28 rfl (lv_at hl 1 rfl) ?_
  refine lv_iload_n hx hb dX0_placeFront_29 rfl (lv_at hl 0 rfl) ?_
  refine lv_iconst (v := zI 1) hx hb dX0_placeFront_30 (by first | rfl | decide) ?_
  refine z_iadd hx hb dX0_placeFront_31 ?_
  refine z_cw (wc := [(a 10, .inl (cI, nN, .inl (zA ns)))]) (wr := [(a 0, .inr (0, so a ts lp len sg vc)), (lp, .inl (cI, nl, .inl (zA lt))), (a 2, .inl (cI, nO, .inl (zA (zput nO od (zat nN ns (zla len lt pl)) pl))))]) (Wt := (fun _ : Unit => [(a 0, .inr (0, so a ts lp len sg vc)), (lp, .inl (cI, nl, .inl (zA lt))), (a 2, .inl (cI, nO, .inl (zA (zput nO od (zat nN ns (zla len lt pl)) pl)))), (a 10, .inl (cI, nN, .inl (zA (zput nN ns (zla len lt pl) ((zat nN ns (zla len lt pl)) + 1)))))])) [3] [0, 1, 2] [0, 1, 2, 3] hP hD hS hA rfl rfl (by decide) (by decide) (by decide) (by decide) (fun _ => rfl) (fun _ => rfl) (fun hPc hDc => va_runSN (As := [.ref (a 10), .int (zI (zla len lt pl)), .int (zI ((zat nN ns (zla len lt pl)) + 1))]) (rest := []) ⟨hx, hb, hml, hown, hts⟩ (kX2_put l D cI cZ cL (a 10) nN ns (zla len lt pl) ((zat nN ns (zla len lt pl)) + 1) _ (by omega) (by omega)) ⟨va_cnB 3 hts gX0_placeFront_X2_put_n127 rfl rfl rfl hK.2.1 (hts (.initialized RX2) (List.mem_of_getElem? (i := 11) rfl)) (by decide +kernel) ⟨Nat.le_of_ble_eq_true rfl, Nat.le_of_ble_eq_true rfl⟩, hts (.static yX2_put) (List.mem_of_getElem? (i := 13) rfl), trivial⟩ (zPw_pre hK hPc hDc) rfl rfl hl.1 rfl (lv_room (Nat.le_of_ble_eq_true rfl)) dX0_placeFront_32 ⟨Nat.zero_le _, Nat.zero_le _⟩) rfl (fun u H locs hp_ hP hD hS => ?_)
  have hP : va_P D vwCl [(a 0, .inr (0, so a ts lp len sg vc)), (lp, .inl (cI, nl, .inl (zA lt))), (a 2, .inl (cI, nO, .inl (zA (zput nO od (zat nN ns (zla len lt pl)) pl)))), (a 10, .inl (cI, nN, .inl (zA (zput nN ns (zla len lt pl) ((zat nN ns (zla len lt pl)) + 1)))))] H := hP
  have hD : va_D A [(a 0, .inr (0, so a ts lp len sg vc)), (lp, .inl (cI, nl, .inl (zA lt))), (a 2, .inl (cI, nO, .inl (zA (zput nO od (zat nN ns (zla len lt pl)) pl)))), (a 10, .inl (cI, nN, .inl (zA (zput nN ns (zla len lt pl) ((zat nN ns (zla len lt pl)) + 1)))))] := hD
  exact W.vret hx hb hr (fun t ht_ hW_ => ⟨⟨(), rfl, trivial, by rw [ht_]; exact hP, hD⟩, hS.F ht_⟩) hS.2.2 dX0_placeFront_35
set_option maxHeartbeats 4000000 in
set_option maxRecDepth 100000 in
/-- placeBack(place) -/
theorem kX0_placeBack (l : Launch) (D : va_G) (cI cZ cL : ClassId) (a : Nat → Nat) (ts : Int) (lp : Nat) (len sg vc : Int) (nl nO nN : Nat) (lt od ns : Int → Int) (pl : Int) (szz : Nat) (hlen : 0 ≤ len) (hnl : len ≤ (nl : Int)) (bnl : (nl : Int) < 1073741824) (hlt : zS lt) (hns : zS ns) (bnO : (nO : Int) < 1073741824) (bnN : (nN : Int) < 1073741824) (hpl : zR pl) : Met l yX0_placeBack wsX0_placeBack ({ frames := 1, cells := 0, slots := 0, locals := 22 }) (zPw D cI cZ cL szz [.ref (a 0), .int (zI pl)] [(a 0, .inr (0, so a ts lp len sg vc)), (lp, .inl (cI, nl, .inl (zA lt))), (a 2, .inl (cI, nO, .inl (zA od))), (a 10, .inl (cI, nN, .inl (zA ns)))]) (zQw D (va_A [(a 0, .inr (0, so a ts lp len sg vc)), (lp, .inl (cI, nl, .inl (zA lt))), (a 2, .inl (cI, nO, .inl (zA od))), (a 10, .inl (cI, nN, .inl (zA ns)))] szz) (fun _ : Unit => True) (fun _ : Unit => [(a 0, .inr (0, so a ts lp len sg vc)), (lp, .inl (cI, nl, .inl (zA lt))), (a 2, .inl (cI, nO, .inl (zA (pbO nO nN len lt od ns pl)))), (a 10, .inl (cI, nN, .inl (zA (pbN nN len lt ns pl))))])) 0 0 (va_A [(a 0, .inr (0, so a ts lp len sg vc)), (lp, .inl (cI, nl, .inl (zA lt))), (a 2, .inl (cI, nO, .inl (zA od))), (a 10, .inl (cI, nN, .inl (zA ns)))] szz) := by
  refine Met.ofW (cc := cX0_placeBack) (maxL := 4) (ret := none) (by decide) rfl ?_
  intro p e s m args below meth c s₁ B hml hv
  obtain ⟨rfl, hsz, hP, hK, hD0⟩ := hv
  have hx := B.exec
  have hb := B.bytes
  have hr := B.returns
  have hts := atoms_spec (ws := wsX0_placeBack) B.pre
  have hown : s.vm.findClass RX0 = some m.cls := findClass_of_methodNamed B.named
  have hlocks := B.notSynchronized
  subst hsz
  have hD := hD0.self (sz := s.heap.size)
  generalize hAe : va_A [(a 0, .inr (0, so a ts lp len sg vc)), (lp, .inl (cI, nl, .inl (zA lt))), (a 2, .inl (cI, nO, .inl (zA od))), (a 10, .inl (cI, nN, .inl (zA ns)))] s.heap.size = A at hD ⊢
  have hA : ∀ q : Nat, s.heap.size ≤ q → A q := fun q h => by rw [← hAe]; exact Or.inr h
  have hS : va_S A s.heap s.heap [] := va_S.rf
  clear hD0
  have hP : va_P D vwCl [(a 0, .inr (0, so a ts lp len sg vc)), (lp, .inl (cI, nl, .inl (zA lt))), (a 2, .inl (cI, nO, .inl (zA od))), (a 10, .inl (cI, nN, .inl (zA ns)))] s.heap := hP
  have hl := lv_entry ([.ref (a 0), .int (zI pl)]) (n := 4) (Nat.le_of_ble_eq_true rfl)
  rw [lg_entry_eq]
  generalize (lg_sl ([.ref (a 0), .int (zI pl)]) ++ List.replicate (4 - (lg_sl ([.ref (a 0), .int (zI pl)])).length) Slot.unset).toArray = ls at hl ⊢
  have hl : lv_has ls 4 [(0, .ref (a 0)), (1, .int (zI pl))] := hl
  have hq1 := zla_S hlt len pl
  have hq2 := zat_S hns nN (zla len lt pl)
  refine lv_aload_n hx hb dX0_placeBack_0 rfl (lv_at hl 0 rfl) ?_
  refine lv_iload_n hx hb dX0_placeBack_1 rfl (lv_at hl 1 rfl) ?_
  refine z_cr (va_runV (As := [.int (zI pl)]) (rest := []) ⟨hx, hb, hml, hown, hts⟩ (kX0_letterAt l D cI cZ cL a ts lp len sg vc nl lt pl (by omega) (by omega) (by omega) (by omega)) (cwV 1 hts gX0_placeBack_X0_letterAt rfl rfl rfl (by decide +kernel) ⟨Nat.le_of_ble_eq_true rfl, Nat.le_of_ble_eq_true rfl⟩) (zPr_preV (ci := 0) (q0 := 0) hK (hP.sub (ws' := [(a 0, .inr (0, so a ts lp len sg vc)), (lp, .inl (cI, nl, .inl (zA lt)))]) [0, 1] rfl) rfl rfl) rfl rfl hl.1 rfl (lv_room (Nat.le_of_ble_eq_true rfl)) dX0_placeBack_2 ⟨Nat.zero_le _, Nat.zero_le _⟩) (fun r hr_ => ?_)
  subst hr_
  refine lv_istore_n (lv' := [(2, .int (zI (zla len lt pl))), (0, .ref (a 0)), (1, .int (zI pl))]) hx hb dX0_placeBack_5 rfl hl (by decide) rfl (fun ls hl => ?_)
  refine lv_aload_n hx hb dX0_placeBack_6 rfl (lv_at hl 1 rfl) ?_
  refine va_get (D := D) (ci := 0) (v := .ref (a 10)) (C := RX0) (T := TX0) (N := 15) hx hb hts inX0_placeBack_X0 hown hK.1 hP 0 rfl rfl 9 (by decide) (hts (.fieldLink RX0 64 "TextEnds$EndSorter" "nextSlot" "[I") (List.mem_of_getElem? (i := 1) rfl)) (fun _ h9 => h9) rfl dX0_placeBack_7 ?_
  refine lv_iload_n hx hb dX0_placeBack_10 rfl (lv_at hl 0 rfl) ?_
  refine z_cr (va_runSN (As := [.ref (a 10), .int (zI (zla len lt pl))]) (rest := []) ⟨hx, hb, hml, hown, hts⟩ (kX2_at l D cI cZ cL (a 10) nN ns (zla len lt pl) (by omega) (by omega)) ⟨va_cnB 2 hts gX0_placeBack_X2_at_n131 rfl rfl rfl hK.2.2 (hts (.initialized RX2) (List.mem_of_getElem? (i := 11) rfl)) (by decide +kernel) ⟨Nat.le_of_ble_eq_true rfl, Nat.le_of_ble_eq_true rfl⟩, hts (.static yX2_at) (List.mem_of_getElem? (i := 10) rfl), trivial⟩ (zPr_pre hK (hP.sub (ws' := [(a 10, .inl (cI, nN, .inl (zA ns)))]) [3] rfl)) rfl rfl hl.1 rfl (lv_room (Nat.le_of_ble_eq_true rfl)) dX0_placeBack_11 ⟨Nat.zero_le _, Nat.zero_le _⟩) (fun r hr_ => ?_)
  subst hr_
  refine lv_iconst (v := zI 1) hx hb dX0_placeBack_14 (by first | rfl | decide) ?_
  refine z_isub hx hb dX0_placeBack_15 ?_
  refine lv_istore_n (lv' := [(3, .int (zI ((zat nN ns (zla len lt pl)) - 1))), (2, .int (zI (zla len lt pl))), (0, .ref (a 0)), (1, .int (zI pl))]) hx hb dX0_placeBack_16 rfl hl (by decide) rfl (fun ls hl => ?_)
  refine lv_aload_n hx hb dX0_placeBack_17 rfl (lv_at hl 2 rfl) ?_
  refine va_get (D := D) (ci := 0) (v := .ref (a 2)) (C := RX0) (T := TX0) (N := 15) hx hb hts inX0_placeBack_X0 hown hK.1 hP 0 rfl rfl 1 (by decide) (hts (.fieldLink RX0 42 "TextEnds$EndSorter" "order" "[I") (List.mem_of_getElem? (i := 2) rfl)) (fun _ h9 => h9) rfl dX0_placeBack_18 ?_
  refine lv_iload_n hx hb dX0_placeBack_21 rfl (lv_at hl 0 rfl) ?_
  refine lv_iload_n hx hb dX0_placeBack_22 rfl (lv_at hl 3 rfl) ?_
  refine z_cw (wc := [(a 2, .inl (cI, nO, .inl (zA od)))]) (wr := [(a 0, .inr (0, so a ts lp len sg vc)), (lp, .inl (cI, nl, .inl (zA lt))), (a 10, .inl (cI, nN, .inl (zA ns)))]) (Wt := (fun _ : Unit => [(a 0, .inr (0, so a ts lp len sg vc)), (lp, .inl (cI, nl, .inl (zA lt))), (a 2, .inl (cI, nO, .inl (zA (zput nO od ((zat nN ns (zla len lt pl)) - 1) pl)))), (a 10, .inl (cI, nN, .inl (zA ns)))])) [2] [0, 1, 3] [0, 1, 3, 2] hP hD hS hA rfl rfl (by decide) (by decide) (by decide) (by decide) (fun _ => rfl) (fun _ => rfl) (fun hPc hDc => va_runSN (As := [.ref (a 2), .int (zI ((zat nN ns (zla len lt pl)) - 1)), .int (zI pl)]) (rest := []) ⟨hx, hb, hml, hown, hts⟩ (kX2_put l D cI cZ cL (a 2) nO od ((zat nN ns (zla len lt pl)) - 1) pl _ (by omega) (by omega)) ⟨va_cnB 3 hts gX0_placeBack_X2_put_n127 rfl rfl rfl hK.2.1 (hts (.initialized RX2) (List.mem_of_getElem? (i := 11) rfl)) (by decide +kernel) ⟨Nat.le_of_ble_eq_true rfl, Nat.le_of_ble_eq_true rfl⟩, hts (.static yX2_put) (List.mem_of_getElem? (i := 13) rfl), trivial⟩ (zPw_pre hK hPc hDc) rfl rfl hl.1 rfl (lv_room (Nat.le_of_ble_eq_true rfl)) dX0_placeBack_23 ⟨Nat.zero_le _, Nat.zero_le _⟩) rfl (fun u H locs hp_ hP hD hS => ?_)
  have hP : va_P D vwCl [(a 0, .inr (0, so a ts lp len sg vc)), (lp, .inl (cI, nl, .inl (zA lt))), (a 2, .inl (cI, nO, .inl (zA (zput nO od ((zat nN ns (zla len lt pl)) - 1) pl)))), (a 10, .inl (cI, nN, .inl (zA ns)))] H := hP
  have hD : va_D A [(a 0, .inr (0, so a ts lp len sg vc)), (lp, .inl (cI, nl, .inl (zA lt))), (a 2, .inl (cI, nO, .inl (zA (zput nO od ((zat nN ns (zla len lt pl)) - 1) pl)))), (a 10, .inl (cI, nN, .inl (zA ns)))] := hD
  refine lv_aload_n hx hb dX0_placeBack_26 rfl (lv_at hl 2 rfl) ?_
  refine va_get (D := D) (ci := 0) (v := .ref (a 10)) (C := RX0) (T := TX0) (N := 15) hx hb hts inX0_placeBack_X0 hown hK.1 hP 0 rfl rfl 9 (by decide) (hts (.fieldLink RX0 64 "TextEnds$EndSorter" "nextSlot" "[I") (List.mem_of_getElem? (i := 1) rfl)) (fun _ h9 => h9) rfl dX0_placeBack_27 ?_
  refine lv_iload_n hx hb dX0_placeBack_30 rfl (lv_at hl 1 rfl) ?_
  refine lv_iload_n hx hb dX0_placeBack_31 rfl (lv_at hl 0 rfl) ?_
  refine z_cw (wc := [(a 10, .inl (cI, nN, .inl (zA ns)))]) (wr := [(a 0, .inr (0, so a ts lp len sg vc)), (lp, .inl (cI, nl, .inl (zA lt))), (a 2, .inl (cI, nO, .inl (zA (zput nO od ((zat nN ns (zla len lt pl)) - 1) pl))))]) (Wt := (fun _ : Unit => [(a 0, .inr (0, so a ts lp len sg vc)), (lp, .inl (cI, nl, .inl (zA lt))), (a 2, .inl (cI, nO, .inl (zA (zput nO od ((zat nN ns (zla len lt pl)) - 1) pl)))), (a 10, .inl (cI, nN, .inl (zA (zput nN ns (zla len lt pl) ((zat nN ns (zla len lt pl)) - 1)))))])) [3] [0, 1, 2] [0, 1, 2, 3] hP hD hS hA rfl rfl (by decide) (by decide) (by decide) (by decide) (fun _ => rfl) (fun _ => rfl) (fun hPc hDc => va_runSN (As := [.ref (a 10), .int (zI (zla len lt pl)), .int (zI ((zat nN ns (zla len lt pl)) - 1))]) (rest := []) ⟨hx, hb, hml, hown, hts⟩ (kX2_put l D cI cZ cL (a 10) nN ns (zla len lt pl) ((zat nN ns (zla len lt pl)) - 1) _ (by omega) (by omega)) ⟨va_cnB 3 hts gX0_placeBack_X2_put_n127 rfl rfl rfl hK.2.1 (hts (.initialized RX2) (List.mem_of_getElem? (i := 11) rfl)) (by decide +kernel) ⟨Nat.le_of_ble_eq_true rfl, Nat.le_of_ble_eq_true rfl⟩, hts (.static yX2_put) (List.mem_of_getElem? (i := 13) rfl), trivial⟩ (zPw_pre hK hPc hDc) rfl rfl hl.1 rfl (lv_room (Nat.le_of_ble_eq_true rfl)) dX0_placeBack_32 ⟨Nat.zero_le _, Nat.zero_le _⟩) rfl (fun u H locs hp_ hP hD hS => ?_)
  have hP : va_P D vwCl [(a 0, .inr (0, so a ts lp len sg vc)), (lp, .inl (cI, nl, .inl (zA lt))), (a 2, .inl (cI, nO, .inl (zA (zput nO od ((zat nN ns (zla len lt pl)) - 1) pl)))), (a 10, .inl (cI, nN, .inl (zA (zput nN ns (zla len lt pl) ((zat nN ns (zla len lt pl)) - 1)))))] H := hP
  have hD : va_D A [(a 0, .inr (0, so a ts lp len sg vc)), (lp, .inl (cI, nl, .inl (zA lt))), (a 2, .inl (cI, nO, .inl (zA (zput nO od ((zat nN ns (zla len lt pl)) - 1) pl)))), (a 10, .inl (cI, nN, .inl (zA (zput nN ns (zla len lt pl) ((zat nN ns (zla len lt pl)) - 1)))))] := hD
  exact W.vret hx hb hr (fun t ht_ hW_ => ⟨⟨(), rfl, trivial, by rw [ht_]; exact hP, hD⟩, hS.F ht_⟩) hS.2.2 dX0_placeBack_35
