set_option maxRecDepth 20000 in
theorem inX0_induceFalling_X0 : ∀ w ∈ wsX00, w ∈ wsX0_induceFalling := by decide +kernel
set_option maxRecDepth 20000 in
theorem inX0_induceRising_X0 : ∀ w ∈ wsX00, w ∈ wsX0_induceRising := by decide +kernel
set_option maxRecDepth 20000 in
theorem inX0_induceFrom_X0 : ∀ w ∈ wsX00, w ∈ wsX0_induceFrom := by decide +kernel
set_option maxHeartbeats 4000000 in
set_option maxRecDepth 100000 in
/-- induceFalling() -/
theorem kX0_induceFalling (l : Launch) (D : va_G) (cI cZ cL : ClassId) (a : Nat → Nat) (ts : Int) (lp : Nat) (len sg vc : Int) (nl nO nr nF nN : Nat) (lt : Int → Int) (rs : Int → Bool) (ff od ns : Int → Int) (szz : Nat) (hlen : 0 ≤ len) (hnl : len ≤ (nl : Int)) (bnl : (nl : Int) < 1073741824) (hlr : len ≤ (nr : Int)) (hlO : len ≤ (nO : Int)) (hsg : 0 ≤ sg) (hsn : sg ≤ (nN : Int)) (bnO : (nO : Int) < 1073741824) (bnr : (nr : Int) < 1073741824) (bnF : (nF : Int) < 1073741824) (bnN : (nN : Int) < 1073741824) (hlt : zS lt) (hff : zS ff) (hns : zS ns) (hok : ∀ k, k ≤ len.toNat → zS (zit (stF nO nN len lt rs) k (ifq0 nO nN nF len sg lt ff od ns)).1 ∧ zS (zit (stF nO nN len lt rs) k (ifq0 nO nN nF len sg lt ff od ns)).2) : Met l yX0_induceFalling wsX0_induceFalling ({ frames := 2, cells := 0, slots := 0, locals := 45 }) (zPw D cI cZ cL szz [.ref (a 0)] [(a 0, .inr (0, so a ts lp len sg vc)), (lp, .inl (cI, nl, .inl (zA lt))), (a 2, .inl (cI, nO, .inl (zA od))), (a 4, .inl (cZ, nr, .inl (zA (zB rs)))), (a 8, .inl (cI, nF, .inl (zA ff))), (a 10, .inl (cI, nN, .inl (zA ns)))]) (zQw D (va_A [(a 0, .inr (0, so a ts lp len sg vc)), (lp, .inl (cI, nl, .inl (zA lt))), (a 2, .inl (cI, nO, .inl (zA od))), (a 4, .inl (cZ, nr, .inl (zA (zB rs)))), (a 8, .inl (cI, nF, .inl (zA ff))), (a 10, .inl (cI, nN, .inl (zA ns)))] szz) (fun _ : Unit => True) (fun _ : Unit => [(a 0, .inr (0, so a ts lp len sg vc)), (lp, .inl (cI, nl, .inl (zA lt))), (a 2, .inl (cI, nO, .inl (zA ((zit (stF nO nN len lt rs) len.toNat (ifq0 nO nN nF len sg lt ff od ns)).1)))), (a 4, .inl (cZ, nr, .inl (zA (zB rs)))), (a 8, .inl (cI, nF, .inl (zA ff))), (a 10, .inl (cI, nN, .inl (zA ((zit (stF nO nN len lt rs) len.toNat (ifq0 nO nN nF len sg lt ff od ns)).2))))])) 0 0 (va_A [(a 0, .inr (0, so a ts lp len sg vc)), (lp, .inl (cI, nl, .inl (zA lt))), (a 2, .inl (cI, nO, .inl (zA od))), (a 4, .inl (cZ, nr, .inl (zA (zB rs)))), (a 8, .inl (cI, nF, .inl (zA ff))), (a 10, .inl (cI, nN, .inl (zA ns)))] szz) := by
  refine Met.ofW (cc := cX0_induceFalling) (maxL := 3) (ret := none) (by decide) rfl ?_
  intro p e s m args below meth c s₁ B hml hv
  obtain ⟨rfl, hsz, hP, hK, hD0⟩ := hv
  have hx := B.exec
  have hb := B.bytes
  have hr := B.returns
  have hts := atoms_spec (ws := wsX0_induceFalling) B.pre
  have hown : s.vm.findClass RX0 = some m.cls := findClass_of_methodNamed B.named
  have hlocks := B.notSynchronized
  subst hsz
  have hD := hD0.self (sz := s.heap.size)
  generalize hAe : va_A [(a 0, .inr (0, so a ts lp len sg vc)), (lp, .inl (cI, nl, .inl (zA lt))), (a 2, .inl (cI, nO, .inl (zA od))), (a 4, .inl (cZ, nr, .inl (zA (zB rs)))), (a 8, .inl (cI, nF, .inl (zA ff))), (a 10, .inl (cI, nN, .inl (zA ns)))] s.heap.size = A at hD ⊢
  have hA : ∀ q : Nat, s.heap.size ≤ q → A q := fun q h => by rw [← hAe]; exact Or.inr h
  have hS : va_S A s.heap s.heap [] := va_S.rf
  clear hD0
  have hP : va_P D vwCl [(a 0, .inr (0, so a ts lp len sg vc)), (lp, .inl (cI, nl, .inl (zA lt))), (a 2, .inl (cI, nO, .inl (zA od))), (a 4, .inl (cZ, nr, .inl (zA (zB rs)))), (a 8, .inl (cI, nF, .inl (zA ff))), (a 10, .inl (cI, nN, .inl (zA ns)))] s.heap := hP
  have hl := lv_entry ([.ref (a 0)]) (n := 3) (Nat.le_of_ble_eq_true rfl)
  rw [lg_entry_eq]
  generalize (lg_sl ([.ref (a 0)]) ++ List.replicate (3 - (lg_sl ([.ref (a 0)])).length) Slot.unset).toArray = ls at hl ⊢
  have hl : lv_has ls 3 [(0, .ref (a 0))] := hl
  refine lv_aload_n hx hb dX0_induceFalling_0 rfl (lv_at hl 0 rfl) ?_
  refine lv_aload_n hx hb dX0_induceFalling_1 rfl (lv_at hl 0 rfl) ?_
  refine va_get (D := D) (ci := 0) (v := .ref (a 8)) (C := RX0) (T := TX0) (N := 15) hx hb hts inX0_induceFalling_X0 hown hK.1 hP 0 rfl rfl 7 (by decide) (hts (.fieldLink RX0 58 "TextEnds$EndSorter" "fallingFrom" "[I") (List.mem_of_getElem? (i := 1) rfl)) (fun _ h9 => h9) rfl dX0_induceFalling_2 ?_
  refine lv_iconst (v := zI 0) hx hb dX0_induceFalling_5 (by first | rfl | decide) ?_
  refine z_cw (wc := [(a 0, .inr (0, so a ts lp len sg vc)), (a 10, .inl (cI, nN, .inl (zA ns))), (a 8, .inl (cI, nF, .inl (zA ff)))]) (wr := [(lp, .inl (cI, nl, .inl (zA lt))), (a 2, .inl (cI, nO, .inl (zA od))), (a 4, .inl (cZ, nr, .inl (zA (zB rs))))]) (Wt := (fun _ : Unit => [(a 0, .inr (0, so a ts lp len sg vc)), (lp, .inl (cI, nl, .inl (zA lt))), (a 2, .inl (cI, nO, .inl (zA od))), (a 4, .inl (cZ, nr, .inl (zA (zB rs)))), (a 8, .inl (cI, nF, .inl (zA ff))), (a 10, .inl (cI, nN, .inl (zA (sbN sg nF ff 0 ns))))])) [0, 5, 4] [1, 2, 3] [3, 0, 1, 2, 5, 4] hP hD hS hA rfl rfl (by decide) (by decide) (by decide) (by decide) (fun _ => rfl) (fun _ => rfl) (fun hPc hDc => va_runV (As := [.ref (a 8), .int (zI 0)]) (rest := []) ⟨hx, hb, hml, hown, hts⟩ (kX0_startBuckets l D cI cZ cL a ts lp len sg vc (a 8) nF nN ff ns 0 _ (by omega) (by omega) (by omega) (by omega) (by omega)) (cwV 2 hts gX0_induceFalling_X0_startBuckets rfl rfl rfl (by decide +kernel) ⟨Nat.le_of_ble_eq_true rfl, Nat.le_of_ble_eq_true rfl⟩) (zPw_preV (ci := 0) (q0 := 0) hK hPc hDc rfl rfl) rfl rfl hl.1 rfl (lv_room (Nat.le_of_ble_eq_true rfl)) dX0_induceFalling_6 ⟨Nat.zero_le _, Nat.zero_le _⟩) rfl (fun u H locs hp_ hP hD hS => ?_)
  have hP : va_P D vwCl [(a 0, .inr (0, so a ts lp len sg vc)), (lp, .inl (cI, nl, .inl (zA lt))), (a 2, .inl (cI, nO, .inl (zA od))), (a 4, .inl (cZ, nr, .inl (zA (zB rs)))), (a 8, .inl (cI, nF, .inl (zA ff))), (a 10, .inl (cI, nN, .inl (zA (sbN sg nF ff 0 ns))))] H := hP
  have hD : va_D A [(a 0, .inr (0, so a ts lp len sg vc)), (lp, .inl (cI, nl, .inl (zA lt))), (a 2, .inl (cI, nO, .inl (zA od))), (a 4, .inl (cZ, nr, .inl (zA (zB rs)))), (a 8, .inl (cI, nF, .inl (zA ff))), (a 10, .inl (cI, nN, .inl (zA (sbN sg nF ff 0 ns))))] := hD
  refine lv_aload_n hx hb dX0_induceFalling_9 rfl (lv_at hl 0 rfl) ?_
  refine lv_aload_n hx hb dX0_induceFalling_10 rfl (lv_at hl 0 rfl) ?_
  refine va_get (D := D) (ci := 0) (v := .int (zI len)) (C := RX0) (T := TX0) (N := 15) hx hb hts inX0_induceFalling_X0 hown hK.1 hP 0 rfl rfl 12 (by decide) (hts (.fieldLink RX0 103 "TextEnds$EndSorter" "length" "I") (List.mem_of_getElem? (i := 2) rfl)) (fun _ h9 => h9) rfl dX0_induceFalling_11 ?_
  refine lv_iconst (v := zI 1) hx hb dX0_induceFalling_14 (by first | rfl | decide) ?_
  refine z_isub hx hb dX0_induceFalling_15 ?_
  refine z_cw (wc := [(a 0, .inr (0, so a ts lp len sg vc)), (lp, .inl (cI, nl, .inl (zA lt))), (a 2, .inl (cI, nO, .inl (zA od))), (a 10, .inl (cI, nN, .inl (zA (sbN sg nF ff 0 ns))))]) (wr := [(a 4, .inl (cZ, nr, .inl (zA (zB rs)))), (a 8, .inl (cI, nF, .inl (zA ff)))]) (Wt := (fun _ : Unit => [(a 0, .inr (0, so a ts lp len sg vc)), (lp, .inl (cI, nl, .inl (zA lt))), (a 2, .inl (cI, nO, .inl (zA (pfO nO nN len lt od (sbN sg nF ff 0 ns) (len - 1))))), (a 4, .inl (cZ, nr, .inl (zA (zB rs)))), (a 8, .inl (cI, nF, .inl (zA ff))), (a 10, .inl (cI, nN, .inl (zA (pfN nN len lt (sbN sg nF ff 0 ns) (len - 1)))))])) [0, 1, 2, 5] [3, 4] [2, 3, 4, 0, 1, 5] hP hD hS hA rfl rfl (by decide) (by decide) (by decide) (by decide) (fun _ => rfl) (fun _ => rfl) (fun hPc hDc => va_runV (As := [.int (zI (len - 1))]) (rest := []) ⟨hx, hb, hml, hown, hts⟩ (kX0_placeFront l D cI cZ cL a ts lp len sg vc nl nO nN lt od (sbN sg nF ff 0 ns) (len - 1) _ (by omega) (by omega) (by omega) (hlt) (sbN_S hff hns) (by omega) (by omega) (by omega)) (cwV 1 hts gX0_induceFalling_X0_placeFront rfl rfl rfl (by decide +kernel) ⟨Nat.le_of_ble_eq_true rfl, Nat.le_of_ble_eq_true rfl⟩) (zPw_preV (ci := 0) (q0 := 0) hK hPc hDc rfl rfl) rfl rfl hl.1 rfl (lv_room (Nat.le_of_ble_eq_true rfl)) dX0_induceFalling_16 ⟨Nat.zero_le _, Nat.zero_le _⟩) rfl (fun u H locs hp_ hP hD hS => ?_)
  have hP : va_P D vwCl [(a 0, .inr (0, so a ts lp len sg vc)), (lp, .inl (cI, nl, .inl (zA lt))), (a 2, .inl (cI, nO, .inl (zA (pfO nO nN len lt od (sbN sg nF ff 0 ns) (len - 1))))), (a 4, .inl (cZ, nr, .inl (zA (zB rs)))), (a 8, .inl (cI, nF, .inl (zA ff))), (a 10, .inl (cI, nN, .inl (zA (pfN nN len lt (sbN sg nF ff 0 ns) (len - 1)))))] H := hP
  have hD : va_D A [(a 0, .inr (0, so a ts lp len sg vc)), (lp, .inl (cI, nl, .inl (zA lt))), (a 2, .inl (cI, nO, .inl (zA (pfO nO nN len lt od (sbN sg nF ff 0 ns) (len - 1))))), (a 4, .inl (cZ, nr, .inl (zA (zB rs)))), (a 8, .inl (cI, nF, .inl (zA ff))), (a 10, .inl (cI, nN, .inl (zA (pfN nN len lt (sbN sg nF ff 0 ns) (len - 1)))))] := hD
  refine lv_iconst (v := zI 0) hx hb dX0_induceFalling_19 (by first | rfl | decide) ?_
  refine lv_istore_n (lv' := [(1, .int (zI 0)), (0, .ref (a 0))]) hx hb dX0_induceFalling_20 rfl hl (by decide) rfl (fun ls hl => ?_)
  have loop21 : ∀ (nn : Nat) (i : Int) (oq : Int → Int) (nq : Int → Int) (H : Heap) (locs : List Loc) (ls : Array Slot), (0 ≤ i) → (i ≤ len) → ((oq, nq) = zit (stF nO nN len lt rs) i.toNat (ifq0 nO nN nF len sg lt ff od ns)) → ((len - i).toNat) < nn → va_P D vwCl [(a 0, .inr (0, so a ts lp len sg vc)), (lp, .inl (cI, nl, .inl (zA lt))), (a 2, .inl (cI, nO, .inl (zA oq))), (a 4, .inl (cZ, nr, .inl (zA (zB rs)))), (a 8, .inl (cI, nF, .inl (zA ff))), (a 10, .inl (cI, nN, .inl (zA nq)))] H → va_D A [(a 0, .inr (0, so a ts lp len sg vc)), (lp, .inl (cI, nl, .inl (zA lt))), (a 2, .inl (cI, nO, .inl (zA oq))), (a 4, .inl (cZ, nr, .inl (zA (zB rs)))), (a 8, .inl (cI, nF, .inl (zA ff))), (a 10, .inl (cI, nN, .inl (zA nq)))] → va_S A s.heap H locs → lv_has ls 3 [(0, .ref (a 0)), (1, .int (zI i))] → W p l e (headSpec wsX0_induceFalling ({ frames := 2, cells := 0, slots := 0, locals := 45 })).room s m ([.ref (a 0)] : List Value).toArray below meth c H locs 0 0 (MQ below (zQw D A (fun _ : Unit => True) (fun _ : Unit => [(a 0, .inr (0, so a ts lp len sg vc)), (lp, .inl (cI, nl, .inl (zA lt))), (a 2, .inl (cI, nO, .inl (zA ((zit (stF nO nN len lt rs) len.toNat (ifq0 nO nN nF len sg lt ff od ns)).1)))), (a 4, .inl (cZ, nr, .inl (zA (zB rs)))), (a 8, .inl (cI, nF, .inl (zA ff))), (a 10, .inl (cI, nN, .inl (zA ((zit (stF nO nN len lt rs) len.toNat (ifq0 nO nN nF len sg lt ff od ns)).2))))])) ([.ref (a 0)] : List Value).toArray s 0 0 A) (F0 m 21 ls []) := by
    intro nn
    induction nn with
    | zero =>
      intros
      exact absurd (by assumption : _ < 0) (Nat.not_lt_zero _)
    | succ nn ih21 =>
      intro i oq nq H locs ls h0 h1 hq hmu hP hD hS hl
      refine lv_iload_n hx hb dX0_induceFalling_21 rfl (lv_at hl 1 rfl) ?_
      refine lv_aload_n hx hb dX0_induceFalling_22 rfl (lv_at hl 0 rfl) ?_
      refine va_get (D := D) (ci := 0) (v := .int (zI len)) (C := RX0) (T := TX0) (N := 15) hx hb hts inX0_induceFalling_X0 hown hK.1 hP 0 rfl rfl 12 (by decide) (hts (.fieldLink RX0 103 "TextEnds$EndSorter" "length" "I") (List.mem_of_getElem? (i := 2) rfl)) (fun _ h9 => h9) rfl dX0_induceFalling_23 ?_
      refine z_icmp_ge (tgt := 57) hx hb dX0_induceFalling_26 (by decide) (by omega) (by omega) (fun h_1 => ?_) (fun h_1 => ?_)
      · skip
        rw [show i = len by omega] at hq
        have hwe : oq = ((zit (stF nO nN len lt rs) len.toNat (ifq0 nO nN nF len sg lt ff od ns)).1) := congrArg (fun z => z.1) hq
        rw [hwe] at hP hD
        clear hwe
        have hwe : nq = ((zit (stF nO nN len lt rs) len.toNat (ifq0 nO nN nF len sg lt ff od ns)).2) := congrArg (fun z => z.2) hq
        rw [hwe] at hP hD
        clear hwe
        exact W.vret hx hb hr (fun t ht_ hW_ => ⟨⟨(), rfl, trivial, by rw [ht_]; exact hP, hD⟩, hS.F ht_⟩) hS.2.2 dX0_induceFalling_57
      · skip
        have hk := hok i.toNat (by omega)
        rw [← hq] at hk
        have hk1 : -1000000 ≤ oq i ∧ oq i ≤ 1000000 := hk.1 i
        have hk2 : zS nq := hk.2
        refine lv_aload_n hx hb dX0_induceFalling_29 rfl (lv_at hl 0 rfl) ?_
        refine va_get (D := D) (ci := 0) (v := .ref (a 2)) (C := RX0) (T := TX0) (N := 15) hx hb hts inX0_induceFalling_X0 hown hK.1 hP 0 rfl rfl 1 (by decide) (hts (.fieldLink RX0 42 "TextEnds$EndSorter" "order" "[I") (List.mem_of_getElem? (i := 3) rfl)) (fun _ h9 => h9) rfl dX0_induceFalling_30 ?_
        refine lv_iload_n hx hb dX0_induceFalling_33 rfl (lv_at hl 1 rfl) ?_
        refine z_iald hx hb hK.1 hP 2 0 rfl rfl dX0_induceFalling_34 (by omega) (by omega) (by omega) ?_
        refine lv_iconst (v := zI 1) hx hb dX0_induceFalling_35 (by first | rfl | decide) ?_
        refine z_isub hx hb dX0_induceFalling_36 ?_
        refine lv_istore_n (lv' := [(2, .int (zI ((oq i) - 1))), (0, .ref (a 0)), (1, .int (zI i))]) hx hb dX0_induceFalling_37 rfl hl (by decide) rfl (fun ls hl => ?_)
        refine lv_aload_n hx hb dX0_induceFalling_38 rfl (lv_at hl 1 rfl) ?_
        refine lv_iload_n hx hb dX0_induceFalling_39 rfl (lv_at hl 0 rfl) ?_
        refine z_cr (va_runV (As := [.int (zI ((oq i) - 1))]) (rest := []) ⟨hx, hb, hml, hown, hts⟩ (kX0_isFalling l D cI cZ cL a ts lp len sg vc nr rs ((oq i) - 1) (by omega) (by omega) (by omega) (by omega)) (cwV 1 hts gX0_induceFalling_X0_isFalling rfl rfl rfl (by decide +kernel) ⟨Nat.le_of_ble_eq_true rfl, Nat.le_of_ble_eq_true rfl⟩) (zPr_preV (ci := 0) (q0 := 0) hK (hP.sub (ws' := [(a 0, .inr (0, so a ts lp len sg vc)), (a 4, .inl (cZ, nr, .inl (zA (zB rs))))]) [0, 3] rfl) rfl rfl) rfl rfl hl.1 rfl (lv_room (Nat.le_of_ble_eq_true rfl)) dX0_induceFalling_40 ⟨Nat.zero_le _, Nat.zero_le _⟩) (fun r hr_ => ?_)
        subst hr_
        refine z_if_eq (tgt := 51) hx hb dX0_induceFalling_43 (by decide) (bi_R _) (fun h_2 => ?_) (fun h_2 => ?_)
        · skip
          refine lv_iinc (v := zI (i + 1)) (lv' := [(1, .int (zI (i + 1))), (2, .int (zI ((oq i) - 1))), (0, .ref (a 0))]) hx hb dX0_induceFalling_51 hl (k := 2) rfl (zI_add _ _) (by decide) rfl (fun ls hl => ?_)
          refine lv_goto (tgt := 21) hx hb dX0_induceFalling_54 (by decide) ?_
          exact ih21 (i + 1) oq nq _ _ ls (by omega) (by omega) (by first | exact stF_t hq h0 (bi_ne (by with_reducible assumption)) | exact stF_f hq h0 (bi_eq (by with_reducible assumption))) (by omega) (hP) (hD) hS (lv_sub hl [2, 0] rfl)
        · skip
          refine lv_aload_n hx hb dX0_induceFalling_46 rfl (lv_at hl 1 rfl) ?_
          refine lv_iload_n hx hb dX0_induceFalling_47 rfl (lv_at hl 0 rfl) ?_
          refine z_cw (wc := [(a 0, .inr (0, so a ts lp len sg vc)), (lp, .inl (cI, nl, .inl (zA lt))), (a 2, .inl (cI, nO, .inl (zA oq))), (a 10, .inl (cI, nN, .inl (zA nq)))]) (wr := [(a 4, .inl (cZ, nr, .inl (zA (zB rs)))), (a 8, .inl (cI, nF, .inl (zA ff)))]) (Wt := (fun _ : Unit => [(a 0, .inr (0, so a ts lp len sg vc)), (lp, .inl (cI, nl, .inl (zA lt))), (a 2, .inl (cI, nO, .inl (zA (pfO nO nN len lt oq nq ((oq i) - 1))))), (a 4, .inl (cZ, nr, .inl (zA (zB rs)))), (a 8, .inl (cI, nF, .inl (zA ff))), (a 10, .inl (cI, nN, .inl (zA (pfN nN len lt nq ((oq i) - 1)))))])) [0, 1, 2, 5] [3, 4] [2, 3, 4, 0, 1, 5] hP hD hS hA rfl rfl (by decide) (by decide) (by decide) (by decide) (fun _ => rfl) (fun _ => rfl) (fun hPc hDc => va_runV (As := [.int (zI ((oq i) - 1))]) (rest := []) ⟨hx, hb, hml, hown, hts⟩ (kX0_placeFront l D cI cZ cL a ts lp len sg vc nl nO nN lt oq nq ((oq i) - 1) _ (by omega) (by omega) (by omega) (hlt) (hk2) (by omega) (by omega) (by omega)) (cwV 1 hts gX0_induceFalling_X0_placeFront rfl rfl rfl (by decide +kernel) ⟨Nat.le_of_ble_eq_true rfl, Nat.le_of_ble_eq_true rfl⟩) (zPw_preV (ci := 0) (q0 := 0) hK hPc hDc rfl rfl) rfl rfl hl.1 rfl (lv_room (Nat.le_of_ble_eq_true rfl)) dX0_induceFalling_48 ⟨Nat.zero_le _, Nat.zero_le _⟩) rfl (fun u H locs hp_ hP hD hS => ?_)
          have hP : va_P D vwCl [(a 0, .inr (0, so a ts lp len sg vc)), (lp, .inl (cI, nl, .inl (zA lt))), (a 2, .inl (cI, nO, .inl (zA (pfO nO nN len lt oq nq ((oq i) - 1))))), (a 4, .inl (cZ, nr, .inl (zA (zB rs)))), (a 8, .inl (cI, nF, .inl (zA ff))), (a 10, .inl (cI, nN, .inl (zA (pfN nN len lt nq ((oq i) - 1)))))] H := hP
          have hD : va_D A [(a 0, .inr (0, so a ts lp len sg vc)), (lp, .inl (cI, nl, .inl (zA lt))), (a 2, .inl (cI, nO, .inl (zA (pfO nO nN len lt oq nq ((oq i) - 1))))), (a 4, .inl (cZ, nr, .inl (zA (zB rs)))), (a 8, .inl (cI, nF, .inl (zA ff))), (a 10, .inl (cI, nN, .inl (zA (pfN nN len lt nq ((oq i) - 1)))))] := hD
          refine lv_iinc (v := zI (i + 1)) (lv' := [(1, .int (zI (i + 1))), (2, .int (zI ((oq i) - 1))), (0, .ref (a 0))]) hx hb dX0_induceFalling_51 hl (k := 2) rfl (zI_add _ _) (by decide) rfl (fun ls hl => ?_)
          refine lv_goto (tgt := 21) hx hb dX0_induceFalling_54 (by decide) ?_
          exact ih21 (i + 1) (pfO nO nN len lt oq nq ((oq i) - 1)) (pfN nN len lt nq ((oq i) - 1)) _ _ ls (by omega) (by omega) (by first | exact stF_t hq h0 (bi_ne (by with_reducible assumption)) | exact stF_f hq h0 (bi_eq (by with_reducible assumption))) (by omega) (hP) (hD) hS (lv_sub hl [2, 0] rfl)
  exact loop21 _ 0 (pfO nO nN len lt od (sbN sg nF ff 0 ns) (len - 1)) (pfN nN len lt (sbN sg nF ff 0 ns) (len - 1)) _ _ ls (by omega) (by omega) (rfl) (Nat.lt_succ_self _) hP hD hS (lv_sub hl [1, 0] rfl)
set_option maxHeartbeats 4000000 in
set_option maxRecDepth 100000 in
/-- induceRising() -/
theorem kX0_induceRising (l : Launch) (D : va_G) (cI cZ cL : ClassId) (a : Nat → Nat) (ts : Int) (lp : Nat) (len sg vc : Int) (nl nO nr nF nN : Nat) (lt : Int → Int) (rs : Int → Bool) (ff od ns : Int → Int) (szz : Nat) (hlen : 0 ≤ len) (hnl : len ≤ (nl : Int)) (bnl : (nl : Int) < 1073741824) (hlr : len ≤ (nr : Int)) (hlO : len ≤ (nO : Int)) (hsg : 0 ≤ sg) (hsn : sg ≤ (nN : Int)) (bnO : (nO : Int) < 1073741824) (bnr : (nr : Int) < 1073741824) (bnF : (nF : Int) < 1073741824) (bnN : (nN : Int) < 1073741824) (hlt : zS lt) (hok : ∀ k, k ≤ len.toNat → zS (zit (stR nO nN len lt rs) k (od, sbN sg nF ff 1 ns)).1 ∧ zS (zit (stR nO nN len lt rs) k (od, sbN sg nF ff 1 ns)).2) : Met l yX0_induceRising wsX0_induceRising ({ frames := 2, cells := 0, slots := 0, locals := 45 }) (zPw D cI cZ cL szz [.ref (a 0)] [(a 0, .inr (0, so a ts lp len sg vc)), (lp, .inl (cI, nl, .inl (zA lt))), (a 2, .inl (cI, nO, .inl (zA od))), (a 4, .inl (cZ, nr, .inl (zA (zB rs)))), (a 8, .inl (cI, nF, .inl (zA ff))), (a 10, .inl (cI, nN, .inl (zA ns)))]) (zQw D (va_A [(a 0, .inr (0, so a ts lp len sg vc)), (lp, .inl (cI, nl, .inl (zA lt))), (a 2, .inl (cI, nO, .inl (zA od))), (a 4, .inl (cZ, nr, .inl (zA (zB rs)))), (a 8, .inl (cI, nF, .inl (zA ff))), (a 10, .inl (cI, nN, .inl (zA ns)))] szz) (fun _ : Unit => True) (fun _ : Unit => [(a 0, .inr (0, so a ts lp len sg vc)), (lp, .inl (cI, nl, .inl (zA lt))), (a 2, .inl (cI, nO, .inl (zA ((zit (stR nO nN len lt rs) len.toNat (od, sbN sg nF ff 1 ns)).1)))), (a 4, .inl (cZ, nr, .inl (zA (zB rs)))), (a 8, .inl (cI, nF, .inl (zA ff))), (a 10, .inl (cI, nN, .inl (zA ((zit (stR nO nN len lt rs) len.toNat (od, sbN sg nF ff 1 ns)).2))))])) 0 0 (va_A [(a 0, .inr (0, so a ts lp len sg vc)), (lp, .inl (cI, nl, .inl (zA lt))), (a 2, .inl (cI, nO, .inl (zA od))), (a 4, .inl (cZ, nr, .inl (zA (zB rs)))), (a 8, .inl (cI, nF, .inl (zA ff))), (a 10, .inl (cI, nN, .inl (zA ns)))] szz) := by
  refine Met.ofW (cc := cX0_induceRising) (maxL := 3) (ret := none) (by decide) rfl ?_
  intro p e s m args below meth c s₁ B hml hv
  obtain ⟨rfl, hsz, hP, hK, hD0⟩ := hv
  have hx := B.exec
  have hb := B.bytes
  have hr := B.returns
  have hts := atoms_spec (ws := wsX0_induceRising) B.pre
  have hown : s.vm.findClass RX0 = some m.cls := findClass_of_methodNamed B.named
  have hlocks := B.notSynchronized
  subst hsz
  have hD := hD0.self (sz := s.heap.size)
  generalize hAe : va_A [(a 0, .inr (0, so a ts lp len sg vc)), (lp, .inl (cI, nl, .inl (zA lt))), (a 2, .inl (cI, nO, .inl (zA od))), (a 4, .inl (cZ, nr, .inl (zA (zB rs)))), (a 8, .inl (cI, nF, .inl (zA ff))), (a 10, .inl (cI, nN, .inl (zA ns)))] s.heap.size = A at hD ⊢
  have hA : ∀ q : Nat, s.heap.size ≤ q → A q := fun q h => by rw [← hAe]; exact Or.inr h
  have hS : va_S A s.heap s.heap [] := va_S.rf
  clear hD0
  have hP : va_P D vwCl [(a 0, .inr (0, so a ts lp len sg vc)), (lp, .inl (cI, nl, .inl (zA lt))), (a 2, .inl (cI, nO, .inl (zA od))), (a 4, .inl (cZ, nr, .inl (zA (zB rs)))), (a 8, .inl (cI, nF, .inl (zA ff))), (a 10, .inl (cI, nN, .inl (zA ns)))] s.heap := hP
  have hl := lv_entry ([.ref (a 0)]) (n := 3) (Nat.le_of_ble_eq_true rfl)
  rw [lg_entry_eq]
  generalize (lg_sl ([.ref (a 0)]) ++ List.replicate (3 - (lg_sl ([.ref (a 0)])).length) Slot.unset).toArray = ls at hl ⊢
  have hl : lv_has ls 3 [(0, .ref (a 0))] := hl
  refine lv_aload_n hx hb dX0_induceRising_0 rfl (lv_at hl 0 rfl) ?_
  refine lv_aload_n hx hb dX0_induceRising_1 rfl (lv_at hl 0 rfl) ?_
  refine va_get (D := D) (ci := 0) (v := .ref (a 8)) (C := RX0) (T := TX0) (N := 15) hx hb hts inX0_induceRising_X0 hown hK.1 hP 0 rfl rfl 7 (by decide) (hts (.fieldLink RX0 58 "TextEnds$EndSorter" "fallingFrom" "[I") (List.mem_of_getElem? (i := 1) rfl)) (fun _ h9 => h9) rfl dX0_induceRising_2 ?_
  refine lv_iconst (v := zI 1) hx hb dX0_induceRising_5 (by first | rfl | decide) ?_
  refine z_cw (wc := [(a 0, .inr (0, so a ts lp len sg vc)), (a 10, .inl (cI, nN, .inl (zA ns))), (a 8, .inl (cI, nF, .inl (zA ff)))]) (wr := [(lp, .inl (cI, nl, .inl (zA lt))), (a 2, .inl (cI, nO, .inl (zA od))), (a 4, .inl (cZ, nr, .inl (zA (zB rs))))]) (Wt := (fun _ : Unit => [(a 0, .inr (0, so a ts lp len sg vc)), (lp, .inl (cI, nl, .inl (zA lt))), (a 2, .inl (cI, nO, .inl (zA od))), (a 4, .inl (cZ, nr, .inl (zA (zB rs)))), (a 8, .inl (cI, nF, .inl (zA ff))), (a 10, .inl (cI, nN, .inl (zA (sbN sg nF ff 1 ns))))])) [0, 5, 4] [1, 2, 3] [3, 0, 1, 2, 5, 4] hP hD hS hA rfl rfl (by decide) (by decide) (by decide) (by decide) (fun _ => rfl) (fun _ => rfl) (fun hPc hDc => va_runV (As := [.ref (a 8), .int (zI 1)]) (rest := []) ⟨hx, hb, hml, hown, hts⟩ (kX0_startBuckets l D cI cZ cL a ts lp len sg vc (a 8) nF nN ff ns 1 _ (by omega) (by omega) (by omega) (by omega) (by omega)) (cwV 2 hts gX0_induceRising_X0_startBuckets rfl rfl rfl (by decide +kernel) ⟨Nat.le_of_ble_eq_true rfl, Nat.le_of_ble_eq_true rfl⟩) (zPw_preV (ci := 0) (q0 := 0) hK hPc hDc rfl rfl) rfl rfl hl.1 rfl (lv_room (Nat.le_of_ble_eq_true rfl)) dX0_induceRising_6 ⟨Nat.zero_le _, Nat.zero_le _⟩) rfl (fun u H locs hp_ hP hD hS => ?_)
  have hP : va_P D vwCl [(a 0, .inr (0, so a ts lp len sg vc)), (lp, .inl (cI, nl, .inl (zA lt))), (a 2, .inl (cI, nO, .inl (zA od))), (a 4, .inl (cZ, nr, .inl (zA (zB rs)))), (a 8, .inl (cI, nF, .inl (zA ff))), (a 10, .inl (cI, nN, .inl (zA (sbN sg nF ff 1 ns))))] H := hP
  have hD : va_D A [(a 0, .inr (0, so a ts lp len sg vc)), (lp, .inl (cI, nl, .inl (zA lt))), (a 2, .inl (cI, nO, .inl (zA od))), (a 4, .inl (cZ, nr, .inl (zA (zB rs)))), (a 8, .inl (cI, nF, .inl (zA ff))), (a 10, .inl (cI, nN, .inl (zA (sbN sg nF ff 1 ns))))] := hD
  refine lv_aload_n hx hb dX0_induceRising_9 rfl (lv_at hl 0 rfl) ?_
  refine va_get (D := D) (ci := 0) (v := .int (zI len)) (C := RX0) (T := TX0) (N := 15) hx hb hts inX0_induceRising_X0 hown hK.1 hP 0 rfl rfl 12 (by decide) (hts (.fieldLink RX0 103 "TextEnds$EndSorter" "length" "I") (List.mem_of_getElem? (i := 2) rfl)) (fun _ h9 => h9) rfl dX0_induceRising_10 ?_
  refine lv_iconst (v := zI 1) hx hb dX0_induceRising_13 (by first | rfl | decide) ?_
  refine z_isub hx hb dX0_induceRising_14 ?_
  refine lv_istore_n (lv' := [(1, .int (zI (len - 1))), (0, .ref (a 0))]) hx hb dX0_induceRising_15 rfl hl (by decide) rfl (fun ls hl => ?_)
  have loop16 : ∀ (nn : Nat) (i : Int) (oq : Int → Int) (nq : Int → Int) (H : Heap) (locs : List Loc) (ls : Array Slot), (-1 ≤ i) → (i ≤ len - 1) → ((oq, nq) = zit (stR nO nN len lt rs) (len - 1 - i).toNat (od, sbN sg nF ff 1 ns)) → ((i + 1).toNat) < nn → va_P D vwCl [(a 0, .inr (0, so a ts lp len sg vc)), (lp, .inl (cI, nl, .inl (zA lt))), (a 2, .inl (cI, nO, .inl (zA oq))), (a 4, .inl (cZ, nr, .inl (zA (zB rs)))), (a 8, .inl (cI, nF, .inl (zA ff))), (a 10, .inl (cI, nN, .inl (zA nq)))] H → va_D A [(a 0, .inr (0, so a ts lp len sg vc)), (lp, .inl (cI, nl, .inl (zA lt))), (a 2, .inl (cI, nO, .inl (zA oq))), (a 4, .inl (cZ, nr, .inl (zA (zB rs)))), (a 8, .inl (cI, nF, .inl (zA ff))), (a 10, .inl (cI, nN, .inl (zA nq)))] → va_S A s.heap H locs → lv_has ls 3 [(0, .ref (a 0)), (1, .int (zI i))] → W p l e (headSpec wsX0_induceRising ({ frames := 2, cells := 0, slots := 0, locals := 45 })).room s m ([.ref (a 0)] : List Value).toArray below meth c H locs 0 0 (MQ below (zQw D A (fun _ : Unit => True) (fun _ : Unit => [(a 0, .inr (0, so a ts lp len sg vc)), (lp, .inl (cI, nl, .inl (zA lt))), (a 2, .inl (cI, nO, .inl (zA ((zit (stR nO nN len lt rs) len.toNat (od, sbN sg nF ff 1 ns)).1)))), (a 4, .inl (cZ, nr, .inl (zA (zB rs)))), (a 8, .inl (cI, nF, .inl (zA ff))), (a 10, .inl (cI, nN, .inl (zA ((zit (stR nO nN len lt rs) len.toNat (od, sbN sg nF ff 1 ns)).2))))])) ([.ref (a 0)] : List Value).toArray s 0 0 A) (F0 m 16 ls []) := by
    intro nn
    induction nn with
    | zero =>
      intros
      exact absurd (by assumption : _ < 0) (Nat.not_lt_zero _)
    | succ nn ih16 =>
      intro i oq nq H locs ls h0 h1 hq hmu hP hD hS hl
      refine lv_iload_n hx hb dX0_induceRising_16 rfl (lv_at hl 1 rfl) ?_
      refine z_if_lt (tgt := 48) hx hb dX0_induceRising_17 (by decide) (by omega) (fun h_1 => ?_) (fun h_1 => ?_)
      · skip
        rw [show len - 1 - i = len by omega] at hq
        have hwe : oq = ((zit (stR nO nN len lt rs) len.toNat (od, sbN sg nF ff 1 ns)).1) := congrArg (fun z => z.1) hq
        rw [hwe] at hP hD
        clear hwe
        have hwe : nq = ((zit (stR nO nN len lt rs) len.toNat (od, sbN sg nF ff 1 ns)).2) := congrArg (fun z => z.2) hq
        rw [hwe] at hP hD
        clear hwe
        exact W.vret hx hb hr (fun t ht_ hW_ => ⟨⟨(), rfl, trivial, by rw [ht_]; exact hP, hD⟩, hS.F ht_⟩) hS.2.2 dX0_induceRising_48
      · skip
        have hk := hok (len - 1 - i).toNat (by omega)
        rw [← hq] at hk
        have hk1 : -1000000 ≤ oq i ∧ oq i ≤ 1000000 := hk.1 i
        have hk2 : zS nq := hk.2
        refine lv_aload_n hx hb dX0_induceRising_20 rfl (lv_at hl 0 rfl) ?_
        refine va_get (D := D) (ci := 0) (v := .ref (a 2)) (C := RX0) (T := TX0) (N := 15) hx hb hts inX0_induceRising_X0 hown hK.1 hP 0 rfl rfl 1 (by decide) (hts (.fieldLink RX0 42 "TextEnds$EndSorter" "order" "[I") (List.mem_of_getElem? (i := 3) rfl)) (fun _ h9 => h9) rfl dX0_induceRising_21 ?_
        refine lv_iload_n hx hb dX0_induceRising_24 rfl (lv_at hl 1 rfl) ?_
        refine z_iald hx hb hK.1 hP 2 0 rfl rfl dX0_induceRising_25 (by omega) (by omega) (by omega) ?_
        refine lv_iconst (v := zI 1) hx hb dX0_induceRising_26 (by first | rfl | decide) ?_
        refine z_isub hx hb dX0_induceRising_27 ?_
        refine lv_istore_n (lv' := [(2, .int (zI ((oq i) - 1))), (0, .ref (a 0)), (1, .int (zI i))]) hx hb dX0_induceRising_28 rfl hl (by decide) rfl (fun ls hl => ?_)
        refine lv_aload_n hx hb dX0_induceRising_29 rfl (lv_at hl 1 rfl) ?_
        refine lv_iload_n hx hb dX0_induceRising_30 rfl (lv_at hl 0 rfl) ?_
        refine z_cr (va_runV (As := [.int (zI ((oq i) - 1))]) (rest := []) ⟨hx, hb, hml, hown, hts⟩ (kX0_isRising l D cI cZ cL a ts lp len sg vc nr rs ((oq i) - 1) (by omega) (by omega) (by omega) (by omega)) (cwV 1 hts gX0_induceRising_X0_isRising rfl rfl rfl (by decide +kernel) ⟨Nat.le_of_ble_eq_true rfl, Nat.le_of_ble_eq_true rfl⟩) (zPr_preV (ci := 0) (q0 := 0) hK (hP.sub (ws' := [(a 0, .inr (0, so a ts lp len sg vc)), (a 4, .inl (cZ, nr, .inl (zA (zB rs))))]) [0, 3] rfl) rfl rfl) rfl rfl hl.1 rfl (lv_room (Nat.le_of_ble_eq_true rfl)) dX0_induceRising_31 ⟨Nat.zero_le _, Nat.zero_le _⟩) (fun r hr_ => ?_)
        subst hr_
        refine z_if_eq (tgt := 42) hx hb dX0_induceRising_34 (by decide) (bi_R _) (fun h_2 => ?_) (fun h_2 => ?_)
        · skip
          refine lv_iinc (v := zI (i + (-1))) (lv' := [(1, .int (zI (i + (-1)))), (2, .int (zI ((oq i) - 1))), (0, .ref (a 0))]) hx hb dX0_induceRising_42 hl (k := 2) rfl (zI_add _ _) (by decide) rfl (fun ls hl => ?_)
          refine lv_goto (tgt := 16) hx hb dX0_induceRising_45 (by decide) ?_
          exact ih16 (i + (-1)) oq nq _ _ ls (by omega) (by omega) (by first | exact stR_t hq h1 (bi_ne (by with_reducible assumption)) | exact stR_f hq h1 (bi_eq (by with_reducible assumption))) (by omega) (hP) (hD) hS (lv_sub hl [2, 0] rfl)
        · skip
          refine lv_aload_n hx hb dX0_induceRising_37 rfl (lv_at hl 1 rfl) ?_
          refine lv_iload_n hx hb dX0_induceRising_38 rfl (lv_at hl 0 rfl) ?_
          refine z_cw (wc := [(a 0, .inr (0, so a ts lp len sg vc)), (lp, .inl (cI, nl, .inl (zA lt))), (a 2, .inl (cI, nO, .inl (zA oq))), (a 10, .inl (cI, nN, .inl (zA nq)))]) (wr := [(a 4, .inl (cZ, nr, .inl (zA (zB rs)))), (a 8, .inl (cI, nF, .inl (zA ff)))]) (Wt := (fun _ : Unit => [(a 0, .inr (0, so a ts lp len sg vc)), (lp, .inl (cI, nl, .inl (zA lt))), (a 2, .inl (cI, nO, .inl (zA (pbO nO nN len lt oq nq ((oq i) - 1))))), (a 4, .inl (cZ, nr, .inl (zA (zB rs)))), (a 8, .inl (cI, nF, .inl (zA ff))), (a 10, .inl (cI, nN, .inl (zA (pbN nN len lt nq ((oq i) - 1)))))])) [0, 1, 2, 5] [3, 4] [2, 3, 4, 0, 1, 5] hP hD hS hA rfl rfl (by decide) (by decide) (by decide) (by decide) (fun _ => rfl) (fun _ => rfl) (fun hPc hDc => va_runV (As := [.int (zI ((oq i) - 1))]) (rest := []) ⟨hx, hb, hml, hown, hts⟩ (kX0_placeBack l D cI cZ cL a ts lp len sg vc nl nO nN lt oq nq ((oq i) - 1) _ (by omega) (by omega) (by omega) (hlt) (hk2) (by omega) (by omega) (by omega)) (cwV 1 hts gX0_induceRising_X0_placeBack rfl rfl rfl (by decide +kernel) ⟨Nat.le_of_ble_eq_true rfl, Nat.le_of_ble_eq_true rfl⟩) (zPw_preV (ci := 0) (q0 := 0) hK hPc hDc rfl rfl) rfl rfl hl.1 rfl (lv_room (Nat.le_of_ble_eq_true rfl)) dX0_induceRising_39 ⟨Nat.zero_le _, Nat.zero_le _⟩) rfl (fun u H locs hp_ hP hD hS => ?_)
          have hP : va_P D vwCl [(a 0, .inr (0, so a ts lp len sg vc)), (lp, .inl (cI, nl, .inl (zA lt))), (a 2, .inl (cI, nO, .inl (zA (pbO nO nN len lt oq nq ((oq i) - 1))))), (a 4, .inl (cZ, nr, .inl (zA (zB rs)))), (a 8, .inl (cI, nF, .inl (zA ff))), (a 10, .inl (cI, nN, .inl (zA (pbN nN len lt nq ((oq i) - 1)))))] H := hP
          have hD : va_D A [(a 0, .inr (0, so a ts lp len sg vc)), (lp, .inl (cI, nl, .inl (zA lt))), (a 2, .inl (cI, nO, .inl (zA (pbO nO nN len lt oq nq ((oq i) - 1))))), (a 4, .inl (cZ, nr, .inl (zA (zB rs)))), (a 8, .inl (cI, nF, .inl (zA ff))), (a 10, .inl (cI, nN, .inl (zA (pbN nN len lt nq ((oq i) - 1)))))] := hD
          refine lv_iinc (v := zI (i + (-1))) (lv' := [(1, .int (zI (i + (-1)))), (2, .int (zI ((oq i) - 1))), (0, .ref (a 0))]) hx hb dX0_induceRising_42 hl (k := 2) rfl (zI_add _ _) (by decide) rfl (fun ls hl => ?_)
          refine lv_goto (tgt := 16) hx hb dX0_induceRising_45 (by decide) ?_
          exact ih16 (i + (-1)) (pbO nO nN len lt oq nq ((oq i) - 1)) (pbN nN len lt nq ((oq i) - 1)) _ _ ls (by omega) (by omega) (by first | exact stR_t hq h1 (bi_ne (by with_reducible assumption)) | exact stR_f hq h1 (bi_eq (by with_reducible assumption))) (by omega) (hP) (hD) hS (lv_sub hl [2, 0] rfl)
  exact loop16 _ (len - 1) od (sbN sg nF ff 1 ns) _ _ ls (by omega) (by omega) (by rw [show len - 1 - (len - 1) = 0 by omega]; rfl) (Nat.lt_succ_self _) hP hD hS (lv_sub hl [1, 0] rfl)
set_option maxHeartbeats 4000000 in
set_option maxRecDepth 100000 in
/-- induceFrom(seeds) -/
theorem kX0_induceFrom (l : Launch) (D : va_G) (cI cZ cL : ClassId) (a : Nat → Nat) (ts : Int) (lp : Nat) (len sg vc : Int) (sp nl nO nr nF nR nN nS : Nat) (lt : Int → Int) (rs : Int → Bool) (ff rf od ns sd : Int → Int) (szz : Nat) (hlen : 0 ≤ len) (hnl : len ≤ (nl : Int)) (bnl : (nl : Int) < 1073741824) (hlr : len ≤ (nr : Int)) (hlO : len ≤ (nO : Int)) (hsg : 0 ≤ sg) (hsn : sg ≤ (nN : Int)) (hvc : 0 ≤ vc ∧ vc ≤ 1000000) (bnO : (nO : Int) < 1073741824) (bnr : (nr : Int) < 1073741824) (bnF : (nF : Int) < 1073741824) (bnR : (nR : Int) < 1073741824) (bnN : (nN : Int) < 1073741824) (bnS : (nS : Int) < 1073741824) (hlt : zS lt) (hff : zS ff) (hsd : zS sd) (hoS : ∀ k, k ≤ vc.toNat → zS (zit (stS nO nN nS len lt sd) k (zfill 0 len (fun _ => -1) od, sbN sg nR rf 0 ns)).2) (hoF : ∀ k, k ≤ len.toNat → zS (zit (stF nO nN len lt rs) k (ifq0 nO nN nF len sg lt ff (inS nO nN nS nR len sg vc lt rf od ns sd).1 (inS nO nN nS nR len sg vc lt rf od ns sd).2)).1 ∧ zS (zit (stF nO nN len lt rs) k (ifq0 nO nN nF len sg lt ff (inS nO nN nS nR len sg vc lt rf od ns sd).1 (inS nO nN nS nR len sg vc lt rf od ns sd).2)).2) (hoR : ∀ k, k ≤ len.toNat → zS (zit (stR nO nN len lt rs) k ((inF nO nN nS nF nR len sg vc lt rs ff rf od ns sd).1, sbN sg nF ff 1 (inF nO nN nS nF nR len sg vc lt rs ff rf od ns sd).2)).1 ∧ zS (zit (stR nO nN len lt rs) k ((inF nO nN nS nF nR len sg vc lt rs ff rf od ns sd).1, sbN sg nF ff 1 (inF nO nN nS nF nR len sg vc lt rs ff rf od ns sd).2)).2) : Met l yX0_induceFrom wsX0_induceFrom ({ frames := 3, cells := 0, slots := 0, locals := 67 }) (zPw D cI cZ cL szz [.ref (a 0), .ref sp] [(a 0, .inr (0, so a ts lp len sg vc)), (lp, .inl (cI, nl, .inl (zA lt))), (a 2, .inl (cI, nO, .inl (zA od))), (a 4, .inl (cZ, nr, .inl (zA (zB rs)))), (a 8, .inl (cI, nF, .inl (zA ff))), (a 9, .inl (cI, nR, .inl (zA rf))), (a 10, .inl (cI, nN, .inl (zA ns))), (sp, .inl (cI, nS, .inl (zA sd)))]) (zQw D (va_A [(a 0, .inr (0, so a ts lp len sg vc)), (lp, .inl (cI, nl, .inl (zA lt))), (a 2, .inl (cI, nO, .inl (zA od))), (a 4, .inl (cZ, nr, .inl (zA (zB rs)))), (a 8, .inl (cI, nF, .inl (zA ff))), (a 9, .inl (cI, nR, .inl (zA rf))), (a 10, .inl (cI, nN, .inl (zA ns))), (sp, .inl (cI, nS, .inl (zA sd)))] szz) (fun _ : Unit => True) (fun _ : Unit => [(a 0, .inr (0, so a ts lp len sg vc)), (lp, .inl (cI, nl, .inl (zA lt))), (a 2, .inl (cI, nO, .inl (zA ((inR nO nN nS nF nR len sg vc lt rs ff rf od ns sd).1)))), (a 4, .inl (cZ, nr, .inl (zA (zB rs)))), (a 8, .inl (cI, nF, .inl (zA ff))), (a 9, .inl (cI, nR, .inl (zA rf))), (a 10, .inl (cI, nN, .inl (zA ((inR nO nN nS nF nR len sg vc lt rs ff rf od ns sd).2)))), (sp, .inl (cI, nS, .inl (zA sd)))])) 0 0 (va_A [(a 0, .inr (0, so a ts lp len sg vc)), (lp, .inl (cI, nl, .inl (zA lt))), (a 2, .inl (cI, nO, .inl (zA od))), (a 4, .inl (cZ, nr, .inl (zA (zB rs)))), (a 8, .inl (cI, nF, .inl (zA ff))), (a 9, .inl (cI, nR, .inl (zA rf))), (a 10, .inl (cI, nN, .inl (zA ns))), (sp, .inl (cI, nS, .inl (zA sd)))] szz) := by
  refine Met.ofW (cc := cX0_induceFrom) (maxL := 3) (ret := none) (by decide) rfl ?_
  intro p e s m args below meth c s₁ B hml hv
  obtain ⟨rfl, hsz, hP, hK, hD0⟩ := hv
  have hx := B.exec
  have hb := B.bytes
  have hr := B.returns
  have hts := atoms_spec (ws := wsX0_induceFrom) B.pre
  have hown : s.vm.findClass RX0 = some m.cls := findClass_of_methodNamed B.named
  have hlocks := B.notSynchronized
  subst hsz
  have hD := hD0.self (sz := s.heap.size)
  generalize hAe : va_A [(a 0, .inr (0, so a ts lp len sg vc)), (lp, .inl (cI, nl, .inl (zA lt))), (a 2, .inl (cI, nO, .inl (zA od))), (a 4, .inl (cZ, nr, .inl (zA (zB rs)))), (a 8, .inl (cI, nF, .inl (zA ff))), (a 9, .inl (cI, nR, .inl (zA rf))), (a 10, .inl (cI, nN, .inl (zA ns))), (sp, .inl (cI, nS, .inl (zA sd)))] s.heap.size = A at hD ⊢
  have hA : ∀ q : Nat, s.heap.size ≤ q → A q := fun q h => by rw [← hAe]; exact Or.inr h
  have hS : va_S A s.heap s.heap [] := va_S.rf
  clear hD0
  have hP : va_P D vwCl [(a 0, .inr (0, so a ts lp len sg vc)), (lp, .inl (cI, nl, .inl (zA lt))), (a 2, .inl (cI, nO, .inl (zA od))), (a 4, .inl (cZ, nr, .inl (zA (zB rs)))), (a 8, .inl (cI, nF, .inl (zA ff))), (a 9, .inl (cI, nR, .inl (zA rf))), (a 10, .inl (cI, nN, .inl (zA ns))), (sp, .inl (cI, nS, .inl (zA sd)))] s.heap := hP
  have hl := lv_entry ([.ref (a 0), .ref sp]) (n := 3) (Nat.le_of_ble_eq_true rfl)
  rw [lg_entry_eq]
  generalize (lg_sl ([.ref (a 0), .ref sp]) ++ List.replicate (3 - (lg_sl ([.ref (a 0), .ref sp])).length) Slot.unset).toArray = ls at hl ⊢
  have hl : lv_has ls 3 [(0, .ref (a 0)), (1, .ref sp)] := hl
  refine lv_iconst (v := zI 0) hx hb dX0_induceFrom_0 (by first | rfl | decide) ?_
  refine lv_istore_n (lv' := [(2, .int (zI 0)), (0, .ref (a 0)), (1, .ref sp)]) hx hb dX0_induceFrom_1 rfl hl (by decide) rfl (fun ls hl => ?_)
  have loop2 : ∀ (nn : Nat) (k : Int) (oA : Int → Int) (H : Heap) (locs : List Loc) (ls : Array Slot), (0 ≤ k) → (k ≤ len) → (oA = zfill 0 k (fun _ => -1) od) → ((len - k).toNat) < nn → va_P D vwCl [(a 0, .inr (0, so a ts lp len sg vc)), (lp, .inl (cI, nl, .inl (zA lt))), (a 2, .inl (cI, nO, .inl (zA oA))), (a 4, .inl (cZ, nr, .inl (zA (zB rs)))), (a 8, .inl (cI, nF, .inl (zA ff))), (a 9, .inl (cI, nR, .inl (zA rf))), (a 10, .inl (cI, nN, .inl (zA ns))), (sp, .inl (cI, nS, .inl (zA sd)))] H → va_D A [(a 0, .inr (0, so a ts lp len sg vc)), (lp, .inl (cI, nl, .inl (zA lt))), (a 2, .inl (cI, nO, .inl (zA oA))), (a 4, .inl (cZ, nr, .inl (zA (zB rs)))), (a 8, .inl (cI, nF, .inl (zA ff))), (a 9, .inl (cI, nR, .inl (zA rf))), (a 10, .inl (cI, nN, .inl (zA ns))), (sp, .inl (cI, nS, .inl (zA sd)))] → va_S A s.heap H locs → lv_has ls 3 [(0, .ref (a 0)), (1, .ref sp), (2, .int (zI k))] → W p l e (headSpec wsX0_induceFrom ({ frames := 3, cells := 0, slots := 0, locals := 67 })).room s m ([.ref (a 0), .ref sp] : List Value).toArray below meth c H locs 0 0 (MQ below (zQw D A (fun _ : Unit => True) (fun _ : Unit => [(a 0, .inr (0, so a ts lp len sg vc)), (lp, .inl (cI, nl, .inl (zA lt))), (a 2, .inl (cI, nO, .inl (zA ((inR nO nN nS nF nR len sg vc lt rs ff rf od ns sd).1)))), (a 4, .inl (cZ, nr, .inl (zA (zB rs)))), (a 8, .inl (cI, nF, .inl (zA ff))), (a 9, .inl (cI, nR, .inl (zA rf))), (a 10, .inl (cI, nN, .inl (zA ((inR nO nN nS nF nR len sg vc lt rs ff rf od ns sd).2)))), (sp, .inl (cI, nS, .inl (zA sd)))])) ([.ref (a 0), .ref sp] : List Value).toArray s 0 0 A) (F0 m 2 ls []) := by
    intro nn
    induction nn with
    | zero =>
      intros
      exact absurd (by assumption : _ < 0) (Nat.not_lt_zero _)
    | succ nn ih2 =>
      intro k oA H locs ls h0 h1 hoA hmu hP hD hS hl
      refine lv_iload_n hx hb dX0_induceFrom_2 rfl (lv_at hl 2 rfl) ?_
      refine lv_aload_n hx hb dX0_induceFrom_3 rfl (lv_at hl 0 rfl) ?_
      refine va_get (D := D) (ci := 0) (v := .int (zI len)) (C := RX0) (T := TX0) (N := 15) hx hb hts inX0_induceFrom_X0 hown hK.1 hP 0 rfl rfl 12 (by decide) (hts (.fieldLink RX0 103 "TextEnds$EndSorter" "length" "I") (List.mem_of_getElem? (i := 1) rfl)) (fun _ h9 => h9) rfl dX0_induceFrom_4 ?_
      refine z_icmp_ge (tgt := 23) hx hb dX0_induceFrom_7 (by decide) (by omega) (by omega) (fun h_1 => ?_) (fun h_1 => ?_)
      · skip
        refine lv_aload_n hx hb dX0_induceFrom_23 rfl (lv_at hl 0 rfl) ?_
        refine lv_aload_n hx hb dX0_induceFrom_24 rfl (lv_at hl 0 rfl) ?_
        refine va_get (D := D) (ci := 0) (v := .ref (a 9)) (C := RX0) (T := TX0) (N := 15) hx hb hts inX0_induceFrom_X0 hown hK.1 hP 0 rfl rfl 8 (by decide) (hts (.fieldLink RX0 61 "TextEnds$EndSorter" "risingFrom" "[I") (List.mem_of_getElem? (i := 3) rfl)) (fun _ h9 => h9) rfl dX0_induceFrom_25 ?_
        refine lv_iconst (v := zI 0) hx hb dX0_induceFrom_28 (by first | rfl | decide) ?_
        refine z_cw (wc := [(a 0, .inr (0, so a ts lp len sg vc)), (a 10, .inl (cI, nN, .inl (zA ns))), (a 9, .inl (cI, nR, .inl (zA rf)))]) (wr := [(lp, .inl (cI, nl, .inl (zA lt))), (a 2, .inl (cI, nO, .inl (zA oA))), (a 4, .inl (cZ, nr, .inl (zA (zB rs)))), (a 8, .inl (cI, nF, .inl (zA ff))), (sp, .inl (cI, nS, .inl (zA sd)))]) (Wt := (fun _ : Unit => [(a 0, .inr (0, so a ts lp len sg vc)), (lp, .inl (cI, nl, .inl (zA lt))), (a 2, .inl (cI, nO, .inl (zA oA))), (a 4, .inl (cZ, nr, .inl (zA (zB rs)))), (a 8, .inl (cI, nF, .inl (zA ff))), (a 9, .inl (cI, nR, .inl (zA rf))), (a 10, .inl (cI, nN, .inl (zA (sbN sg nR rf 0 ns)))), (sp, .inl (cI, nS, .inl (zA sd)))])) [0, 6, 5] [1, 2, 3, 4, 7] [5, 0, 1, 2, 3, 7, 6, 4] hP hD hS hA rfl rfl (by decide) (by decide) (by decide) (by decide) (fun _ => rfl) (fun _ => rfl) (fun hPc hDc => va_runV (As := [.ref (a 9), .int (zI 0)]) (rest := []) ⟨hx, hb, hml, hown, hts⟩ (kX0_startBuckets l D cI cZ cL a ts lp len sg vc (a 9) nR nN rf ns 0 _ (by omega) (by omega) (by omega) (by omega) (by omega)) (cwV 2 hts gX0_induceFrom_X0_startBuckets rfl rfl rfl (by decide +kernel) ⟨Nat.le_of_ble_eq_true rfl, Nat.le_of_ble_eq_true rfl⟩) (zPw_preV (ci := 0) (q0 := 0) hK hPc hDc rfl rfl) rfl rfl hl.1 rfl (lv_room (Nat.le_of_ble_eq_true rfl)) dX0_induceFrom_29 ⟨Nat.zero_le _, Nat.zero_le _⟩) rfl (fun u H locs hp_ hP hD hS => ?_)
        have hP : va_P D vwCl [(a 0, .inr (0, so a ts lp len sg vc)), (lp, .inl (cI, nl, .inl (zA lt))), (a 2, .inl (cI, nO, .inl (zA oA))), (a 4, .inl (cZ, nr, .inl (zA (zB rs)))), (a 8, .inl (cI, nF, .inl (zA ff))), (a 9, .inl (cI, nR, .inl (zA rf))), (a 10, .inl (cI, nN, .inl (zA (sbN sg nR rf 0 ns)))), (sp, .inl (cI, nS, .inl (zA sd)))] H := hP
        have hD : va_D A [(a 0, .inr (0, so a ts lp len sg vc)), (lp, .inl (cI, nl, .inl (zA lt))), (a 2, .inl (cI, nO, .inl (zA oA))), (a 4, .inl (cZ, nr, .inl (zA (zB rs)))), (a 8, .inl (cI, nF, .inl (zA ff))), (a 9, .inl (cI, nR, .inl (zA rf))), (a 10, .inl (cI, nN, .inl (zA (sbN sg nR rf 0 ns)))), (sp, .inl (cI, nS, .inl (zA sd)))] := hD
        refine lv_iconst (v := zI 0) hx hb dX0_induceFrom_32 (by first | rfl | decide) ?_
        refine lv_istore_n (lv' := [(2, .int (zI 0)), (0, .ref (a 0)), (1, .ref sp)]) hx hb dX0_induceFrom_33 rfl hl (by decide) rfl (fun ls hl => ?_)
        have loop34 : ∀ (nn : Nat) (i : Int) (oB : Int → Int) (nB : Int → Int) (H : Heap) (locs : List Loc) (ls : Array Slot), (0 ≤ i) → (i ≤ vc) → ((oB, nB) = zit (stS nO nN nS len lt sd) i.toNat (zfill 0 len (fun _ => -1) od, sbN sg nR rf 0 ns)) → ((vc - i).toNat) < nn → va_P D vwCl [(a 0, .inr (0, so a ts lp len sg vc)), (lp, .inl (cI, nl, .inl (zA lt))), (a 2, .inl (cI, nO, .inl (zA oB))), (a 4, .inl (cZ, nr, .inl (zA (zB rs)))), (a 8, .inl (cI, nF, .inl (zA ff))), (a 9, .inl (cI, nR, .inl (zA rf))), (a 10, .inl (cI, nN, .inl (zA nB))), (sp, .inl (cI, nS, .inl (zA sd)))] H → va_D A [(a 0, .inr (0, so a ts lp len sg vc)), (lp, .inl (cI, nl, .inl (zA lt))), (a 2, .inl (cI, nO, .inl (zA oB))), (a 4, .inl (cZ, nr, .inl (zA (zB rs)))), (a 8, .inl (cI, nF, .inl (zA ff))), (a 9, .inl (cI, nR, .inl (zA rf))), (a 10, .inl (cI, nN, .inl (zA nB))), (sp, .inl (cI, nS, .inl (zA sd)))] → va_S A s.heap H locs → lv_has ls 3 [(0, .ref (a 0)), (1, .ref sp), (2, .int (zI i))] → W p l e (headSpec wsX0_induceFrom ({ frames := 3, cells := 0, slots := 0, locals := 67 })).room s m ([.ref (a 0), .ref sp] : List Value).toArray below meth c H locs 0 0 (MQ below (zQw D A (fun _ : Unit => True) (fun _ : Unit => [(a 0, .inr (0, so a ts lp len sg vc)), (lp, .inl (cI, nl, .inl (zA lt))), (a 2, .inl (cI, nO, .inl (zA ((inR nO nN nS nF nR len sg vc lt rs ff rf od ns sd).1)))), (a 4, .inl (cZ, nr, .inl (zA (zB rs)))), (a 8, .inl (cI, nF, .inl (zA ff))), (a 9, .inl (cI, nR, .inl (zA rf))), (a 10, .inl (cI, nN, .inl (zA ((inR nO nN nS nF nR len sg vc lt rs ff rf od ns sd).2)))), (sp, .inl (cI, nS, .inl (zA sd)))])) ([.ref (a 0), .ref sp] : List Value).toArray s 0 0 A) (F0 m 34 ls []) := by
          intro nn
          induction nn with
          | zero =>
            intros
            exact absurd (by assumption : _ < 0) (Nat.not_lt_zero _)
          | succ nn ih34 =>
            intro i oB nB H locs ls g0 g1 hqS hmu hP hD hS hl
            refine lv_iload_n hx hb dX0_induceFrom_34 rfl (lv_at hl 2 rfl) ?_
            refine lv_aload_n hx hb dX0_induceFrom_35 rfl (lv_at hl 0 rfl) ?_
            refine va_get (D := D) (ci := 0) (v := .int (zI vc)) (C := RX0) (T := TX0) (N := 15) hx hb hts inX0_induceFrom_X0 hown hK.1 hP 0 rfl rfl 14 (by decide) (hts (.fieldLink RX0 97 "TextEnds$EndSorter" "valleyCount" "I") (List.mem_of_getElem? (i := 4) rfl)) (fun _ h9 => h9) rfl dX0_induceFrom_36 ?_
            refine z_icmp_ge (tgt := 57) hx hb dX0_induceFrom_39 (by decide) (by omega) (by omega) (fun h_2 => ?_) (fun h_2 => ?_)
            · skip
              rw [show i = vc by omega] at hqS
              have hk := hoS vc.toNat (Nat.le_refl _)
              rw [← hqS] at hk
              have hk2 : zS nB := hk
              have hwe : oB = ((inS nO nN nS nR len sg vc lt rf od ns sd).1) := congrArg (fun z => z.1) hqS
              rw [hwe] at hP hD
              clear hwe
              have hwe : nB = ((inS nO nN nS nR len sg vc lt rf od ns sd).2) := congrArg (fun z => z.2) hqS
              rw [hwe] at hP hD
              clear hwe
              refine lv_aload_n hx hb dX0_induceFrom_57 rfl (lv_at hl 0 rfl) ?_
              refine z_cw (wc := [(a 0, .inr (0, so a ts lp len sg vc)), (lp, .inl (cI, nl, .inl (zA lt))), (a 2, .inl (cI, nO, .inl (zA ((inS nO nN nS nR len sg vc lt rf od ns sd).1)))), (a 4, .inl (cZ, nr, .inl (zA (zB rs)))), (a 8, .inl (cI, nF, .inl (zA ff))), (a 10, .inl (cI, nN, .inl (zA ((inS nO nN nS nR len sg vc lt rf od ns sd).2))))]) (wr := [(a 9, .inl (cI, nR, .inl (zA rf))), (sp, .inl (cI, nS, .inl (zA sd)))]) (Wt := (fun _ : Unit => [(a 0, .inr (0, so a ts lp len sg vc)), (lp, .inl (cI, nl, .inl (zA lt))), (a 2, .inl (cI, nO, .inl (zA ((zit (stF nO nN len lt rs) len.toNat (ifq0 nO nN nF len sg lt ff ((inS nO nN nS nR len sg vc lt rf od ns sd).1) ((inS nO nN nS nR len sg vc lt rf od ns sd).2))).1)))), (a 4, .inl (cZ, nr, .inl (zA (zB rs)))), (a 8, .inl (cI, nF, .inl (zA ff))), (a 9, .inl (cI, nR, .inl (zA rf))), (a 10, .inl (cI, nN, .inl (zA ((zit (stF nO nN len lt rs) len.toNat (ifq0 nO nN nF len sg lt ff ((inS nO nN nS nR len sg vc lt rf od ns sd).1) ((inS nO nN nS nR len sg vc lt rf od ns sd).2))).2)))), (sp, .inl (cI, nS, .inl (zA sd)))])) [0, 1, 2, 3, 4, 6] [5, 7] [2, 3, 4, 5, 6, 0, 7, 1] hP hD hS hA rfl rfl (by decide) (by decide) (by decide) (by decide) (fun _ => rfl) (fun _ => rfl) (fun hPc hDc => va_runV (As := []) (rest := []) ⟨hx, hb, hml, hown, hts⟩ (kX0_induceFalling l D cI cZ cL a ts lp len sg vc nl nO nr nF nN lt rs ff ((inS nO nN nS nR len sg vc lt rf od ns sd).1) ((inS nO nN nS nR len sg vc lt rf od ns sd).2) _ (by omega) (by omega) (by omega) (by omega) (by omega) (by omega) (by omega) (by omega) (by omega) (by omega) (by omega) (hlt) (hff) (by rw [show (inS nO nN nS nR len sg vc lt rf od ns sd).2 = nB from (congrArg (fun z => z.2) hqS).symm]; exact hk2) (hoF)) (cwV 0 hts gX0_induceFrom_X0_induceFalling rfl rfl rfl (by decide +kernel) ⟨Nat.le_of_ble_eq_true rfl, Nat.le_of_ble_eq_true rfl⟩) (zPw_preV (ci := 0) (q0 := 0) hK hPc hDc rfl rfl) rfl rfl hl.1 rfl (lv_room (Nat.le_of_ble_eq_true rfl)) dX0_induceFrom_58 ⟨Nat.zero_le _, Nat.zero_le _⟩) rfl (fun u H locs hp_ hP hD hS => ?_)
              have hP : va_P D vwCl [(a 0, .inr (0, so a ts lp len sg vc)), (lp, .inl (cI, nl, .inl (zA lt))), (a 2, .inl (cI, nO, .inl (zA ((zit (stF nO nN len lt rs) len.toNat (ifq0 nO nN nF len sg lt ff ((inS nO nN nS nR len sg vc lt rf od ns sd).1) ((inS nO nN nS nR len sg vc lt rf od ns sd).2))).1)))), (a 4, .inl (cZ, nr, .inl (zA (zB rs)))), (a 8, .inl (cI, nF, .inl (zA ff))), (a 9, .inl (cI, nR, .inl (zA rf))), (a 10, .inl (cI, nN, .inl (zA ((zit (stF nO nN len lt rs) len.toNat (ifq0 nO nN nF len sg lt ff ((inS nO nN nS nR len sg vc lt rf od ns sd).1) ((inS nO nN nS nR len sg vc lt rf od ns sd).2))).2)))), (sp, .inl (cI, nS, .inl (zA sd)))] H := hP
              have hD : va_D A [(a 0, .inr (0, so a ts lp len sg vc)), (lp, .inl (cI, nl, .inl (zA lt))), (a 2, .inl (cI, nO, .inl (zA ((zit (stF nO nN len lt rs) len.toNat (ifq0 nO nN nF len sg lt ff ((inS nO nN nS nR len sg vc lt rf od ns sd).1) ((inS nO nN nS nR len sg vc lt rf od ns sd).2))).1)))), (a 4, .inl (cZ, nr, .inl (zA (zB rs)))), (a 8, .inl (cI, nF, .inl (zA ff))), (a 9, .inl (cI, nR, .inl (zA rf))), (a 10, .inl (cI, nN, .inl (zA ((zit (stF nO nN len lt rs) len.toNat (ifq0 nO nN nF len sg lt ff ((inS nO nN nS nR len sg vc lt rf od ns sd).1) ((inS nO nN nS nR len sg vc lt rf od ns sd).2))).2)))), (sp, .inl (cI, nS, .inl (zA sd)))] := hD
              have hwe : ((zit (stF nO nN len lt rs) len.toNat (ifq0 nO nN nF len sg lt ff ((inS nO nN nS nR len sg vc lt rf od ns sd).1) ((inS nO nN nS nR len sg vc lt rf od ns sd).2))).1) = ((inF nO nN nS nF nR len sg vc lt rs ff rf od ns sd).1) := rfl
              rw [hwe] at hP hD
              clear hwe
              have hwe : ((zit (stF nO nN len lt rs) len.toNat (ifq0 nO nN nF len sg lt ff ((inS nO nN nS nR len sg vc lt rf od ns sd).1) ((inS nO nN nS nR len sg vc lt rf od ns sd).2))).2) = ((inF nO nN nS nF nR len sg vc lt rs ff rf od ns sd).2) := rfl
              rw [hwe] at hP hD
              clear hwe
              refine lv_aload_n hx hb dX0_induceFrom_61 rfl (lv_at hl 0 rfl) ?_
              refine z_cw (wc := [(a 0, .inr (0, so a ts lp len sg vc)), (lp, .inl (cI, nl, .inl (zA lt))), (a 2, .inl (cI, nO, .inl (zA ((inF nO nN nS nF nR len sg vc lt rs ff rf od ns sd).1)))), (a 4, .inl (cZ, nr, .inl (zA (zB rs)))), (a 8, .inl (cI, nF, .inl (zA ff))), (a 10, .inl (cI, nN, .inl (zA ((inF nO nN nS nF nR len sg vc lt rs ff rf od ns sd).2))))]) (wr := [(a 9, .inl (cI, nR, .inl (zA rf))), (sp, .inl (cI, nS, .inl (zA sd)))]) (Wt := (fun _ : Unit => [(a 0, .inr (0, so a ts lp len sg vc)), (lp, .inl (cI, nl, .inl (zA lt))), (a 2, .inl (cI, nO, .inl (zA ((zit (stR nO nN len lt rs) len.toNat (((inF nO nN nS nF nR len sg vc lt rs ff rf od ns sd).1), sbN sg nF ff 1 ((inF nO nN nS nF nR len sg vc lt rs ff rf od ns sd).2))).1)))), (a 4, .inl (cZ, nr, .inl (zA (zB rs)))), (a 8, .inl (cI, nF, .inl (zA ff))), (a 9, .inl (cI, nR, .inl (zA rf))), (a 10, .inl (cI, nN, .inl (zA ((zit (stR nO nN len lt rs) len.toNat (((inF nO nN nS nF nR len sg vc lt rs ff rf od ns sd).1), sbN sg nF ff 1 ((inF nO nN nS nF nR len sg vc lt rs ff rf od ns sd).2))).2)))), (sp, .inl (cI, nS, .inl (zA sd)))])) [0, 1, 2, 3, 4, 6] [5, 7] [2, 3, 4, 5, 6, 0, 7, 1] hP hD hS hA rfl rfl (by decide) (by decide) (by decide) (by decide) (fun _ => rfl) (fun _ => rfl) (fun hPc hDc => va_runV (As := []) (rest := []) ⟨hx, hb, hml, hown, hts⟩ (kX0_induceRising l D cI cZ cL a ts lp len sg vc nl nO nr nF nN lt rs ff ((inF nO nN nS nF nR len sg vc lt rs ff rf od ns sd).1) ((inF nO nN nS nF nR len sg vc lt rs ff rf od ns sd).2) _ (by omega) (by omega) (by omega) (by omega) (by omega) (by omega) (by omega) (by omega) (by omega) (by omega) (by omega) (hlt) (hoR)) (cwV 0 hts gX0_induceFrom_X0_induceRising rfl rfl rfl (by decide +kernel) ⟨Nat.le_of_ble_eq_true rfl, Nat.le_of_ble_eq_true rfl⟩) (zPw_preV (ci := 0) (q0 := 0) hK hPc hDc rfl rfl) rfl rfl hl.1 rfl (lv_room (Nat.le_of_ble_eq_true rfl)) dX0_induceFrom_62 ⟨Nat.zero_le _, Nat.zero_le _⟩) rfl (fun u H locs hp_ hP hD hS => ?_)
              have hP : va_P D vwCl [(a 0, .inr (0, so a ts lp len sg vc)), (lp, .inl (cI, nl, .inl (zA lt))), (a 2, .inl (cI, nO, .inl (zA ((zit (stR nO nN len lt rs) len.toNat (((inF nO nN nS nF nR len sg vc lt rs ff rf od ns sd).1), sbN sg nF ff 1 ((inF nO nN nS nF nR len sg vc lt rs ff rf od ns sd).2))).1)))), (a 4, .inl (cZ, nr, .inl (zA (zB rs)))), (a 8, .inl (cI, nF, .inl (zA ff))), (a 9, .inl (cI, nR, .inl (zA rf))), (a 10, .inl (cI, nN, .inl (zA ((zit (stR nO nN len lt rs) len.toNat (((inF nO nN nS nF nR len sg vc lt rs ff rf od ns sd).1), sbN sg nF ff 1 ((inF nO nN nS nF nR len sg vc lt rs ff rf od ns sd).2))).2)))), (sp, .inl (cI, nS, .inl (zA sd)))] H := hP
              have hD : va_D A [(a 0, .inr (0, so a ts lp len sg vc)), (lp, .inl (cI, nl, .inl (zA lt))), (a 2, .inl (cI, nO, .inl (zA ((zit (stR nO nN len lt rs) len.toNat (((inF nO nN nS nF nR len sg vc lt rs ff rf od ns sd).1), sbN sg nF ff 1 ((inF nO nN nS nF nR len sg vc lt rs ff rf od ns sd).2))).1)))), (a 4, .inl (cZ, nr, .inl (zA (zB rs)))), (a 8, .inl (cI, nF, .inl (zA ff))), (a 9, .inl (cI, nR, .inl (zA rf))), (a 10, .inl (cI, nN, .inl (zA ((zit (stR nO nN len lt rs) len.toNat (((inF nO nN nS nF nR len sg vc lt rs ff rf od ns sd).1), sbN sg nF ff 1 ((inF nO nN nS nF nR len sg vc lt rs ff rf od ns sd).2))).2)))), (sp, .inl (cI, nS, .inl (zA sd)))] := hD
              have hwe : ((zit (stR nO nN len lt rs) len.toNat (((inF nO nN nS nF nR len sg vc lt rs ff rf od ns sd).1), sbN sg nF ff 1 ((inF nO nN nS nF nR len sg vc lt rs ff rf od ns sd).2))).1) = ((inR nO nN nS nF nR len sg vc lt rs ff rf od ns sd).1) := rfl
              rw [hwe] at hP hD
              clear hwe
              have hwe : ((zit (stR nO nN len lt rs) len.toNat (((inF nO nN nS nF nR len sg vc lt rs ff rf od ns sd).1), sbN sg nF ff 1 ((inF nO nN nS nF nR len sg vc lt rs ff rf od ns sd).2))).2) = ((inR nO nN nS nF nR len sg vc lt rs ff rf od ns sd).2) := rfl
              rw [hwe] at hP hD
              clear hwe
              exact W.vret hx hb hr (fun t ht_ hW_ => ⟨⟨(), rfl, trivial, by rw [ht_]; exact hP, hD⟩, hS.F ht_⟩) hS.2.2 dX0_induceFrom_65
            · skip
              have hk := hoS i.toNat (by omega)
              rw [← hqS] at hk
              have hk2 : zS nB := hk
              have hk3 := zat_S hsd nS i
              refine lv_aload_n hx hb dX0_induceFrom_42 rfl (lv_at hl 0 rfl) ?_
              refine lv_aload_n hx hb dX0_induceFrom_43 rfl (lv_at hl 1 rfl) ?_
              refine lv_iload_n hx hb dX0_induceFrom_44 rfl (lv_at hl 2 rfl) ?_
              refine z_cr (va_runSN (As := [.ref sp, .int (zI i)]) (rest := [.ref (a 0)]) ⟨hx, hb, hml, hown, hts⟩ (kX2_at l D cI cZ cL sp nS sd i (by omega) (by omega)) ⟨va_cnB 2 hts gX0_induceFrom_X2_at_n131 rfl rfl rfl hK.2.2 (hts (.initialized RX2) (List.mem_of_getElem? (i := 13) rfl)) (by decide +kernel) ⟨Nat.le_of_ble_eq_true rfl, Nat.le_of_ble_eq_true rfl⟩, hts (.static yX2_at) (List.mem_of_getElem? (i := 12) rfl), trivial⟩ (zPr_pre hK (hP.sub (ws' := [(sp, .inl (cI, nS, .inl (zA sd)))]) [7] rfl)) rfl rfl hl.1 rfl (lv_room (Nat.le_of_ble_eq_true rfl)) dX0_induceFrom_45 ⟨Nat.zero_le _, Nat.zero_le _⟩) (fun r hr_ => ?_)
              subst hr_
              refine z_cw (wc := [(a 0, .inr (0, so a ts lp len sg vc)), (lp, .inl (cI, nl, .inl (zA lt))), (a 2, .inl (cI, nO, .inl (zA oB))), (a 10, .inl (cI, nN, .inl (zA nB)))]) (wr := [(a 4, .inl (cZ, nr, .inl (zA (zB rs)))), (a 8, .inl (cI, nF, .inl (zA ff))), (a 9, .inl (cI, nR, .inl (zA rf))), (sp, .inl (cI, nS, .inl (zA sd)))]) (Wt := (fun _ : Unit => [(a 0, .inr (0, so a ts lp len sg vc)), (lp, .inl (cI, nl, .inl (zA lt))), (a 2, .inl (cI, nO, .inl (zA (pfO nO nN len lt oB nB (zat nS sd i))))), (a 4, .inl (cZ, nr, .inl (zA (zB rs)))), (a 8, .inl (cI, nF, .inl (zA ff))), (a 9, .inl (cI, nR, .inl (zA rf))), (a 10, .inl (cI, nN, .inl (zA (pfN nN len lt nB (zat nS sd i))))), (sp, .inl (cI, nS, .inl (zA sd)))])) [0, 1, 2, 6] [3, 4, 5, 7] [4, 5, 6, 0, 1, 2, 7, 3] hP hD hS hA rfl rfl (by decide) (by decide) (by decide) (by decide) (fun _ => rfl) (fun _ => rfl) (fun hPc hDc => va_runV (As := [.int (zI (zat nS sd i))]) (rest := []) ⟨hx, hb, hml, hown, hts⟩ (kX0_placeFront l D cI cZ cL a ts lp len sg vc nl nO nN lt oB nB (zat nS sd i) _ (by omega) (by omega) (by omega) (hlt) (hk2) (by omega) (by omega) (by omega)) (cwV 1 hts gX0_induceFrom_X0_placeFront rfl rfl rfl (by decide +kernel) ⟨Nat.le_of_ble_eq_true rfl, Nat.le_of_ble_eq_true rfl⟩) (zPw_preV (ci := 0) (q0 := 0) hK hPc hDc rfl rfl) rfl rfl hl.1 rfl (lv_room (Nat.le_of_ble_eq_true rfl)) dX0_induceFrom_48 ⟨Nat.zero_le _, Nat.zero_le _⟩) rfl (fun u H locs hp_ hP hD hS => ?_)
              have hP : va_P D vwCl [(a 0, .inr (0, so a ts lp len sg vc)), (lp, .inl (cI, nl, .inl (zA lt))), (a 2, .inl (cI, nO, .inl (zA (pfO nO nN len lt oB nB (zat nS sd i))))), (a 4, .inl (cZ, nr, .inl (zA (zB rs)))), (a 8, .inl (cI, nF, .inl (zA ff))), (a 9, .inl (cI, nR, .inl (zA rf))), (a 10, .inl (cI, nN, .inl (zA (pfN nN len lt nB (zat nS sd i))))), (sp, .inl (cI, nS, .inl (zA sd)))] H := hP
              have hD : va_D A [(a 0, .inr (0, so a ts lp len sg vc)), (lp, .inl (cI, nl, .inl (zA lt))), (a 2, .inl (cI, nO, .inl (zA (pfO nO nN len lt oB nB (zat nS sd i))))), (a 4, .inl (cZ, nr, .inl (zA (zB rs)))), (a 8, .inl (cI, nF, .inl (zA ff))), (a 9, .inl (cI, nR, .inl (zA rf))), (a 10, .inl (cI, nN, .inl (zA (pfN nN len lt nB (zat nS sd i))))), (sp, .inl (cI, nS, .inl (zA sd)))] := hD
              refine lv_iinc (v := zI (i + 1)) (lv' := [(2, .int (zI (i + 1))), (0, .ref (a 0)), (1, .ref sp)]) hx hb dX0_induceFrom_51 hl (k := 2) rfl (zI_add _ _) (by decide) rfl (fun ls hl => ?_)
              refine lv_goto (tgt := 34) hx hb dX0_induceFrom_54 (by decide) ?_
              exact ih34 (i + 1) (pfO nO nN len lt oB nB (zat nS sd i)) (pfN nN len lt nB (zat nS sd i)) _ _ ls (by omega) (by omega) (stS_s hqS g0) (by omega) (hP) (hD) hS (lv_sub hl [1, 2, 0] rfl)
        exact loop34 _ 0 oA (sbN sg nR rf 0 ns) _ _ ls (by omega) (by omega) (by rw [hoA, show k = len by omega]; rfl) (Nat.lt_succ_self _) hP hD hS (lv_sub hl [1, 2, 0] rfl)
      · skip
        refine lv_aload_n hx hb dX0_induceFrom_10 rfl (lv_at hl 0 rfl) ?_
        refine va_get (D := D) (ci := 0) (v := .ref (a 2)) (C := RX0) (T := TX0) (N := 15) hx hb hts inX0_induceFrom_X0 hown hK.1 hP 0 rfl rfl 1 (by decide) (hts (.fieldLink RX0 42 "TextEnds$EndSorter" "order" "[I") (List.mem_of_getElem? (i := 2) rfl)) (fun _ h9 => h9) rfl dX0_induceFrom_11 ?_
        refine lv_iload_n hx hb dX0_induceFrom_14 rfl (lv_at hl 2 rfl) ?_
        refine lv_iconst (v := zI (-1)) hx hb dX0_induceFrom_15 (by first | rfl | decide) ?_
        refine z_iast hx hb hK.1 hP hD hS 2 0 rfl rfl dX0_induceFrom_16 (by omega) (by omega) (by omega) (fun H locs hP hD hS => ?_)
        have hP : va_P D vwCl [(a 0, .inr (0, so a ts lp len sg vc)), (lp, .inl (cI, nl, .inl (zA lt))), (a 2, .inl (cI, nO, .inl (zA (zup oA k (-1))))), (a 4, .inl (cZ, nr, .inl (zA (zB rs)))), (a 8, .inl (cI, nF, .inl (zA ff))), (a 9, .inl (cI, nR, .inl (zA rf))), (a 10, .inl (cI, nN, .inl (zA ns))), (sp, .inl (cI, nS, .inl (zA sd)))] H := hP
        have hD : va_D A [(a 0, .inr (0, so a ts lp len sg vc)), (lp, .inl (cI, nl, .inl (zA lt))), (a 2, .inl (cI, nO, .inl (zA (zup oA k (-1))))), (a 4, .inl (cZ, nr, .inl (zA (zB rs)))), (a 8, .inl (cI, nF, .inl (zA ff))), (a 9, .inl (cI, nR, .inl (zA rf))), (a 10, .inl (cI, nN, .inl (zA ns))), (sp, .inl (cI, nS, .inl (zA sd)))] := hD
        refine lv_iinc (v := zI (k + 1)) (lv' := [(2, .int (zI (k + 1))), (0, .ref (a 0)), (1, .ref sp)]) hx hb dX0_induceFrom_17 hl (k := 2) rfl (zI_add _ _) (by decide) rfl (fun ls hl => ?_)
        refine lv_goto (tgt := 2) hx hb dX0_induceFrom_20 (by decide) ?_
        exact ih2 (k + 1) (zup oA k (-1)) _ _ ls (by omega) (by omega) (by rw [hoA]; exact zfill_up (f := fun _ => -1) h0) (by omega) (hP) (hD) hS (lv_sub hl [1, 2, 0] rfl)
  exact loop2 _ 0 od _ _ ls (by omega) (by omega) (zfill_0 _ _ _) (Nat.lt_succ_self _) hP hD hS (lv_sub hl [1, 2, 0] rfl)
