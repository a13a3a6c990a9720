set_option maxRecDepth 20000 in
theorem inX0_letterAt_X0 : ∀ w ∈ wsX00, w ∈ wsX0_letterAt := by decide +kernel
set_option maxRecDepth 20000 in
theorem inX0_isRising_X0 : ∀ w ∈ wsX00, w ∈ wsX0_isRising := by decide +kernel
set_option maxRecDepth 20000 in
theorem inX0_isFalling_X0 : ∀ w ∈ wsX00, w ∈ wsX0_isFalling := by decide +kernel
set_option maxHeartbeats 4000000 in
set_option maxRecDepth 100000 in
/-- at(row, i) -/
theorem kX2_at (l : Launch) (D : va_G) (cI cZ cL : ClassId) (h n : Nat) (g : Int → Int) (i : Int) (hn : (n : Int) < 2147483648) (hi : zR i) : Met l yX2_at wsX2_at ({ frames := 0, cells := 0, slots := 0, locals := 0 }) (zPr D cI cZ cL [.ref h, .int (zI i)] [(h, .inl (cI, n, .inl (zA g)))]) (zQi (fun r => r = zat n g i)) 0 0 (fun _ => False) := by
  refine Met.ofW (cc := cX2_at) (maxL := 2) (ret := (some .int)) (by decide) rfl ?_
  intro p e s m args below meth c s₁ B hml hv
  obtain ⟨rfl, hP, hK⟩ := hv
  have hx := B.exec
  have hb := B.bytes
  have hr := B.returns
  have hts := atoms_spec (ws := wsX2_at) B.pre
  have hown : s.vm.findClass RX2 = some m.cls := findClass_of_methodNamed B.named
  have hlocks := B.notSynchronized
  have hP : va_P D vwCl [(h, .inl (cI, n, .inl (zA g)))] s.heap := hP
  have hl := lv_entry ([.ref h, .int (zI i)]) (n := 2) (Nat.le_of_ble_eq_true rfl)
  rw [lg_entry_eq]
  generalize (lg_sl ([.ref h, .int (zI i)]) ++ List.replicate (2 - (lg_sl ([.ref h, .int (zI i)])).length) Slot.unset).toArray = ls at hl ⊢
  have hl : lv_has ls 2 [(0, .ref h), (1, .int (zI i))] := hl
  refine lv_iload_n hx hb dX2_at_0 rfl (lv_at hl 1 rfl) ?_
  refine z_if_lt (tgt := 16) hx hb dX2_at_1 (by decide) (by omega) (fun h_1 => ?_) (fun h_1 => ?_)
  · skip
    refine lv_iconst (v := zI (-1)) hx hb dX2_at_16 (by first | rfl | decide) ?_
    exact W.iret (v := zI (-1)) hx hb hr (fun t ht_ hW_ => ⟨(-1), rfl, by first | (rw [zat_in (by omega) (by omega)]) | (rw [zat_out (by omega)]), ht_⟩) (fun q h => by cases h) dX2_at_17
  · skip
    refine lv_iload_n hx hb dX2_at_4 rfl (lv_at hl 1 rfl) ?_
    refine lv_aload_n hx hb dX2_at_5 rfl (lv_at hl 0 rfl) ?_
    refine z_alen hx hb hK.1 hP 0 0 rfl rfl dX2_at_6 ?_
    refine z_icmp_ge (tgt := 16) hx hb dX2_at_7 (by decide) (by omega) (by omega) (fun h_2 => ?_) (fun h_2 => ?_)
    · skip
      refine lv_iconst (v := zI (-1)) hx hb dX2_at_16 (by first | rfl | decide) ?_
      exact W.iret (v := zI (-1)) hx hb hr (fun t ht_ hW_ => ⟨(-1), rfl, by first | (rw [zat_in (by omega) (by omega)]) | (rw [zat_out (by omega)]), ht_⟩) (fun q h => by cases h) dX2_at_17
    · skip
      refine lv_aload_n hx hb dX2_at_10 rfl (lv_at hl 0 rfl) ?_
      refine lv_iload_n hx hb dX2_at_11 rfl (lv_at hl 1 rfl) ?_
      refine z_iald hx hb hK.1 hP 0 0 rfl rfl dX2_at_12 (by omega) (by omega) (by omega) ?_
      refine lv_goto (tgt := 17) hx hb dX2_at_13 (by decide) ?_
      exact W.iret (v := zI (g i)) hx hb hr (fun t ht_ hW_ => ⟨g i, rfl, by first | (rw [zat_in (by omega) (by omega)]) | (rw [zat_out (by omega)]), ht_⟩) (fun q h => by cases h) dX2_at_17
set_option maxHeartbeats 4000000 in
set_option maxRecDepth 100000 in
/-- put(row, i, x) -/
theorem kX2_put (l : Launch) (D : va_G) (cI cZ cL : ClassId) (h n : Nat) (g : Int → Int) (i x : Int) (szz : Nat) (hn : (n : Int) < 2147483648) (hi : zR i) : Met l yX2_put wsX2_put ({ frames := 0, cells := 0, slots := 0, locals := 0 }) (zPw D cI cZ cL szz [.ref h, .int (zI i), .int (zI x)] [(h, .inl (cI, n, .inl (zA g)))]) (zQw D (va_A [(h, .inl (cI, n, .inl (zA g)))] szz) (fun _ : Unit => True) (fun _ : Unit => [(h, .inl (cI, n, .inl (zA (zput n g i x))))])) 0 0 (va_A [(h, .inl (cI, n, .inl (zA g)))] szz) := by
  refine Met.ofW (cc := cX2_put) (maxL := 3) (ret := none) (by decide) rfl ?_
  intro p e s m args below meth c s₁ B hml hv
  obtain ⟨rfl, hsz, hP, hK, hD0⟩ := hv
  have hx := B.exec
  have hb := B.bytes
  have hr := B.returns
  have hts := atoms_spec (ws := wsX2_put) B.pre
  have hown : s.vm.findClass RX2 = some m.cls := findClass_of_methodNamed B.named
  have hlocks := B.notSynchronized
  subst hsz
  have hD := hD0.self (sz := s.heap.size)
  generalize hAe : va_A [(h, .inl (cI, n, .inl (zA g)))] s.heap.size = A at hD ⊢
  have hA : ∀ q : Nat, s.heap.size ≤ q → A q := fun q h => by rw [← hAe]; exact Or.inr h
  have hS : va_S A s.heap s.heap [] := va_S.rf
  clear hD0
  have hP : va_P D vwCl [(h, .inl (cI, n, .inl (zA g)))] s.heap := hP
  have hl := lv_entry ([.ref h, .int (zI i), .int (zI x)]) (n := 3) (Nat.le_of_ble_eq_true rfl)
  rw [lg_entry_eq]
  generalize (lg_sl ([.ref h, .int (zI i), .int (zI x)]) ++ List.replicate (3 - (lg_sl ([.ref h, .int (zI i), .int (zI x)])).length) Slot.unset).toArray = ls at hl ⊢
  have hl : lv_has ls 3 [(0, .ref h), (1, .int (zI i)), (2, .int (zI x))] := hl
  refine lv_iload_n hx hb dX2_put_0 rfl (lv_at hl 1 rfl) ?_
  refine z_if_lt (tgt := 14) hx hb dX2_put_1 (by decide) (by omega) (fun h_1 => ?_) (fun h_1 => ?_)
  · skip
    have hwe : g = (zput n g i x) := by first | (rw [zput_in (by omega) (by omega)]) | (rw [zput_out (by omega)])
    rw [hwe] at hP hD
    clear hwe
    exact W.vret hx hb hr (fun t ht_ hW_ => ⟨⟨(), rfl, trivial, by rw [ht_]; exact hP, hD⟩, hS.F ht_⟩) hS.2.2 dX2_put_14
  · skip
    refine lv_iload_n hx hb dX2_put_4 rfl (lv_at hl 1 rfl) ?_
    refine lv_aload_n hx hb dX2_put_5 rfl (lv_at hl 0 rfl) ?_
    refine z_alen hx hb hK.1 hP 0 0 rfl rfl dX2_put_6 ?_
    refine z_icmp_ge (tgt := 14) hx hb dX2_put_7 (by decide) (by omega) (by omega) (fun h_2 => ?_) (fun h_2 => ?_)
    · skip
      have hwe : g = (zput n g i x) := by first | (rw [zput_in (by omega) (by omega)]) | (rw [zput_out (by omega)])
      rw [hwe] at hP hD
      clear hwe
      exact W.vret hx hb hr (fun t ht_ hW_ => ⟨⟨(), rfl, trivial, by rw [ht_]; exact hP, hD⟩, hS.F ht_⟩) hS.2.2 dX2_put_14
    · skip
      refine lv_aload_n hx hb dX2_put_10 rfl (lv_at hl 0 rfl) ?_
      refine lv_iload_n hx hb dX2_put_11 rfl (lv_at hl 1 rfl) ?_
      refine lv_iload_n hx hb dX2_put_12 rfl (lv_at hl 2 rfl) ?_
      refine z_iast hx hb hK.1 hP hD hS 0 0 rfl rfl dX2_put_13 (by omega) (by omega) (by omega) (fun H locs hP hD hS => ?_)
      have hP : va_P D vwCl [(h, .inl (cI, n, .inl (zA (zup g i x))))] H := hP
      have hD : va_D A [(h, .inl (cI, n, .inl (zA (zup g i x))))] := hD
      have hwe : (zup g i x) = (zput n g i x) := by first | (rw [zput_in (by omega) (by omega)]) | (rw [zput_out (by omega)])
      rw [hwe] at hP hD
      clear hwe
      exact W.vret hx hb hr (fun t ht_ hW_ => ⟨⟨(), rfl, trivial, by rw [ht_]; exact hP, hD⟩, hS.F ht_⟩) hS.2.2 dX2_put_14
set_option maxHeartbeats 4000000 in
set_option maxRecDepth 100000 in
/-- letterAt(place) -/
theorem kX0_letterAt (l : Launch) (D : va_G) (cI cZ cL : ClassId) (a : Nat → Nat) (ts : Int) (lp : Nat) (len sg vc : Int) (nl : Nat) (lt : Int → Int) (i : Int) (hlen : 0 ≤ len) (hnl : len ≤ (nl : Int)) (hnb : (nl : Int) < 1073741824) (hi : zR i) : Met l yX0_letterAt wsX0_letterAt ({ frames := 0, cells := 0, slots := 0, locals := 0 }) (zPr D cI cZ cL [.ref (a 0), .int (zI i)] [(a 0, .inr (0, so a ts lp len sg vc)), (lp, .inl (cI, nl, .inl (zA lt)))]) (zQi (fun r => r = zla len lt i)) 0 0 (fun _ => False) := by
  refine Met.ofW (cc := cX0_letterAt) (maxL := 2) (ret := (some .int)) (by decide) rfl ?_
  intro p e s m args below meth c s₁ B hml hv
  obtain ⟨rfl, hP, hK⟩ := hv
  have hx := B.exec
  have hb := B.bytes
  have hr := B.returns
  have hts := atoms_spec (ws := wsX0_letterAt) B.pre
  have hown : s.vm.findClass RX0 = some m.cls := findClass_of_methodNamed B.named
  have hlocks := B.notSynchronized
  have hP : va_P D vwCl [(a 0, .inr (0, so a ts lp len sg vc)), (lp, .inl (cI, nl, .inl (zA lt)))] s.heap := hP
  have hl := lv_entry ([.ref (a 0), .int (zI i)]) (n := 2) (Nat.le_of_ble_eq_true rfl)
  rw [lg_entry_eq]
  generalize (lg_sl ([.ref (a 0), .int (zI i)]) ++ List.replicate (2 - (lg_sl ([.ref (a 0), .int (zI i)])).length) Slot.unset).toArray = ls at hl ⊢
  have hl : lv_has ls 2 [(0, .ref (a 0)), (1, .int (zI i))] := hl
  refine lv_iload_n hx hb dX0_letterAt_0 rfl (lv_at hl 1 rfl) ?_
  refine z_if_lt (tgt := 21) hx hb dX0_letterAt_1 (by decide) (by omega) (fun h_1 => ?_) (fun h_1 => ?_)
  · skip
    refine lv_iconst (v := zI (-1)) hx hb dX0_letterAt_21 (by first | rfl | decide) ?_
    exact W.iret (v := zI (-1)) hx hb hr (fun t ht_ hW_ => ⟨(-1), rfl, by first | (rw [zla_in (by omega) (by omega)]) | (rw [zla_out (by omega)]), ht_⟩) (fun q h => by cases h) dX0_letterAt_22
  · skip
    refine lv_iload_n hx hb dX0_letterAt_4 rfl (lv_at hl 1 rfl) ?_
    refine lv_aload_n hx hb dX0_letterAt_5 rfl (lv_at hl 0 rfl) ?_
    refine va_get (D := D) (ci := 0) (v := .int (zI len)) (C := RX0) (T := TX0) (N := 15) hx hb hts inX0_letterAt_X0 hown hK.1 hP 0 rfl rfl 12 (by decide) (hts (.fieldLink RX0 103 "TextEnds$EndSorter" "length" "I") (List.mem_of_getElem? (i := 1) rfl)) (fun _ h9 => h9) rfl dX0_letterAt_6 ?_
    refine z_icmp_ge (tgt := 21) hx hb dX0_letterAt_9 (by decide) (by omega) (by omega) (fun h_2 => ?_) (fun h_2 => ?_)
    · skip
      refine lv_iconst (v := zI (-1)) hx hb dX0_letterAt_21 (by first | rfl | decide) ?_
      exact W.iret (v := zI (-1)) hx hb hr (fun t ht_ hW_ => ⟨(-1), rfl, by first | (rw [zla_in (by omega) (by omega)]) | (rw [zla_out (by omega)]), ht_⟩) (fun q h => by cases h) dX0_letterAt_22
    · skip
      refine lv_aload_n hx hb dX0_letterAt_12 rfl (lv_at hl 0 rfl) ?_
      refine va_get (D := D) (ci := 0) (v := .ref lp) (C := RX0) (T := TX0) (N := 15) hx hb hts inX0_letterAt_X0 hown hK.1 hP 0 rfl rfl 11 (by decide) (hts (.fieldLink RX0 41 "TextEnds$EndSorter" "letters" "[I") (List.mem_of_getElem? (i := 2) rfl)) (fun _ h9 => h9) rfl dX0_letterAt_13 ?_
      refine lv_iload_n hx hb dX0_letterAt_16 rfl (lv_at hl 1 rfl) ?_
      refine z_iald hx hb hK.1 hP 1 0 rfl rfl dX0_letterAt_17 (by omega) (by omega) (by omega) ?_
      refine lv_goto (tgt := 22) hx hb dX0_letterAt_18 (by decide) ?_
      exact W.iret (v := zI (lt i)) hx hb hr (fun t ht_ hW_ => ⟨lt i, rfl, by first | (rw [zla_in (by omega) (by omega)]) | (rw [zla_out (by omega)]), ht_⟩) (fun q h => by cases h) dX0_letterAt_22
set_option maxHeartbeats 4000000 in
set_option maxRecDepth 100000 in
/-- isRising(place) -/
theorem kX0_isRising (l : Launch) (D : va_G) (cI cZ cL : ClassId) (a : Nat → Nat) (ts : Int) (lp : Nat) (len sg vc : Int) (nr : Nat) (rs : Int → Bool) (i : Int) (hlen : 0 ≤ len) (hnl : len ≤ (nr : Int)) (hnb : (nr : Int) < 1073741824) (hi : zR i) : Met l yX0_isRising wsX0_isRising ({ frames := 0, cells := 0, slots := 0, locals := 0 }) (zPr D cI cZ cL [.ref (a 0), .int (zI i)] [(a 0, .inr (0, so a ts lp len sg vc)), (a 4, .inl (cZ, nr, .inl (zA (zB rs))))]) (zQi (fun r => r = bi (zir len rs i))) 0 0 (fun _ => False) := by
  refine Met.ofW (cc := cX0_isRising) (maxL := 2) (ret := (some .boolean)) (by decide) rfl ?_
  intro p e s m args below meth c s₁ B hml hv
  obtain ⟨rfl, hP, hK⟩ := hv
  have hx := B.exec
  have hb := B.bytes
  have hr := B.returns
  have hts := atoms_spec (ws := wsX0_isRising) B.pre
  have hown : s.vm.findClass RX0 = some m.cls := findClass_of_methodNamed B.named
  have hlocks := B.notSynchronized
  have hP : va_P D vwCl [(a 0, .inr (0, so a ts lp len sg vc)), (a 4, .inl (cZ, nr, .inl (zA (zB rs))))] s.heap := hP
  have hl := lv_entry ([.ref (a 0), .int (zI i)]) (n := 2) (Nat.le_of_ble_eq_true rfl)
  rw [lg_entry_eq]
  generalize (lg_sl ([.ref (a 0), .int (zI i)]) ++ List.replicate (2 - (lg_sl ([.ref (a 0), .int (zI i)])).length) Slot.unset).toArray = ls at hl ⊢
  have hl : lv_has ls 2 [(0, .ref (a 0)), (1, .int (zI i))] := hl
  refine lv_iload_n hx hb dX0_isRising_0 rfl (lv_at hl 1 rfl) ?_
  refine z_if_lt (tgt := 25) hx hb dX0_isRising_1 (by decide) (by omega) (fun h_1 => ?_) (fun h_1 => ?_)
  · skip
    refine lv_iconst (v := zI 0) hx hb dX0_isRising_25 (by first | rfl | decide) ?_
    exact W.zret (ty := .boolean) (v := zI 0) hx hb hr (znar_b2 (by first | exact Or.inl rfl | exact Or.inr rfl | exact bi_01 _ | with_reducible assumption | omega)) (fun t ht_ hW_ => ⟨0, rfl, by first | exact zir_t (by omega) (by omega) (by with_reducible assumption) | exact zir_f (by omega) (by omega) (by with_reducible assumption) | exact zir_o (by omega), ht_⟩) (fun q h => by cases h) dX0_isRising_26
  · skip
    refine lv_iload_n hx hb dX0_isRising_4 rfl (lv_at hl 1 rfl) ?_
    refine lv_aload_n hx hb dX0_isRising_5 rfl (lv_at hl 0 rfl) ?_
    refine va_get (D := D) (ci := 0) (v := .int (zI len)) (C := RX0) (T := TX0) (N := 15) hx hb hts inX0_isRising_X0 hown hK.1 hP 0 rfl rfl 12 (by decide) (hts (.fieldLink RX0 103 "TextEnds$EndSorter" "length" "I") (List.mem_of_getElem? (i := 1) rfl)) (fun _ h9 => h9) rfl dX0_isRising_6 ?_
    refine z_icmp_ge (tgt := 25) hx hb dX0_isRising_9 (by decide) (by omega) (by omega) (fun h_2 => ?_) (fun h_2 => ?_)
    · skip
      refine lv_iconst (v := zI 0) hx hb dX0_isRising_25 (by first | rfl | decide) ?_
      exact W.zret (ty := .boolean) (v := zI 0) hx hb hr (znar_b2 (by first | exact Or.inl rfl | exact Or.inr rfl | exact bi_01 _ | with_reducible assumption | omega)) (fun t ht_ hW_ => ⟨0, rfl, by first | exact zir_t (by omega) (by omega) (by with_reducible assumption) | exact zir_f (by omega) (by omega) (by with_reducible assumption) | exact zir_o (by omega), ht_⟩) (fun q h => by cases h) dX0_isRising_26
    · skip
      refine lv_aload_n hx hb dX0_isRising_12 rfl (lv_at hl 0 rfl) ?_
      refine va_get (D := D) (ci := 0) (v := .ref (a 4)) (C := RX0) (T := TX0) (N := 15) hx hb hts inX0_isRising_X0 hown hK.1 hP 0 rfl rfl 3 (by decide) (hts (.fieldLink RX0 45 "TextEnds$EndSorter" "rising" "[Z") (List.mem_of_getElem? (i := 2) rfl)) (fun _ h9 => h9) rfl dX0_isRising_13 ?_
      refine lv_iload_n hx hb dX0_isRising_16 rfl (lv_at hl 1 rfl) ?_
      refine z_zald hx hb hK.1 hP 1 1 rfl rfl dX0_isRising_17 (by omega) (by omega) (by omega) ?_
      refine z_if_eq (tgt := 25) hx hb dX0_isRising_18 (by decide) (zB_R _ _) (fun h_3 => ?_) (fun h_3 => ?_)
      · skip
        refine lv_iconst (v := zI 0) hx hb dX0_isRising_25 (by first | rfl | decide) ?_
        exact W.zret (ty := .boolean) (v := zI 0) hx hb hr (znar_b2 (by first | exact Or.inl rfl | exact Or.inr rfl | exact bi_01 _ | with_reducible assumption | omega)) (fun t ht_ hW_ => ⟨0, rfl, by first | exact zir_t (by omega) (by omega) (by with_reducible assumption) | exact zir_f (by omega) (by omega) (by with_reducible assumption) | exact zir_o (by omega), ht_⟩) (fun q h => by cases h) dX0_isRising_26
      · skip
        refine lv_iconst (v := zI 1) hx hb dX0_isRising_21 (by first | rfl | decide) ?_
        refine lv_goto (tgt := 26) hx hb dX0_isRising_22 (by decide) ?_
        exact W.zret (ty := .boolean) (v := zI 1) hx hb hr (znar_b2 (by first | exact Or.inl rfl | exact Or.inr rfl | exact bi_01 _ | with_reducible assumption | omega)) (fun t ht_ hW_ => ⟨1, rfl, by first | exact zir_t (by omega) (by omega) (by with_reducible assumption) | exact zir_f (by omega) (by omega) (by with_reducible assumption) | exact zir_o (by omega), ht_⟩) (fun q h => by cases h) dX0_isRising_26
set_option maxHeartbeats 4000000 in
set_option maxRecDepth 100000 in
/-- isFalling(place) -/
theorem kX0_isFalling (l : Launch) (D : va_G) (cI cZ cL : ClassId) (a : Nat → Nat) (ts : Int) (lp : Nat) (len sg vc : Int) (nr : Nat) (rs : Int → Bool) (i : Int) (hlen : 0 ≤ len) (hnl : len ≤ (nr : Int)) (hnb : (nr : Int) < 1073741824) (hi : zR i) : Met l yX0_isFalling wsX0_isFalling ({ frames := 0, cells := 0, slots := 0, locals := 0 }) (zPr D cI cZ cL [.ref (a 0), .int (zI i)] [(a 0, .inr (0, so a ts lp len sg vc)), (a 4, .inl (cZ, nr, .inl (zA (zB rs))))]) (zQi (fun r => r = bi (zif len rs i))) 0 0 (fun _ => False) := by
  refine Met.ofW (cc := cX0_isFalling) (maxL := 2) (ret := (some .boolean)) (by decide) rfl ?_
  intro p e s m args below meth c s₁ B hml hv
  obtain ⟨rfl, hP, hK⟩ := hv
  have hx := B.exec
  have hb := B.bytes
  have hr := B.returns
  have hts := atoms_spec (ws := wsX0_isFalling) B.pre
  have hown : s.vm.findClass RX0 = some m.cls := findClass_of_methodNamed B.named
  have hlocks := B.notSynchronized
  have hP : va_P D vwCl [(a 0, .inr (0, so a ts lp len sg vc)), (a 4, .inl (cZ, nr, .inl (zA (zB rs))))] s.heap := hP
  have hl := lv_entry ([.ref (a 0), .int (zI i)]) (n := 2) (Nat.le_of_ble_eq_true rfl)
  rw [lg_entry_eq]
  generalize (lg_sl ([.ref (a 0), .int (zI i)]) ++ List.replicate (2 - (lg_sl ([.ref (a 0), .int (zI i)])).length) Slot.unset).toArray = ls at hl ⊢
  have hl : lv_has ls 2 [(0, .ref (a 0)), (1, .int (zI i))] := hl
  refine lv_iload_n hx hb dX0_isFalling_0 rfl (lv_at hl 1 rfl) ?_
  refine z_if_lt (tgt := 25) hx hb dX0_isFalling_1 (by decide) (by omega) (fun h_1 => ?_) (fun h_1 => ?_)
  · skip
    refine lv_iconst (v := zI 0) hx hb dX0_isFalling_25 (by first | rfl | decide) ?_
    exact W.zret (ty := .boolean) (v := zI 0) hx hb hr (znar_b2 (by first | exact Or.inl rfl | exact Or.inr rfl | exact bi_01 _ | with_reducible assumption | omega)) (fun t ht_ hW_ => ⟨0, rfl, by first | exact zif_t (by omega) (by omega) (by with_reducible assumption) | exact zif_f (by omega) (by omega) (by with_reducible assumption) | exact zif_o (by omega), ht_⟩) (fun q h => by cases h) dX0_isFalling_26
  · skip
    refine lv_iload_n hx hb dX0_isFalling_4 rfl (lv_at hl 1 rfl) ?_
    refine lv_aload_n hx hb dX0_isFalling_5 rfl (lv_at hl 0 rfl) ?_
    refine va_get (D := D) (ci := 0) (v := .int (zI len)) (C := RX0) (T := TX0) (N := 15) hx hb hts inX0_isFalling_X0 hown hK.1 hP 0 rfl rfl 12 (by decide) (hts (.fieldLink RX0 103 "TextEnds$EndSorter" "length" "I") (List.mem_of_getElem? (i := 1) rfl)) (fun _ h9 => h9) rfl dX0_isFalling_6 ?_
    refine z_icmp_ge (tgt := 25) hx hb dX0_isFalling_9 (by decide) (by omega) (by omega) (fun h_2 => ?_) (fun h_2 => ?_)
    · skip
      refine lv_iconst (v := zI 0) hx hb dX0_isFalling_25 (by first | rfl | decide) ?_
      exact W.zret (ty := .boolean) (v := zI 0) hx hb hr (znar_b2 (by first | exact Or.inl rfl | exact Or.inr rfl | exact bi_01 _ | with_reducible assumption | omega)) (fun t ht_ hW_ => ⟨0, rfl, by first | exact zif_t (by omega) (by omega) (by with_reducible assumption) | exact zif_f (by omega) (by omega) (by with_reducible assumption) | exact zif_o (by omega), ht_⟩) (fun q h => by cases h) dX0_isFalling_26
    · skip
      refine lv_aload_n hx hb dX0_isFalling_12 rfl (lv_at hl 0 rfl) ?_
      refine va_get (D := D) (ci := 0) (v := .ref (a 4)) (C := RX0) (T := TX0) (N := 15) hx hb hts inX0_isFalling_X0 hown hK.1 hP 0 rfl rfl 3 (by decide) (hts (.fieldLink RX0 45 "TextEnds$EndSorter" "rising" "[Z") (List.mem_of_getElem? (i := 2) rfl)) (fun _ h9 => h9) rfl dX0_isFalling_13 ?_
      refine lv_iload_n hx hb dX0_isFalling_16 rfl (lv_at hl 1 rfl) ?_
      refine z_zald hx hb hK.1 hP 1 1 rfl rfl dX0_isFalling_17 (by omega) (by omega) (by omega) ?_
      refine z_if_ne (tgt := 25) hx hb dX0_isFalling_18 (by decide) (zB_R _ _) (fun h_3 => ?_) (fun h_3 => ?_)
      · skip
        refine lv_iconst (v := zI 0) hx hb dX0_isFalling_25 (by first | rfl | decide) ?_
        exact W.zret (ty := .boolean) (v := zI 0) hx hb hr (znar_b2 (by first | exact Or.inl rfl | exact Or.inr rfl | exact bi_01 _ | with_reducible assumption | omega)) (fun t ht_ hW_ => ⟨0, rfl, by first | exact zif_t (by omega) (by omega) (by with_reducible assumption) | exact zif_f (by omega) (by omega) (by with_reducible assumption) | exact zif_o (by omega), ht_⟩) (fun q h => by cases h) dX0_isFalling_26
      · skip
        refine lv_iconst (v := zI 1) hx hb dX0_isFalling_21 (by first | rfl | decide) ?_
        refine lv_goto (tgt := 26) hx hb dX0_isFalling_22 (by decide) ?_
        exact W.zret (ty := .boolean) (v := zI 1) hx hb hr (znar_b2 (by first | exact Or.inl rfl | exact Or.inr rfl | exact bi_01 _ | with_reducible assumption | omega)) (fun t ht_ hW_ => ⟨1, rfl, by first | exact zif_t (by omega) (by omega) (by with_reducible assumption) | exact zif_f (by omega) (by omega) (by with_reducible assumption) | exact zif_o (by omega), ht_⟩) (fun q h => by cases h) dX0_isFalling_26
