set_option maxRecDepth 20000 in
theorem inX3_feed_X3 : ∀ w ∈ wsX30, w ∈ wsX3_feed := by decide +kernel
set_option maxRecDepth 20000 in
theorem inX3_patFeed_X3 : ∀ w ∈ wsX30, w ∈ wsX3_patFeed := by decide +kernel
set_option maxRecDepth 20000 in
theorem inX3_patClear_X3 : ∀ w ∈ wsX30, w ∈ wsX3_patClear := by decide +kernel
set_option maxRecDepth 20000 in
theorem inX3_clear_X3 : ∀ w ∈ wsX30, w ∈ wsX3_clear := by decide +kernel
set_option maxRecDepth 20000 in
theorem inX3_begins_X3 : ∀ w ∈ wsX30, w ∈ wsX3_begins := by decide +kernel
set_option maxRecDepth 20000 in
theorem inX3_search_X3 : ∀ w ∈ wsX30, w ∈ wsX3_search := by decide +kernel
set_option maxRecDepth 20000 in
theorem inX3_hit_X3 : ∀ w ∈ wsX30, w ∈ wsX3_hit := by decide +kernel
set_option maxRecDepth 20000 in
theorem inX3_repeated_X3 : ∀ w ∈ wsX30, w ∈ wsX3_repeated := by decide +kernel
set_option maxRecDepth 20000 in
theorem inX3_different_X3 : ∀ w ∈ wsX30, w ∈ wsX3_different := by decide +kernel
set_option maxHeartbeats 4000000 in
set_option maxRecDepth 100000 in
/-- feed(letter) -/
theorem kX3_feed (l : Launch) (D : va_G) (cI cZ cL : ClassId) (d : Nat → Nat) (rm sg pr sz bt ps fi ht fo : Int) (nT : Nat) (T : Int → Int) (x : Int) (szz : Nat) (hsz : 0 ≤ sz ∧ sz ≤ rm) (hrm : rm ≤ (nT : Int)) (hsg : zR sg) (bnT : (nT : Int) < 1073741824) (hx1 : zR x) : Met l yX3_feed wsX3_feed ({ frames := 0, cells := 0, slots := 0, locals := 0 }) (zPw D cI cZ cL szz [.ref (d 0), .int (zI x)] [(d 0, .inr (3, mo d rm sg pr sz bt ps fi ht fo)), (d 1, .inl (cI, nT, .inl (zA T)))]) (zQwi D (va_A [(d 0, .inr (3, mo d rm sg pr sz bt ps fi ht fo)), (d 1, .inl (cI, nT, .inl (zA T)))] szz) (fun (r : Int) (_ : Unit) => r = bi (fok sg rm sz x) ∧ True) (fun _ : Unit => [(d 0, .inr (3, mo d rm sg pr (if fok sg rm sz x = true then sz + 1 else sz) (if fok sg rm sz x = true then 0 else bt) ps fi ht (if fok sg rm sz x = true then 0 else fo))), (d 1, .inl (cI, nT, .inl (zA (if fok sg rm sz x = true then zup T sz x else T))))])) 0 0 (va_A [(d 0, .inr (3, mo d rm sg pr sz bt ps fi ht fo)), (d 1, .inl (cI, nT, .inl (zA T)))] szz) := by
  refine Met.ofW (cc := cX3_feed) (maxL := 2) (ret := (some .boolean)) (by decide) rfl ?_
  intro p e s m args below meth c s₁ B hml hv
  obtain ⟨rfl, hsz, hP, hK, hD0⟩ := hv
  have hx := B.exec
  have hb := B.bytes
  have hr := B.returns
  have hts := atoms_spec (ws := wsX3_feed) B.pre
  have hown : s.vm.findClass RX3 = some m.cls := findClass_of_methodNamed B.named
  have hlocks := B.notSynchronized
  subst hsz
  have hD := hD0.self (sz := s.heap.size)
  generalize hAe : va_A [(d 0, .inr (3, mo d rm sg pr sz bt ps fi ht fo)), (d 1, .inl (cI, nT, .inl (zA T)))] s.heap.size = A at hD ⊢
  have hA : ∀ q : Nat, s.heap.size ≤ q → A q := fun q h => by rw [← hAe]; exact Or.inr h
  have hS : va_S A s.heap s.heap [] := va_S.rf
  clear hD0
  have hP : va_P D vwCl [(d 0, .inr (3, mo d rm sg pr sz bt ps fi ht fo)), (d 1, .inl (cI, nT, .inl (zA T)))] s.heap := hP
  have hl := lv_entry ([.ref (d 0), .int (zI x)]) (n := 2) (Nat.le_of_ble_eq_true rfl)
  rw [lg_entry_eq]
  generalize (lg_sl ([.ref (d 0), .int (zI x)]) ++ List.replicate (2 - (lg_sl ([.ref (d 0), .int (zI x)])).length) Slot.unset).toArray = ls at hl ⊢
  have hl : lv_has ls 2 [(0, .ref (d 0)), (1, .int (zI x))] := hl
  refine lv_iload_n hx hb dX3_feed_0 rfl (lv_at hl 1 rfl) ?_
  refine z_if_lt (tgt := 23) hx hb dX3_feed_1 (by decide) (by omega) (fun h_1 => ?_) (fun h_1 => ?_)
  · skip
    refine lv_iconst (v := zI 0) hx hb dX3_feed_23 (by first | rfl | decide) ?_
    have hfk : fok sg rm sz x = false := fok_f (by omega)
    have hP : va_P D vwCl [(d 0, .inr (3, mo d rm sg pr (if fok sg rm sz x = true then sz + 1 else sz) (if fok sg rm sz x = true then 0 else bt) ps fi ht (if fok sg rm sz x = true then 0 else fo))), (d 1, .inl (cI, nT, .inl (zA (if fok sg rm sz x = true then zup T sz x else T))))] s.heap := by (simp only [hfk, Bool.false_eq_true, if_false]; exact hP)
    have hD : va_D A [(d 0, .inr (3, mo d rm sg pr (if fok sg rm sz x = true then sz + 1 else sz) (if fok sg rm sz x = true then 0 else bt) ps fi ht (if fok sg rm sz x = true then 0 else fo))), (d 1, .inl (cI, nT, .inl (zA (if fok sg rm sz x = true then zup T sz x else T))))] := by (simp only [hfk, Bool.false_eq_true, if_false]; exact hD)
    exact W.zret (ty := .boolean) (v := zI 0) hx hb hr (znar_b2 (by first | exact Or.inl rfl | exact Or.inr rfl | exact bi_01 _ | with_reducible assumption | omega)) (fun t ht_ hW_ => ⟨⟨0, (), rfl, ⟨by rw [hfk]; rfl, trivial⟩, by rw [ht_]; exact hP, hD⟩, hS.F ht_⟩) hS.2.2 dX3_feed_24
  · skip
    refine lv_iload_n hx hb dX3_feed_4 rfl (lv_at hl 1 rfl) ?_
    refine lv_aload_n hx hb dX3_feed_5 rfl (lv_at hl 0 rfl) ?_
    refine va_get (D := D) (ci := 3) (v := .int (zI sg)) (C := RX3) (T := TX3) (N := 13) hx hb hts inX3_feed_X3 hown hK.1 hP 0 rfl rfl 1 (by decide) (hts (.fieldLink RX3 26 "TextEndsModel" "sigma" "I") (List.mem_of_getElem? (i := 1) rfl)) (fun _ h9 => h9) rfl dX3_feed_6 ?_
    refine z_icmp_ge (tgt := 23) hx hb dX3_feed_9 (by decide) (by omega) (by omega) (fun h_2 => ?_) (fun h_2 => ?_)
    · skip
      refine lv_iconst (v := zI 0) hx hb dX3_feed_23 (by first | rfl | decide) ?_
      have hfk : fok sg rm sz x = false := fok_f (by omega)
      have hP : va_P D vwCl [(d 0, .inr (3, mo d rm sg pr (if fok sg rm sz x = true then sz + 1 else sz) (if fok sg rm sz x = true then 0 else bt) ps fi ht (if fok sg rm sz x = true then 0 else fo))), (d 1, .inl (cI, nT, .inl (zA (if fok sg rm sz x = true then zup T sz x else T))))] s.heap := by (simp only [hfk, Bool.false_eq_true, if_false]; exact hP)
      have hD : va_D A [(d 0, .inr (3, mo d rm sg pr (if fok sg rm sz x = true then sz + 1 else sz) (if fok sg rm sz x = true then 0 else bt) ps fi ht (if fok sg rm sz x = true then 0 else fo))), (d 1, .inl (cI, nT, .inl (zA (if fok sg rm sz x = true then zup T sz x else T))))] := by (simp only [hfk, Bool.false_eq_true, if_false]; exact hD)
      exact W.zret (ty := .boolean) (v := zI 0) hx hb hr (znar_b2 (by first | exact Or.inl rfl | exact Or.inr rfl | exact bi_01 _ | with_reducible assumption | omega)) (fun t ht_ hW_ => ⟨⟨0, (), rfl, ⟨by rw [hfk]; rfl, trivial⟩, by rw [ht_]; exact hP, hD⟩, hS.F ht_⟩) hS.2.2 dX3_feed_24
    · skip
      refine lv_aload_n hx hb dX3_feed_12 rfl (lv_at hl 0 rfl) ?_
      refine va_get (D := D) (ci := 3) (v := .int (zI sz)) (C := RX3) (T := TX3) (N := 13) hx hb hts inX3_feed_X3 hown hK.1 hP 0 rfl rfl 4 (by decide) (hts (.fieldLink RX3 32 "TextEndsModel" "size" "I") (List.mem_of_getElem? (i := 2) rfl)) (fun _ h9 => h9) rfl dX3_feed_13 ?_
      refine lv_aload_n hx hb dX3_feed_16 rfl (lv_at hl 0 rfl) ?_
      refine va_get (D := D) (ci := 3) (v := .int (zI rm)) (C := RX3) (T := TX3) (N := 13) hx hb hts inX3_feed_X3 hown hK.1 hP 0 rfl rfl 0 (by decide) (hts (.fieldLink RX3 22 "TextEndsModel" "room" "I") (List.mem_of_getElem? (i := 3) rfl)) (fun _ h9 => h9) rfl dX3_feed_17 ?_
      refine z_icmp_ne (tgt := 25) hx hb dX3_feed_20 (by decide) (by omega) (by omega) (fun h_3 => ?_) (fun h_3 => ?_)
      · skip
        refine lv_aload_n hx hb dX3_feed_25 rfl (lv_at hl 0 rfl) ?_
        refine va_get (D := D) (ci := 3) (v := .ref (d 1)) (C := RX3) (T := TX3) (N := 13) hx hb hts inX3_feed_X3 hown hK.1 hP 0 rfl rfl 3 (by decide) (hts (.fieldLink RX3 7 "TextEndsModel" "text" "[I") (List.mem_of_getElem? (i := 4) rfl)) (fun _ h9 => h9) rfl dX3_feed_26 ?_
        refine lv_aload_n hx hb dX3_feed_29 rfl (lv_at hl 0 rfl) ?_
        refine va_get (D := D) (ci := 3) (v := .int (zI sz)) (C := RX3) (T := TX3) (N := 13) hx hb hts inX3_feed_X3 hown hK.1 hP 0 rfl rfl 4 (by decide) (hts (.fieldLink RX3 32 "TextEndsModel" "size" "I") (List.mem_of_getElem? (i := 2) rfl)) (fun _ h9 => h9) rfl dX3_feed_30 ?_
        refine lv_iload_n hx hb dX3_feed_33 rfl (lv_at hl 1 rfl) ?_
        refine z_iast hx hb hK.1 hP hD hS 1 0 rfl rfl dX3_feed_34 (by omega) (by omega) (by omega) (fun H locs hP hD hS => ?_)
        have hP : va_P D vwCl [(d 0, .inr (3, mo d rm sg pr sz bt ps fi ht fo)), (d 1, .inl (cI, nT, .inl (zA (zup T sz x))))] H := hP
        have hD : va_D A [(d 0, .inr (3, mo d rm sg pr sz bt ps fi ht fo)), (d 1, .inl (cI, nT, .inl (zA (zup T sz x))))] := hD
        refine lv_aload_n hx hb dX3_feed_35 rfl (lv_at hl 0 rfl) ?_
        refine lv_dup hx hb dX3_feed_36 rfl ?_
        refine va_get (D := D) (ci := 3) (v := .int (zI sz)) (C := RX3) (T := TX3) (N := 13) hx hb hts inX3_feed_X3 hown hK.1 hP 0 rfl rfl 4 (by decide) (hts (.fieldLink RX3 32 "TextEndsModel" "size" "I") (List.mem_of_getElem? (i := 2) rfl)) (fun _ h9 => h9) rfl dX3_feed_37 ?_
        refine lv_iconst (v := zI 1) hx hb dX3_feed_40 (by first | rfl | decide) ?_
        refine z_iadd hx hb dX3_feed_41 ?_
        refine va_put (D := D) (ci := 3) (v := .int (zI (sz + 1))) (ty := .int) (C := RX3) (T := TX3) (N := 13) hx hb hts inX3_feed_X3 tyX3 tyX3_ok nmX3 hown hK.1 hP hD hS 0 rfl rfl 4 (by decide) (hts (.fieldLink RX3 32 "TextEndsModel" "size" "I") (List.mem_of_getElem? (i := 2) rfl)) (fun _ h9 => h9) rfl (by decide +kernel) rfl rfl (Nat.le_of_ble_eq_true rfl) dX3_feed_42 (fun H locs hP hD hS => ?_)
        have hP : va_P D vwCl [(d 0, .inr (3, mo d rm sg pr (sz + 1) bt ps fi ht fo)), (d 1, .inl (cI, nT, .inl (zA (zup T sz x))))] H := hP
        have hD : va_D A [(d 0, .inr (3, mo d rm sg pr (sz + 1) bt ps fi ht fo)), (d 1, .inl (cI, nT, .inl (zA (zup T sz x))))] := hD
        refine lv_aload_n hx hb dX3_feed_45 rfl (lv_at hl 0 rfl) ?_
        refine lv_iconst (v := zI 0) hx hb dX3_feed_46 (by first | rfl | decide) ?_
        refine va_put (D := D) (ci := 3) (v := .int (zI 0)) (ty := .boolean) (C := RX3) (T := TX3) (N := 13) hx hb hts inX3_feed_X3 tyX3 tyX3_ok nmX3 hown hK.1 hP hD hS 0 rfl rfl 5 (by decide) (hts (.fieldLink RX3 35 "TextEndsModel" "built" "Z") (List.mem_of_getElem? (i := 5) rfl)) (fun _ h9 => h9) rfl (by decide +kernel) (znar_b2 (by first | exact Or.inl rfl | exact Or.inr rfl | exact bi_01 _ | with_reducible assumption | omega)) (zfit_b (by first | exact Or.inl rfl | exact Or.inr rfl | exact bi_01 _ | with_reducible assumption | omega)) (Nat.le_of_ble_eq_true rfl) dX3_feed_47 (fun H locs hP hD hS => ?_)
        have hP : va_P D vwCl [(d 0, .inr (3, mo d rm sg pr (sz + 1) 0 ps fi ht fo)), (d 1, .inl (cI, nT, .inl (zA (zup T sz x))))] H := hP
        have hD : va_D A [(d 0, .inr (3, mo d rm sg pr (sz + 1) 0 ps fi ht fo)), (d 1, .inl (cI, nT, .inl (zA (zup T sz x))))] := hD
        refine lv_aload_n hx hb dX3_feed_50 rfl (lv_at hl 0 rfl) ?_
        refine lv_iconst (v := zI 0) hx hb dX3_feed_51 (by first | rfl | decide) ?_
        refine va_put (D := D) (ci := 3) (v := .int (zI 0)) (ty := .boolean) (C := RX3) (T := TX3) (N := 13) hx hb hts inX3_feed_X3 tyX3 tyX3_ok nmX3 hown hK.1 hP hD hS 0 rfl rfl 12 (by decide) (hts (.fieldLink RX3 39 "TextEndsModel" "found" "Z") (List.mem_of_getElem? (i := 6) rfl)) (fun _ h9 => h9) rfl (by decide +kernel) (znar_b2 (by first | exact Or.inl rfl | exact Or.inr rfl | exact bi_01 _ | with_reducible assumption | omega)) (zfit_b (by first | exact Or.inl rfl | exact Or.inr rfl | exact bi_01 _ | with_reducible assumption | omega)) (Nat.le_of_ble_eq_true rfl) dX3_feed_52 (fun H locs hP hD hS => ?_)
        have hP : va_P D vwCl [(d 0, .inr (3, mo d rm sg pr (sz + 1) 0 ps fi ht 0)), (d 1, .inl (cI, nT, .inl (zA (zup T sz x))))] H := hP
        have hD : va_D A [(d 0, .inr (3, mo d rm sg pr (sz + 1) 0 ps fi ht 0)), (d 1, .inl (cI, nT, .inl (zA (zup T sz x))))] := hD
        refine lv_iconst (v := zI 1) hx hb dX3_feed_55 (by first | rfl | decide) ?_
        have hfk : fok sg rm sz x = true := fok_t (by omega) (by omega) (by omega)
        have hP : va_P D vwCl [(d 0, .inr (3, mo d rm sg pr (if fok sg rm sz x = true then sz + 1 else sz) (if fok sg rm sz x = true then 0 else bt) ps fi ht (if fok sg rm sz x = true then 0 else fo))), (d 1, .inl (cI, nT, .inl (zA (if fok sg rm sz x = true then zup T sz x else T))))] H := by (simp only [hfk, if_true]; exact hP)
        have hD : va_D A [(d 0, .inr (3, mo d rm sg pr (if fok sg rm sz x = true then sz + 1 else sz) (if fok sg rm sz x = true then 0 else bt) ps fi ht (if fok sg rm sz x = true then 0 else fo))), (d 1, .inl (cI, nT, .inl (zA (if fok sg rm sz x = true then zup T sz x else T))))] := by (simp only [hfk, if_true]; exact hD)
        exact W.zret (ty := .boolean) (v := zI 1) hx hb hr (znar_b2 (by first | exact Or.inl rfl | exact Or.inr rfl | exact bi_01 _ | with_reducible assumption | omega)) (fun t ht_ hW_ => ⟨⟨1, (), rfl, ⟨by rw [hfk]; rfl, trivial⟩, by rw [ht_]; exact hP, hD⟩, hS.F ht_⟩) hS.2.2 dX3_feed_56
      · skip
        refine lv_iconst (v := zI 0) hx hb dX3_feed_23 (by first | rfl | decide) ?_
        have hfk : fok sg rm sz x = false := fok_f (by omega)
        have hP : va_P D vwCl [(d 0, .inr (3, mo d rm sg pr (if fok sg rm sz x = true then sz + 1 else sz) (if fok sg rm sz x = true then 0 else bt) ps fi ht (if fok sg rm sz x = true then 0 else fo))), (d 1, .inl (cI, nT, .inl (zA (if fok sg rm sz x = true then zup T sz x else T))))] s.heap := by (simp only [hfk, Bool.false_eq_true, if_false]; exact hP)
        have hD : va_D A [(d 0, .inr (3, mo d rm sg pr (if fok sg rm sz x = true then sz + 1 else sz) (if fok sg rm sz x = true then 0 else bt) ps fi ht (if fok sg rm sz x = true then 0 else fo))), (d 1, .inl (cI, nT, .inl (zA (if fok sg rm sz x = true then zup T sz x else T))))] := by (simp only [hfk, Bool.false_eq_true, if_false]; exact hD)
        exact W.zret (ty := .boolean) (v := zI 0) hx hb hr (znar_b2 (by first | exact Or.inl rfl | exact Or.inr rfl | exact bi_01 _ | with_reducible assumption | omega)) (fun t ht_ hW_ => ⟨⟨0, (), rfl, ⟨by rw [hfk]; rfl, trivial⟩, by rw [ht_]; exact hP, hD⟩, hS.F ht_⟩) hS.2.2 dX3_feed_24
set_option maxHeartbeats 4000000 in
set_option maxRecDepth 100000 in
/-- patFeed(letter) -/
theorem kX3_patFeed (l : Launch) (D : va_G) (cI cZ cL : ClassId) (d : Nat → Nat) (rm sg pr sz bt ps fi ht fo : Int) (nP : Nat) (pt : Int → Int) (x : Int) (szz : Nat) (hps : 0 ≤ ps ∧ ps ≤ pr) (hpr : pr ≤ (nP : Int)) (hsg : zR sg) (bnP : (nP : Int) < 1073741824) (hx1 : zR x) : Met l yX3_patFeed wsX3_patFeed ({ frames := 0, cells := 0, slots := 0, locals := 0 }) (zPw D cI cZ cL szz [.ref (d 0), .int (zI x)] [(d 0, .inr (3, mo d rm sg pr sz bt ps fi ht fo)), (d 4, .inl (cI, nP, .inl (zA pt)))]) (zQwi D (va_A [(d 0, .inr (3, mo d rm sg pr sz bt ps fi ht fo)), (d 4, .inl (cI, nP, .inl (zA pt)))] szz) (fun (r : Int) (_ : Unit) => r = bi (fok sg pr ps x) ∧ True) (fun _ : Unit => [(d 0, .inr (3, mo d rm sg pr sz bt (if fok sg pr ps x = true then ps + 1 else ps) fi ht (if fok sg pr ps x = true then 0 else fo))), (d 4, .inl (cI, nP, .inl (zA (if fok sg pr ps x = true then zup pt ps x else pt))))])) 0 0 (va_A [(d 0, .inr (3, mo d rm sg pr sz bt ps fi ht fo)), (d 4, .inl (cI, nP, .inl (zA pt)))] szz) := by
  refine Met.ofW (cc := cX3_patFeed) (maxL := 2) (ret := (some .boolean)) (by decide) rfl ?_
  intro p e s m args below meth c s₁ B hml hv
  obtain ⟨rfl, hsz, hP, hK, hD0⟩ := hv
  have hx := B.exec
  have hb := B.bytes
  have hr := B.returns
  have hts := atoms_spec (ws := wsX3_patFeed) B.pre
  have hown : s.vm.findClass RX3 = some m.cls := findClass_of_methodNamed B.named
  have hlocks := B.notSynchronized
  subst hsz
  have hD := hD0.self (sz := s.heap.size)
  generalize hAe : va_A [(d 0, .inr (3, mo d rm sg pr sz bt ps fi ht fo)), (d 4, .inl (cI, nP, .inl (zA pt)))] s.heap.size = A at hD ⊢
  have hA : ∀ q : Nat, s.heap.size ≤ q → A q := fun q h => by rw [← hAe]; exact Or.inr h
  have hS : va_S A s.heap s.heap [] := va_S.rf
  clear hD0
  have hP : va_P D vwCl [(d 0, .inr (3, mo d rm sg pr sz bt ps fi ht fo)), (d 4, .inl (cI, nP, .inl (zA pt)))] s.heap := hP
  have hl := lv_entry ([.ref (d 0), .int (zI x)]) (n := 2) (Nat.le_of_ble_eq_true rfl)
  rw [lg_entry_eq]
  generalize (lg_sl ([.ref (d 0), .int (zI x)]) ++ List.replicate (2 - (lg_sl ([.ref (d 0), .int (zI x)])).length) Slot.unset).toArray = ls at hl ⊢
  have hl : lv_has ls 2 [(0, .ref (d 0)), (1, .int (zI x))] := hl
  refine lv_iload_n hx hb dX3_patFeed_0 rfl (lv_at hl 1 rfl) ?_
  refine z_if_lt (tgt := 23) hx hb dX3_patFeed_1 (by decide) (by omega) (fun h_1 => ?_) (fun h_1 => ?_)
  · skip
    refine lv_iconst (v := zI 0) hx hb dX3_patFeed_23 (by first | rfl | decide) ?_
    have hfk : fok sg pr ps x = false := fok_f (by omega)
    have hP : va_P D vwCl [(d 0, .inr (3, mo d rm sg pr sz bt (if fok sg pr ps x = true then ps + 1 else ps) fi ht (if fok sg pr ps x = true then 0 else fo))), (d 4, .inl (cI, nP, .inl (zA (if fok sg pr ps x = true then zup pt ps x else pt))))] s.heap := by (simp only [hfk, Bool.false_eq_true, if_false]; exact hP)
    have hD : va_D A [(d 0, .inr (3, mo d rm sg pr sz bt (if fok sg pr ps x = true then ps + 1 else ps) fi ht (if fok sg pr ps x = true then 0 else fo))), (d 4, .inl (cI, nP, .inl (zA (if fok sg pr ps x = true then zup pt ps x else pt))))] := by (simp only [hfk, Bool.false_eq_true, if_false]; exact hD)
    exact W.zret (ty := .boolean) (v := zI 0) hx hb hr (znar_b2 (by first | exact Or.inl rfl | exact Or.inr rfl | exact bi_01 _ | with_reducible assumption | omega)) (fun t ht_ hW_ => ⟨⟨0, (), rfl, ⟨by rw [hfk]; rfl, trivial⟩, by rw [ht_]; exact hP, hD⟩, hS.F ht_⟩) hS.2.2 dX3_patFeed_24
  · skip
    refine lv_iload_n hx hb dX3_patFeed_4 rfl (lv_at hl 1 rfl) ?_
    refine lv_aload_n hx hb dX3_patFeed_5 rfl (lv_at hl 0 rfl) ?_
    refine va_get (D := D) (ci := 3) (v := .int (zI sg)) (C := RX3) (T := TX3) (N := 13) hx hb hts inX3_patFeed_X3 hown hK.1 hP 0 rfl rfl 1 (by decide) (hts (.fieldLink RX3 26 "TextEndsModel" "sigma" "I") (List.mem_of_getElem? (i := 1) rfl)) (fun _ h9 => h9) rfl dX3_patFeed_6 ?_
    refine z_icmp_ge (tgt := 23) hx hb dX3_patFeed_9 (by decide) (by omega) (by omega) (fun h_2 => ?_) (fun h_2 => ?_)
    · skip
      refine lv_iconst (v := zI 0) hx hb dX3_patFeed_23 (by first | rfl | decide) ?_
      have hfk : fok sg pr ps x = false := fok_f (by omega)
      have hP : va_P D vwCl [(d 0, .inr (3, mo d rm sg pr sz bt (if fok sg pr ps x = true then ps + 1 else ps) fi ht (if fok sg pr ps x = true then 0 else fo))), (d 4, .inl (cI, nP, .inl (zA (if fok sg pr ps x = true then zup pt ps x else pt))))] s.heap := by (simp only [hfk, Bool.false_eq_true, if_false]; exact hP)
      have hD : va_D A [(d 0, .inr (3, mo d rm sg pr sz bt (if fok sg pr ps x = true then ps + 1 else ps) fi ht (if fok sg pr ps x = true then 0 else fo))), (d 4, .inl (cI, nP, .inl (zA (if fok sg pr ps x = true then zup pt ps x else pt))))] := by (simp only [hfk, Bool.false_eq_true, if_false]; exact hD)
      exact W.zret (ty := .boolean) (v := zI 0) hx hb hr (znar_b2 (by first | exact Or.inl rfl | exact Or.inr rfl | exact bi_01 _ | with_reducible assumption | omega)) (fun t ht_ hW_ => ⟨⟨0, (), rfl, ⟨by rw [hfk]; rfl, trivial⟩, by rw [ht_]; exact hP, hD⟩, hS.F ht_⟩) hS.2.2 dX3_patFeed_24
    · skip
      refine lv_aload_n hx hb dX3_patFeed_12 rfl (lv_at hl 0 rfl) ?_
      refine va_get (D := D) (ci := 3) (v := .int (zI ps)) (C := RX3) (T := TX3) (N := 13) hx hb hts inX3_patFeed_X3 hown hK.1 hP 0 rfl rfl 9 (by decide) (hts (.fieldLink RX3 57 "TextEndsModel" "patternSize" "I") (List.mem_of_getElem? (i := 2) rfl)) (fun _ h9 => h9) rfl dX3_patFeed_13 ?_
      refine lv_aload_n hx hb dX3_patFeed_16 rfl (lv_at hl 0 rfl) ?_
      refine va_get (D := D) (ci := 3) (v := .int (zI pr)) (C := RX3) (T := TX3) (N := 13) hx hb hts inX3_patFeed_X3 hown hK.1 hP 0 rfl rfl 2 (by decide) (hts (.fieldLink RX3 29 "TextEndsModel" "patternRoom" "I") (List.mem_of_getElem? (i := 3) rfl)) (fun _ h9 => h9) rfl dX3_patFeed_17 ?_
      refine z_icmp_ne (tgt := 25) hx hb dX3_patFeed_20 (by decide) (by omega) (by omega) (fun h_3 => ?_) (fun h_3 => ?_)
      · skip
        refine lv_aload_n hx hb dX3_patFeed_25 rfl (lv_at hl 0 rfl) ?_
        refine va_get (D := D) (ci := 3) (v := .ref (d 4)) (C := RX3) (T := TX3) (N := 13) hx hb hts inX3_patFeed_X3 hown hK.1 hP 0 rfl rfl 8 (by decide) (hts (.fieldLink RX3 19 "TextEndsModel" "pattern" "[I") (List.mem_of_getElem? (i := 4) rfl)) (fun _ h9 => h9) rfl dX3_patFeed_26 ?_
        refine lv_aload_n hx hb dX3_patFeed_29 rfl (lv_at hl 0 rfl) ?_
        refine va_get (D := D) (ci := 3) (v := .int (zI ps)) (C := RX3) (T := TX3) (N := 13) hx hb hts inX3_patFeed_X3 hown hK.1 hP 0 rfl rfl 9 (by decide) (hts (.fieldLink RX3 57 "TextEndsModel" "patternSize" "I") (List.mem_of_getElem? (i := 2) rfl)) (fun _ h9 => h9) rfl dX3_patFeed_30 ?_
        refine lv_iload_n hx hb dX3_patFeed_33 rfl (lv_at hl 1 rfl) ?_
        refine z_iast hx hb hK.1 hP hD hS 1 0 rfl rfl dX3_patFeed_34 (by omega) (by omega) (by omega) (fun H locs hP hD hS => ?_)
        have hP : va_P D vwCl [(d 0, .inr (3, mo d rm sg pr sz bt ps fi ht fo)), (d 4, .inl (cI, nP, .inl (zA (zup pt ps x))))] H := hP
        have hD : va_D A [(d 0, .inr (3, mo d rm sg pr sz bt ps fi ht fo)), (d 4, .inl (cI, nP, .inl (zA (zup pt ps x))))] := hD
        refine lv_aload_n hx hb dX3_patFeed_35 rfl (lv_at hl 0 rfl) ?_
        refine lv_dup hx hb dX3_patFeed_36 rfl ?_
        refine va_get (D := D) (ci := 3) (v := .int (zI ps)) (C := RX3) (T := TX3) (N := 13) hx hb hts inX3_patFeed_X3 hown hK.1 hP 0 rfl rfl 9 (by decide) (hts (.fieldLink RX3 57 "TextEndsModel" "patternSize" "I") (List.mem_of_getElem? (i := 2) rfl)) (fun _ h9 => h9) rfl dX3_patFeed_37 ?_
        refine lv_iconst (v := zI 1) hx hb dX3_patFeed_40 (by first | rfl | decide) ?_
        refine z_iadd hx hb dX3_patFeed_41 ?_
        refine va_put (D := D) (ci := 3) (v := .int (zI (ps + 1))) (ty := .int) (C := RX3) (T := TX3) (N := 13) hx hb hts inX3_patFeed_X3 tyX3 tyX3_ok nmX3 hown hK.1 hP hD hS 0 rfl rfl 9 (by decide) (hts (.fieldLink RX3 57 "TextEndsModel" "patternSize" "I") (List.mem_of_getElem? (i := 2) rfl)) (fun _ h9 => h9) rfl (by decide +kernel) rfl rfl (Nat.le_of_ble_eq_true rfl) dX3_patFeed_42 (fun H locs hP hD hS => ?_)
        have hP : va_P D vwCl [(d 0, .inr (3, mo d rm sg pr sz bt (ps + 1) fi ht fo)), (d 4, .inl (cI, nP, .inl (zA (zup pt ps x))))] H := hP
        have hD : va_D A [(d 0, .inr (3, mo d rm sg pr sz bt (ps + 1) fi ht fo)), (d 4, .inl (cI, nP, .inl (zA (zup pt ps x))))] := hD
        refine lv_aload_n hx hb dX3_patFeed_45 rfl (lv_at hl 0 rfl) ?_
        refine lv_iconst (v := zI 0) hx hb dX3_patFeed_46 (by first | rfl | decide) ?_
        refine va_put (D := D) (ci := 3) (v := .int (zI 0)) (ty := .boolean) (C := RX3) (T := TX3) (N := 13) hx hb hts inX3_patFeed_X3 tyX3 tyX3_ok nmX3 hown hK.1 hP hD hS 0 rfl rfl 12 (by decide) (hts (.fieldLink RX3 39 "TextEndsModel" "found" "Z") (List.mem_of_getElem? (i := 5) rfl)) (fun _ h9 => h9) rfl (by decide +kernel) (znar_b2 (by first | exact Or.inl rfl | exact Or.inr rfl | exact bi_01 _ | with_reducible assumption | omega)) (zfit_b (by first | exact Or.inl rfl | exact Or.inr rfl | exact bi_01 _ | with_reducible assumption | omega)) (Nat.le_of_ble_eq_true rfl) dX3_patFeed_47 (fun H locs hP hD hS => ?_)
        have hP : va_P D vwCl [(d 0, .inr (3, mo d rm sg pr sz bt (ps + 1) fi ht 0)), (d 4, .inl (cI, nP, .inl (zA (zup pt ps x))))] H := hP
        have hD : va_D A [(d 0, .inr (3, mo d rm sg pr sz bt (ps + 1) fi ht 0)), (d 4, .inl (cI, nP, .inl (zA (zup pt ps x))))] := hD
        refine lv_iconst (v := zI 1) hx hb dX3_patFeed_50 (by first | rfl | decide) ?_
        have hfk : fok sg pr ps x = true := fok_t (by omega) (by omega) (by omega)
        have hP : va_P D vwCl [(d 0, .inr (3, mo d rm sg pr sz bt (if fok sg pr ps x = true then ps + 1 else ps) fi ht (if fok sg pr ps x = true then 0 else fo))), (d 4, .inl (cI, nP, .inl (zA (if fok sg pr ps x = true then zup pt ps x else pt))))] H := by (simp only [hfk, if_true]; exact hP)
        have hD : va_D A [(d 0, .inr (3, mo d rm sg pr sz bt (if fok sg pr ps x = true then ps + 1 else ps) fi ht (if fok sg pr ps x = true then 0 else fo))), (d 4, .inl (cI, nP, .inl (zA (if fok sg pr ps x = true then zup pt ps x else pt))))] := by (simp only [hfk, if_true]; exact hD)
        exact W.zret (ty := .boolean) (v := zI 1) hx hb hr (znar_b2 (by first | exact Or.inl rfl | exact Or.inr rfl | exact bi_01 _ | with_reducible assumption | omega)) (fun t ht_ hW_ => ⟨⟨1, (), rfl, ⟨by rw [hfk]; rfl, trivial⟩, by rw [ht_]; exact hP, hD⟩, hS.F ht_⟩) hS.2.2 dX3_patFeed_51
      · skip
        refine lv_iconst (v := zI 0) hx hb dX3_patFeed_23 (by first | rfl | decide) ?_
        have hfk : fok sg pr ps x = false := fok_f (by omega)
        have hP : va_P D vwCl [(d 0, .inr (3, mo d rm sg pr sz bt (if fok sg pr ps x = true then ps + 1 else ps) fi ht (if fok sg pr ps x = true then 0 else fo))), (d 4, .inl (cI, nP, .inl (zA (if fok sg pr ps x = true then zup pt ps x else pt))))] s.heap := by (simp only [hfk, Bool.false_eq_true, if_false]; exact hP)
        have hD : va_D A [(d 0, .inr (3, mo d rm sg pr sz bt (if fok sg pr ps x = true then ps + 1 else ps) fi ht (if fok sg pr ps x = true then 0 else fo))), (d 4, .inl (cI, nP, .inl (zA (if fok sg pr ps x = true then zup pt ps x else pt))))] := by (simp only [hfk, Bool.false_eq_true, if_false]; exact hD)
        exact W.zret (ty := .boolean) (v := zI 0) hx hb hr (znar_b2 (by first | exact Or.inl rfl | exact Or.inr rfl | exact bi_01 _ | with_reducible assumption | omega)) (fun t ht_ hW_ => ⟨⟨0, (), rfl, ⟨by rw [hfk]; rfl, trivial⟩, by rw [ht_]; exact hP, hD⟩, hS.F ht_⟩) hS.2.2 dX3_patFeed_24
set_option maxHeartbeats 4000000 in
set_option maxRecDepth 100000 in
/-- patClear() -/
theorem kX3_patClear (l : Launch) (D : va_G) (cI cZ cL : ClassId) (d : Nat → Nat) (rm sg pr sz bt ps fi ht fo : Int) (szz : Nat) : Met l yX3_patClear wsX3_patClear ({ frames := 0, cells := 0, slots := 0, locals := 0 }) (zPw D cI cZ cL szz [.ref (d 0)] [(d 0, .inr (3, mo d rm sg pr sz bt ps fi ht fo))]) (zQw D (va_A [(d 0, .inr (3, mo d rm sg pr sz bt ps fi ht fo))] szz) (fun _ : Unit => True) (fun _ : Unit => [(d 0, .inr (3, mo d rm sg pr sz bt 0 fi ht 0))])) 0 0 (va_A [(d 0, .inr (3, mo d rm sg pr sz bt ps fi ht fo))] szz) := by
  refine Met.ofW (cc := cX3_patClear) (maxL := 1) (ret := none) (by decide) rfl ?_
  intro p e s m args below meth c s₁ B hml hv
  obtain ⟨rfl, hsz, hP, hK, hD0⟩ := hv
  have hx := B.exec
  have hb := B.bytes
  have hr := B.returns
  have hts := atoms_spec (ws := wsX3_patClear) B.pre
  have hown : s.vm.findClass RX3 = some m.cls := findClass_of_methodNamed B.named
  have hlocks := B.notSynchronized
  subst hsz
  have hD := hD0.self (sz := s.heap.size)
  generalize hAe : va_A [(d 0, .inr (3, mo d rm sg pr sz bt ps fi ht fo))] s.heap.size = A at hD ⊢
  have hA : ∀ q : Nat, s.heap.size ≤ q → A q := fun q h => by rw [← hAe]; exact Or.inr h
  have hS : va_S A s.heap s.heap [] := va_S.rf
  clear hD0
  have hP : va_P D vwCl [(d 0, .inr (3, mo d rm sg pr sz bt ps fi ht fo))] s.heap := hP
  have hl := lv_entry ([.ref (d 0)]) (n := 1) (Nat.le_of_ble_eq_true rfl)
  rw [lg_entry_eq]
  generalize (lg_sl ([.ref (d 0)]) ++ List.replicate (1 - (lg_sl ([.ref (d 0)])).length) Slot.unset).toArray = ls at hl ⊢
  have hl : lv_has ls 1 [(0, .ref (d 0))] := hl
  refine lv_aload_n hx hb dX3_patClear_0 rfl (lv_at hl 0 rfl) ?_
  refine lv_iconst (v := zI 0) hx hb dX3_patClear_1 (by first | rfl | decide) ?_
  refine va_put (D := D) (ci := 3) (v := .int (zI 0)) (ty := .int) (C := RX3) (T := TX3) (N := 13) hx hb hts inX3_patClear_X3 tyX3 tyX3_ok nmX3 hown hK.1 hP hD hS 0 rfl rfl 9 (by decide) (hts (.fieldLink RX3 57 "TextEndsModel" "patternSize" "I") (List.mem_of_getElem? (i := 1) rfl)) (fun _ h9 => h9) rfl (by decide +kernel) rfl rfl (Nat.le_of_ble_eq_true rfl) dX3_patClear_2 (fun H locs hP hD hS => ?_)
  have hP : va_P D vwCl [(d 0, .inr (3, mo d rm sg pr sz bt 0 fi ht fo))] H := hP
  have hD : va_D A [(d 0, .inr (3, mo d rm sg pr sz bt 0 fi ht fo))] := hD
  refine lv_aload_n hx hb dX3_patClear_5 rfl (lv_at hl 0 rfl) ?_
  refine lv_iconst (v := zI 0) hx hb dX3_patClear_6 (by first | rfl | decide) ?_
  refine va_put (D := D) (ci := 3) (v := .int (zI 0)) (ty := .boolean) (C := RX3) (T := TX3) (N := 13) hx hb hts inX3_patClear_X3 tyX3 tyX3_ok nmX3 hown hK.1 hP hD hS 0 rfl rfl 12 (by decide) (hts (.fieldLink RX3 39 "TextEndsModel" "found" "Z") (List.mem_of_getElem? (i := 2) rfl)) (fun _ h9 => h9) rfl (by decide +kernel) (znar_b2 (by first | exact Or.inl rfl | exact Or.inr rfl | exact bi_01 _ | with_reducible assumption | omega)) (zfit_b (by first | exact Or.inl rfl | exact Or.inr rfl | exact bi_01 _ | with_reducible assumption | omega)) (Nat.le_of_ble_eq_true rfl) dX3_patClear_7 (fun H locs hP hD hS => ?_)
  have hP : va_P D vwCl [(d 0, .inr (3, mo d rm sg pr sz bt 0 fi ht 0))] H := hP
  have hD : va_D A [(d 0, .inr (3, mo d rm sg pr sz bt 0 fi ht 0))] := hD
  exact W.vret hx hb hr (fun t ht_ hW_ => ⟨⟨(), rfl, trivial, by rw [ht_]; exact hP, hD⟩, hS.F ht_⟩) hS.2.2 dX3_patClear_10
set_option maxHeartbeats 4000000 in
set_option maxRecDepth 100000 in
/-- clear() -/
theorem kX3_clear (l : Launch) (D : va_G) (cI cZ cL : ClassId) (d : Nat → Nat) (rm sg pr sz bt ps fi ht fo : Int) (szz : Nat) : Met l yX3_clear wsX3_clear ({ frames := 0, cells := 0, slots := 0, locals := 0 }) (zPw D cI cZ cL szz [.ref (d 0)] [(d 0, .inr (3, mo d rm sg pr sz bt ps fi ht fo))]) (zQw D (va_A [(d 0, .inr (3, mo d rm sg pr sz bt ps fi ht fo))] szz) (fun _ : Unit => True) (fun _ : Unit => [(d 0, .inr (3, mo d rm sg pr 0 0 0 fi ht 0))])) 0 0 (va_A [(d 0, .inr (3, mo d rm sg pr sz bt ps fi ht fo))] szz) := by
  refine Met.ofW (cc := cX3_clear) (maxL := 1) (ret := none) (by decide) rfl ?_
  intro p e s m args below meth c s₁ B hml hv
  obtain ⟨rfl, hsz, hP, hK, hD0⟩ := hv
  have hx := B.exec
  have hb := B.bytes
  have hr := B.returns
  have hts := atoms_spec (ws := wsX3_clear) B.pre
  have hown : s.vm.findClass RX3 = some m.cls := findClass_of_methodNamed B.named
  have hlocks := B.notSynchronized
  subst hsz
  have hD := hD0.self (sz := s.heap.size)
  generalize hAe : va_A [(d 0, .inr (3, mo d rm sg pr sz bt ps fi ht fo))] s.heap.size = A at hD ⊢
  have hA : ∀ q : Nat, s.heap.size ≤ q → A q := fun q h => by rw [← hAe]; exact Or.inr h
  have hS : va_S A s.heap s.heap [] := va_S.rf
  clear hD0
  have hP : va_P D vwCl [(d 0, .inr (3, mo d rm sg pr sz bt ps fi ht fo))] s.heap := hP
  have hl := lv_entry ([.ref (d 0)]) (n := 1) (Nat.le_of_ble_eq_true rfl)
  rw [lg_entry_eq]
  generalize (lg_sl ([.ref (d 0)]) ++ List.replicate (1 - (lg_sl ([.ref (d 0)])).length) Slot.unset).toArray = ls at hl ⊢
  have hl : lv_has ls 1 [(0, .ref (d 0))] := hl
  refine lv_aload_n hx hb dX3_clear_0 rfl (lv_at hl 0 rfl) ?_
  refine lv_iconst (v := zI 0) hx hb dX3_clear_1 (by first | rfl | decide) ?_
  refine va_put (D := D) (ci := 3) (v := .int (zI 0)) (ty := .int) (C := RX3) (T := TX3) (N := 13) hx hb hts inX3_clear_X3 tyX3 tyX3_ok nmX3 hown hK.1 hP hD hS 0 rfl rfl 4 (by decide) (hts (.fieldLink RX3 32 "TextEndsModel" "size" "I") (List.mem_of_getElem? (i := 1) rfl)) (fun _ h9 => h9) rfl (by decide +kernel) rfl rfl (Nat.le_of_ble_eq_true rfl) dX3_clear_2 (fun H locs hP hD hS => ?_)
  have hP : va_P D vwCl [(d 0, .inr (3, mo d rm sg pr 0 bt ps fi ht fo))] H := hP
  have hD : va_D A [(d 0, .inr (3, mo d rm sg pr 0 bt ps fi ht fo))] := hD
  refine lv_aload_n hx hb dX3_clear_5 rfl (lv_at hl 0 rfl) ?_
  refine lv_iconst (v := zI 0) hx hb dX3_clear_6 (by first | rfl | decide) ?_
  refine va_put (D := D) (ci := 3) (v := .int (zI 0)) (ty := .int) (C := RX3) (T := TX3) (N := 13) hx hb hts inX3_clear_X3 tyX3 tyX3_ok nmX3 hown hK.1 hP hD hS 0 rfl rfl 9 (by decide) (hts (.fieldLink RX3 57 "TextEndsModel" "patternSize" "I") (List.mem_of_getElem? (i := 2) rfl)) (fun _ h9 => h9) rfl (by decide +kernel) rfl rfl (Nat.le_of_ble_eq_true rfl) dX3_clear_7 (fun H locs hP hD hS => ?_)
  have hP : va_P D vwCl [(d 0, .inr (3, mo d rm sg pr 0 bt 0 fi ht fo))] H := hP
  have hD : va_D A [(d 0, .inr (3, mo d rm sg pr 0 bt 0 fi ht fo))] := hD
  refine lv_aload_n hx hb dX3_clear_10 rfl (lv_at hl 0 rfl) ?_
  refine lv_iconst (v := zI 0) hx hb dX3_clear_11 (by first | rfl | decide) ?_
  refine va_put (D := D) (ci := 3) (v := .int (zI 0)) (ty := .boolean) (C := RX3) (T := TX3) (N := 13) hx hb hts inX3_clear_X3 tyX3 tyX3_ok nmX3 hown hK.1 hP hD hS 0 rfl rfl 5 (by decide) (hts (.fieldLink RX3 35 "TextEndsModel" "built" "Z") (List.mem_of_getElem? (i := 3) rfl)) (fun _ h9 => h9) rfl (by decide +kernel) (znar_b2 (by first | exact Or.inl rfl | exact Or.inr rfl | exact bi_01 _ | with_reducible assumption | omega)) (zfit_b (by first | exact Or.inl rfl | exact Or.inr rfl | exact bi_01 _ | with_reducible assumption | omega)) (Nat.le_of_ble_eq_true rfl) dX3_clear_12 (fun H locs hP hD hS => ?_)
  have hP : va_P D vwCl [(d 0, .inr (3, mo d rm sg pr 0 0 0 fi ht fo))] H := hP
  have hD : va_D A [(d 0, .inr (3, mo d rm sg pr 0 0 0 fi ht fo))] := hD
  refine lv_aload_n hx hb dX3_clear_15 rfl (lv_at hl 0 rfl) ?_
  refine lv_iconst (v := zI 0) hx hb dX3_clear_16 (by first | rfl | decide) ?_
  refine va_put (D := D) (ci := 3) (v := .int (zI 0)) (ty := .boolean) (C := RX3) (T := TX3) (N := 13) hx hb hts inX3_clear_X3 tyX3 tyX3_ok nmX3 hown hK.1 hP hD hS 0 rfl rfl 12 (by decide) (hts (.fieldLink RX3 39 "TextEndsModel" "found" "Z") (List.mem_of_getElem? (i := 4) rfl)) (fun _ h9 => h9) rfl (by decide +kernel) (znar_b2 (by first | exact Or.inl rfl | exact Or.inr rfl | exact bi_01 _ | with_reducible assumption | omega)) (zfit_b (by first | exact Or.inl rfl | exact Or.inr rfl | exact bi_01 _ | with_reducible assumption | omega)) (Nat.le_of_ble_eq_true rfl) dX3_clear_17 (fun H locs hP hD hS => ?_)
  have hP : va_P D vwCl [(d 0, .inr (3, mo d rm sg pr 0 0 0 fi ht 0))] H := hP
  have hD : va_D A [(d 0, .inr (3, mo d rm sg pr 0 0 0 fi ht 0))] := hD
  exact W.vret hx hb hr (fun t ht_ hW_ => ⟨⟨(), rfl, trivial, by rw [ht_]; exact hP, hD⟩, hS.F ht_⟩) hS.2.2 dX3_clear_20
set_option maxHeartbeats 4000000 in
set_option maxRecDepth 100000 in
/-- begins(place) -/
theorem kX3_begins (l : Launch) (D : va_G) (cI cZ cL : ClassId) (d : Nat → Nat) (rm sg pr sz bt ps fi ht fo : Int) (nT nP : Nat) (T pt : Int → Int) (pl : Int) (hsz : 0 ≤ sz ∧ sz ≤ 1000000) (hsT : sz ≤ (nT : Int)) (bnT : (nT : Int) < 1073741824) (hT : zS T) (hps : 0 ≤ ps ∧ ps ≤ 1000000) (hpP : ps ≤ (nP : Int)) (bnP : (nP : Int) < 1073741824) (hpt : zS pt) (hpl : 0 ≤ pl ∧ pl ≤ sz) : Met l yX3_begins wsX3_begins ({ frames := 0, cells := 0, slots := 0, locals := 0 }) (zPr D cI cZ cL [.ref (d 0), .int (zI pl)] [(d 0, .inr (3, mo d rm sg pr sz bt ps fi ht fo)), (d 1, .inl (cI, nT, .inl (zA T))), (d 4, .inl (cI, nP, .inl (zA pt)))]) (zQi (fun r => r = bi (zbg ps sz T pt pl))) 0 0 (fun _ => False) := by
  refine Met.ofW (cc := cX3_begins) (maxL := 3) (ret := (some .boolean)) (by decide) rfl ?_
  intro p e s m args below meth c s₁ B hml hv
  obtain ⟨rfl, hP, hK⟩ := hv
  have hx := B.exec
  have hb := B.bytes
  have hr := B.returns
  have hts := atoms_spec (ws := wsX3_begins) B.pre
  have hown : s.vm.findClass RX3 = some m.cls := findClass_of_methodNamed B.named
  have hlocks := B.notSynchronized
  have hP : va_P D vwCl [(d 0, .inr (3, mo d rm sg pr sz bt ps fi ht fo)), (d 1, .inl (cI, nT, .inl (zA T))), (d 4, .inl (cI, nP, .inl (zA pt)))] s.heap := hP
  have hl := lv_entry ([.ref (d 0), .int (zI pl)]) (n := 3) (Nat.le_of_ble_eq_true rfl)
  rw [lg_entry_eq]
  generalize (lg_sl ([.ref (d 0), .int (zI pl)]) ++ List.replicate (3 - (lg_sl ([.ref (d 0), .int (zI pl)])).length) Slot.unset).toArray = ls at hl ⊢
  have hl : lv_has ls 3 [(0, .ref (d 0)), (1, .int (zI pl))] := hl
  refine lv_iconst (v := zI 0) hx hb dX3_begins_0 (by first | rfl | decide) ?_
  refine lv_istore_n (lv' := [(2, .int (zI 0)), (0, .ref (d 0)), (1, .int (zI pl))]) hx hb dX3_begins_1 rfl hl (by decide) rfl (fun ls hl => ?_)
  have loop2 : ∀ (nn : Nat) (k : Int) (ls : Array Slot), (0 ≤ k ∧ k ≤ ps) → (∀ j, 0 ≤ j → j < k → pl + j < sz ∧ T (pl + j) = pt j) → ((ps - k).toNat) < nn → lv_has ls 3 [(0, .ref (d 0)), (1, .int (zI pl)), (2, .int (zI k))] → W p l e (headSpec wsX3_begins ({ frames := 0, cells := 0, slots := 0, locals := 0 })).room s m ([.ref (d 0), .int (zI pl)] : List Value).toArray below meth c s.heap [] 0 0 (MQ below (zQi (fun r => r = bi (zbg ps sz T pt pl))) ([.ref (d 0), .int (zI pl)] : List Value).toArray s 0 0 (fun _ => False)) (F0 m 2 ls []) := by
    intro nn
    induction nn with
    | zero =>
      intros
      exact absurd (by assumption : _ < 0) (Nat.not_lt_zero _)
    | succ nn ih2 =>
      intro k ls h0 hq hmu hl
      refine lv_iload_n hx hb dX3_begins_2 rfl (lv_at hl 2 rfl) ?_
      refine lv_aload_n hx hb dX3_begins_3 rfl (lv_at hl 0 rfl) ?_
      refine va_get (D := D) (ci := 3) (v := .int (zI ps)) (C := RX3) (T := TX3) (N := 13) hx hb hts inX3_begins_X3 hown hK.1 hP 0 rfl rfl 9 (by decide) (hts (.fieldLink RX3 57 "TextEndsModel" "patternSize" "I") (List.mem_of_getElem? (i := 1) rfl)) (fun _ h9 => h9) rfl dX3_begins_4 ?_
      refine z_icmp_ge (tgt := 45) hx hb dX3_begins_7 (by decide) (by omega) (by omega) (fun h_1 => ?_) (fun h_1 => ?_)
      · skip
        refine lv_iconst (v := zI 1) hx hb dX3_begins_45 (by first | rfl | decide) ?_
        exact W.zret (ty := .boolean) (v := zI 1) hx hb hr (znar_b2 (by first | exact Or.inl rfl | exact Or.inr rfl | exact bi_01 _ | with_reducible assumption | omega)) (fun t ht_ hW_ => ⟨1, rfl, zbg_t (fun j a b => hq j a (by omega)), ht_⟩) (fun q h => by cases h) dX3_begins_46
      · skip
        refine lv_iload_n hx hb dX3_begins_10 rfl (lv_at hl 1 rfl) ?_
        refine lv_iload_n hx hb dX3_begins_11 rfl (lv_at hl 2 rfl) ?_
        refine z_iadd hx hb dX3_begins_12 ?_
        refine lv_aload_n hx hb dX3_begins_13 rfl (lv_at hl 0 rfl) ?_
        refine va_get (D := D) (ci := 3) (v := .int (zI sz)) (C := RX3) (T := TX3) (N := 13) hx hb hts inX3_begins_X3 hown hK.1 hP 0 rfl rfl 4 (by decide) (hts (.fieldLink RX3 32 "TextEndsModel" "size" "I") (List.mem_of_getElem? (i := 2) rfl)) (fun _ h9 => h9) rfl dX3_begins_14 ?_
        refine z_icmp_ge (tgt := 37) hx hb dX3_begins_17 (by decide) (by omega) (by omega) (fun h_2 => ?_) (fun h_2 => ?_)
        · skip
          have c1 := h_2
          refine lv_iconst (v := zI 0) hx hb dX3_begins_37 (by first | rfl | decide) ?_
          exact W.zret (ty := .boolean) (v := zI 0) hx hb hr (znar_b2 (by first | exact Or.inl rfl | exact Or.inr rfl | exact bi_01 _ | with_reducible assumption | omega)) (fun t ht_ hW_ => ⟨0, rfl, by first | exact zbg_f (fun z => c2 (z k (by omega) (by omega)).2) | exact zbg_f (fun z => by have := (z k (by omega) (by omega)).1; omega), ht_⟩) (fun q h => by cases h) dX3_begins_38
        · skip
          have hk1 := hT (pl + k)
          have hk2 := hpt k
          refine lv_aload_n hx hb dX3_begins_20 rfl (lv_at hl 0 rfl) ?_
          refine va_get (D := D) (ci := 3) (v := .ref (d 1)) (C := RX3) (T := TX3) (N := 13) hx hb hts inX3_begins_X3 hown hK.1 hP 0 rfl rfl 3 (by decide) (hts (.fieldLink RX3 7 "TextEndsModel" "text" "[I") (List.mem_of_getElem? (i := 3) rfl)) (fun _ h9 => h9) rfl dX3_begins_21 ?_
          refine lv_iload_n hx hb dX3_begins_24 rfl (lv_at hl 1 rfl) ?_
          refine lv_iload_n hx hb dX3_begins_25 rfl (lv_at hl 2 rfl) ?_
          refine z_iadd hx hb dX3_begins_26 ?_
          refine z_iald hx hb hK.1 hP 1 0 rfl rfl dX3_begins_27 (by omega) (by omega) (by omega) ?_
          refine lv_aload_n hx hb dX3_begins_28 rfl (lv_at hl 0 rfl) ?_
          refine va_get (D := D) (ci := 3) (v := .ref (d 4)) (C := RX3) (T := TX3) (N := 13) hx hb hts inX3_begins_X3 hown hK.1 hP 0 rfl rfl 8 (by decide) (hts (.fieldLink RX3 19 "TextEndsModel" "pattern" "[I") (List.mem_of_getElem? (i := 4) rfl)) (fun _ h9 => h9) rfl dX3_begins_29 ?_
          refine lv_iload_n hx hb dX3_begins_32 rfl (lv_at hl 2 rfl) ?_
          refine z_iald hx hb hK.1 hP 2 0 rfl rfl dX3_begins_33 (by omega) (by omega) (by omega) ?_
          refine z_icmp_eq (tgt := 39) hx hb dX3_begins_34 (by decide) (by omega) (by omega) (fun h_3 => ?_) (fun h_3 => ?_)
          · skip
            refine lv_iinc (v := zI (k + 1)) (lv' := [(2, .int (zI (k + 1))), (0, .ref (d 0)), (1, .int (zI pl))]) hx hb dX3_begins_39 hl (k := 2) rfl (zI_add _ _) (by decide) rfl (fun ls hl => ?_)
            refine lv_goto (tgt := 2) hx hb dX3_begins_42 (by decide) ?_
            exact ih2 (k + 1) ls (by omega) (fun j a b => by rcases Int.lt_or_eq_of_le (show j ≤ k by omega) with q | q; exact hq j a q; rw [q]; exact ⟨by omega, by with_reducible assumption⟩) (by omega) (lv_sub hl [1, 2, 0] rfl)
          · skip
            have c2 := h_3
            refine lv_iconst (v := zI 0) hx hb dX3_begins_37 (by first | rfl | decide) ?_
            exact W.zret (ty := .boolean) (v := zI 0) hx hb hr (znar_b2 (by first | exact Or.inl rfl | exact Or.inr rfl | exact bi_01 _ | with_reducible assumption | omega)) (fun t ht_ hW_ => ⟨0, rfl, by first | exact zbg_f (fun z => c2 (z k (by omega) (by omega)).2) | exact zbg_f (fun z => by have := (z k (by omega) (by omega)).1; omega), ht_⟩) (fun q h => by cases h) dX3_begins_38
  exact loop2 _ 0 ls (by omega) (fun j a b => absurd b (by omega)) (Nat.lt_succ_self _) (lv_sub hl [1, 2, 0] rfl)
set_option maxHeartbeats 4000000 in
set_option maxRecDepth 100000 in
/-- search() -/
theorem kX3_search (l : Launch) (D : va_G) (cI cZ cL : ClassId) (d : Nat → Nat) (rm sg pr sz bt ps fi ht fo : Int) (nT nO nP : Nat) (T od pt : Int → Int) (szz : Nat) (hsz : 0 ≤ sz ∧ sz ≤ 1000000) (hsT : sz ≤ (nT : Int)) (bnT : (nT : Int) < 1073741824) (hT : zS T) (hbt : bt = 0 ∨ bt = 1) (hsO : sz ≤ (nO : Int)) (bnO : (nO : Int) < 1073741824) (hod : bt ≠ 0 → ∀ i, 0 ≤ i → i < sz → 0 ≤ od i ∧ od i < sz) (hps : 0 ≤ ps ∧ ps ≤ 1000000) (hpP : ps ≤ (nP : Int)) (bnP : (nP : Int) < 1073741824) (hpt : zS pt) : Met l yX3_search wsX3_search ({ frames := 1, cells := 0, slots := 0, locals := 22 }) (zPw D cI cZ cL szz [.ref (d 0)] [(d 0, .inr (3, mo d rm sg pr sz bt ps fi ht fo)), (d 1, .inl (cI, nT, .inl (zA T))), (d 2, .inl (cI, nO, .inl (zA od))), (d 4, .inl (cI, nP, .inl (zA pt)))]) (zQwi D (va_A [(d 0, .inr (3, mo d rm sg pr sz bt ps fi ht fo)), (d 1, .inl (cI, nT, .inl (zA T))), (d 2, .inl (cI, nO, .inl (zA od))), (d 4, .inl (cI, nP, .inl (zA pt)))] szz) (fun (r : Int) (_ : Unit) => r = (if bt = 0 then -1 else (zit (stH ps sz T pt od) sz.toNat (fi, 0)).2) ∧ True) (fun _ : Unit => [(d 0, .inr (3, mo d rm sg pr sz bt ps (if bt = 0 then fi else (zit (stH ps sz T pt od) sz.toNat (fi, 0)).1) (if bt = 0 then ht else (zit (stH ps sz T pt od) sz.toNat (fi, 0)).2) bt)), (d 1, .inl (cI, nT, .inl (zA T))), (d 2, .inl (cI, nO, .inl (zA od))), (d 4, .inl (cI, nP, .inl (zA pt)))])) 0 0 (va_A [(d 0, .inr (3, mo d rm sg pr sz bt ps fi ht fo)), (d 1, .inl (cI, nT, .inl (zA T))), (d 2, .inl (cI, nO, .inl (zA od))), (d 4, .inl (cI, nP, .inl (zA pt)))] szz) := by
  refine Met.ofW (cc := cX3_search) (maxL := 2) (ret := (some .int)) (by decide) rfl ?_
  intro p e s m args below meth c s₁ B hml hv
  obtain ⟨rfl, hsz, hP, hK, hD0⟩ := hv
  have hx := B.exec
  have hb := B.bytes
  have hr := B.returns
  have hts := atoms_spec (ws := wsX3_search) B.pre
  have hown : s.vm.findClass RX3 = some m.cls := findClass_of_methodNamed B.named
  have hlocks := B.notSynchronized
  subst hsz
  have hD := hD0.self (sz := s.heap.size)
  generalize hAe : va_A [(d 0, .inr (3, mo d rm sg pr sz bt ps fi ht fo)), (d 1, .inl (cI, nT, .inl (zA T))), (d 2, .inl (cI, nO, .inl (zA od))), (d 4, .inl (cI, nP, .inl (zA pt)))] s.heap.size = A at hD ⊢
  have hA : ∀ q : Nat, s.heap.size ≤ q → A q := fun q h => by rw [← hAe]; exact Or.inr h
  have hS : va_S A s.heap s.heap [] := va_S.rf
  clear hD0
  have hP : va_P D vwCl [(d 0, .inr (3, mo d rm sg pr sz bt ps fi ht fo)), (d 1, .inl (cI, nT, .inl (zA T))), (d 2, .inl (cI, nO, .inl (zA od))), (d 4, .inl (cI, nP, .inl (zA pt)))] s.heap := hP
  have hl := lv_entry ([.ref (d 0)]) (n := 2) (Nat.le_of_ble_eq_true rfl)
  rw [lg_entry_eq]
  generalize (lg_sl ([.ref (d 0)]) ++ List.replicate (2 - (lg_sl ([.ref (d 0)])).length) Slot.unset).toArray = ls at hl ⊢
  have hl : lv_has ls 2 [(0, .ref (d 0))] := hl
  refine lv_aload_n hx hb dX3_search_0 rfl (lv_at hl 0 rfl) ?_
  refine lv_aload_n hx hb dX3_search_1 rfl (lv_at hl 0 rfl) ?_
  refine va_get (D := D) (ci := 3) (v := .int (zI bt)) (C := RX3) (T := TX3) (N := 13) hx hb hts inX3_search_X3 hown hK.1 hP 0 rfl rfl 5 (by decide) (hts (.fieldLink RX3 35 "TextEndsModel" "built" "Z") (List.mem_of_getElem? (i := 1) rfl)) (fun _ h9 => h9) rfl dX3_search_2 ?_
  refine va_put (D := D) (ci := 3) (v := .int (zI bt)) (ty := .boolean) (C := RX3) (T := TX3) (N := 13) hx hb hts inX3_search_X3 tyX3 tyX3_ok nmX3 hown hK.1 hP hD hS 0 rfl rfl 12 (by decide) (hts (.fieldLink RX3 39 "TextEndsModel" "found" "Z") (List.mem_of_getElem? (i := 2) rfl)) (fun _ h9 => h9) rfl (by decide +kernel) (znar_b2 (hbt)) (zfit_b (hbt)) (Nat.le_of_ble_eq_true rfl) dX3_search_5 (fun H locs hP hD hS => ?_)
  have hP : va_P D vwCl [(d 0, .inr (3, mo d rm sg pr sz bt ps fi ht bt)), (d 1, .inl (cI, nT, .inl (zA T))), (d 2, .inl (cI, nO, .inl (zA od))), (d 4, .inl (cI, nP, .inl (zA pt)))] H := hP
  have hD : va_D A [(d 0, .inr (3, mo d rm sg pr sz bt ps fi ht bt)), (d 1, .inl (cI, nT, .inl (zA T))), (d 2, .inl (cI, nO, .inl (zA od))), (d 4, .inl (cI, nP, .inl (zA pt)))] := hD
  refine lv_aload_n hx hb dX3_search_8 rfl (lv_at hl 0 rfl) ?_
  refine va_get (D := D) (ci := 3) (v := .int (zI bt)) (C := RX3) (T := TX3) (N := 13) hx hb hts inX3_search_X3 hown hK.1 hP 0 rfl rfl 5 (by decide) (hts (.fieldLink RX3 35 "TextEndsModel" "built" "Z") (List.mem_of_getElem? (i := 1) rfl)) (fun _ h9 => h9) rfl dX3_search_9 ?_
  refine z_if_ne (tgt := 17) hx hb dX3_search_12 (by decide) (by omega) (fun h_1 => ?_) (fun h_1 => ?_)
  · skip
    have hz := h_1
    refine lv_aload_n hx hb dX3_search_17 rfl (lv_at hl 0 rfl) ?_
    refine lv_iconst (v := zI 0) hx hb dX3_search_18 (by first | rfl | decide) ?_
    refine va_put (D := D) (ci := 3) (v := .int (zI 0)) (ty := .int) (C := RX3) (T := TX3) (N := 13) hx hb hts inX3_search_X3 tyX3 tyX3_ok nmX3 hown hK.1 hP hD hS 0 rfl rfl 11 (by decide) (hts (.fieldLink RX3 60 "TextEndsModel" "hits" "I") (List.mem_of_getElem? (i := 3) rfl)) (fun _ h9 => h9) rfl (by decide +kernel) rfl rfl (Nat.le_of_ble_eq_true rfl) dX3_search_19 (fun H locs hP hD hS => ?_)
    have hP : va_P D vwCl [(d 0, .inr (3, mo d rm sg pr sz bt ps fi 0 bt)), (d 1, .inl (cI, nT, .inl (zA T))), (d 2, .inl (cI, nO, .inl (zA od))), (d 4, .inl (cI, nP, .inl (zA pt)))] H := hP
    have hD : va_D A [(d 0, .inr (3, mo d rm sg pr sz bt ps fi 0 bt)), (d 1, .inl (cI, nT, .inl (zA T))), (d 2, .inl (cI, nO, .inl (zA od))), (d 4, .inl (cI, nP, .inl (zA pt)))] := hD
    refine lv_aload_n hx hb dX3_search_22 rfl (lv_at hl 0 rfl) ?_
    refine va_get (D := D) (ci := 3) (v := .int (zI sz)) (C := RX3) (T := TX3) (N := 13) hx hb hts inX3_search_X3 hown hK.1 hP 0 rfl rfl 4 (by decide) (hts (.fieldLink RX3 32 "TextEndsModel" "size" "I") (List.mem_of_getElem? (i := 4) rfl)) (fun _ h9 => h9) rfl dX3_search_23 ?_
    refine lv_iconst (v := zI 1) hx hb dX3_search_26 (by first | rfl | decide) ?_
    refine z_isub hx hb dX3_search_27 ?_
    refine lv_istore_n (lv' := [(1, .int (zI (sz - 1))), (0, .ref (d 0))]) hx hb dX3_search_28 rfl hl (by decide) rfl (fun ls hl => ?_)
    have loop29 : ∀ (nn : Nat) (i : Int) (fiq : Int) (htq : Int) (H : Heap) (locs : List Loc) (ls : Array Slot), (-1 ≤ i) → (i ≤ sz - 1) → ((fiq, htq) = zit (stH ps sz T pt od) (sz - 1 - i).toNat (fi, 0)) → ((i + 1).toNat) < nn → va_P D vwCl [(d 0, .inr (3, mo d rm sg pr sz bt ps fiq htq bt)), (d 1, .inl (cI, nT, .inl (zA T))), (d 2, .inl (cI, nO, .inl (zA od))), (d 4, .inl (cI, nP, .inl (zA pt)))] H → va_D A [(d 0, .inr (3, mo d rm sg pr sz bt ps fiq htq bt)), (d 1, .inl (cI, nT, .inl (zA T))), (d 2, .inl (cI, nO, .inl (zA od))), (d 4, .inl (cI, nP, .inl (zA pt)))] → va_S A s.heap H locs → lv_has ls 2 [(0, .ref (d 0)), (1, .int (zI i))] → W p l e (headSpec wsX3_search ({ frames := 1, cells := 0, slots := 0, locals := 22 })).room s m ([.ref (d 0)] : List Value).toArray below meth c H locs 0 0 (MQ below (zQwi D A (fun (r : Int) (_ : Unit) => r = (if bt = 0 then -1 else (zit (stH ps sz T pt od) sz.toNat (fi, 0)).2) ∧ True) (fun _ : Unit => [(d 0, .inr (3, mo d rm sg pr sz bt ps (if bt = 0 then fi else (zit (stH ps sz T pt od) sz.toNat (fi, 0)).1) (if bt = 0 then ht else (zit (stH ps sz T pt od) sz.toNat (fi, 0)).2) bt)), (d 1, .inl (cI, nT, .inl (zA T))), (d 2, .inl (cI, nO, .inl (zA od))), (d 4, .inl (cI, nP, .inl (zA pt)))])) ([.ref (d 0)] : List Value).toArray s 0 0 A) (F0 m 29 ls []) := by
      intro nn
      induction nn with
      | zero =>
        intros
        exact absurd (by assumption : _ < 0) (Nat.not_lt_zero _)
      | succ nn ih29 =>
        intro i fiq htq H locs ls h0 h1 hq hmu hP hD hS hl
        refine lv_iload_n hx hb dX3_search_29 rfl (lv_at hl 1 rfl) ?_
        refine z_if_lt (tgt := 67) hx hb dX3_search_30 (by decide) (by omega) (fun h_2 => ?_) (fun h_2 => ?_)
        · skip
          rw [show sz - 1 - i = sz by omega] at hq
          have e1 : fiq = (zit (stH ps sz T pt od) sz.toNat (fi, 0)).1 := congrArg (fun z => z.1) hq
          have e2 : htq = (zit (stH ps sz T pt od) sz.toNat (fi, 0)).2 := congrArg (fun z => z.2) hq
          have hP : va_P D vwCl [(d 0, .inr (3, mo d rm sg pr sz bt ps (if bt = 0 then fi else (zit (stH ps sz T pt od) sz.toNat (fi, 0)).1) (if bt = 0 then ht else (zit (stH ps sz T pt od) sz.toNat (fi, 0)).2) bt)), (d 1, .inl (cI, nT, .inl (zA T))), (d 2, .inl (cI, nO, .inl (zA od))), (d 4, .inl (cI, nP, .inl (zA pt)))] H := by (simp only [if_neg hz, ← e1, ← e2]; exact hP)
          have hD : va_D A [(d 0, .inr (3, mo d rm sg pr sz bt ps (if bt = 0 then fi else (zit (stH ps sz T pt od) sz.toNat (fi, 0)).1) (if bt = 0 then ht else (zit (stH ps sz T pt od) sz.toNat (fi, 0)).2) bt)), (d 1, .inl (cI, nT, .inl (zA T))), (d 2, .inl (cI, nO, .inl (zA od))), (d 4, .inl (cI, nP, .inl (zA pt)))] := by (simp only [if_neg hz, ← e1, ← e2]; exact hD)
          refine lv_aload_n hx hb dX3_search_67 rfl (lv_at hl 0 rfl) ?_
          refine va_get (D := D) (ci := 3) (v := .int (zI (if bt = 0 then ht else (zit (stH ps sz T pt od) sz.toNat (fi, 0)).2))) (C := RX3) (T := TX3) (N := 13) hx hb hts inX3_search_X3 hown hK.1 hP 0 rfl rfl 11 (by decide) (hts (.fieldLink RX3 60 "TextEndsModel" "hits" "I") (List.mem_of_getElem? (i := 3) rfl)) (fun _ h9 => h9) rfl dX3_search_68 ?_
          exact W.iret (v := zI (if bt = 0 then ht else (zit (stH ps sz T pt od) sz.toNat (fi, 0)).2)) hx hb hr (fun t ht_ hW_ => ⟨⟨if bt = 0 then ht else (zit (stH ps sz T pt od) sz.toNat (fi, 0)).2, (), rfl, ⟨by rw [if_neg hz, if_neg hz], trivial⟩, by rw [ht_]; exact hP, hD⟩, hS.F ht_⟩) hS.2.2 dX3_search_71
        · skip
          have hk1 := hod hz i (by omega) (by omega)
          refine lv_aload_n hx hb dX3_search_33 rfl (lv_at hl 0 rfl) ?_
          refine lv_aload_n hx hb dX3_search_34 rfl (lv_at hl 0 rfl) ?_
          refine va_get (D := D) (ci := 3) (v := .ref (d 2)) (C := RX3) (T := TX3) (N := 13) hx hb hts inX3_search_X3 hown hK.1 hP 0 rfl rfl 6 (by decide) (hts (.fieldLink RX3 13 "TextEndsModel" "order" "[I") (List.mem_of_getElem? (i := 5) rfl)) (fun _ h9 => h9) rfl dX3_search_35 ?_
          refine lv_iload_n hx hb dX3_search_38 rfl (lv_at hl 1 rfl) ?_
          refine z_iald hx hb hK.1 hP 2 0 rfl rfl dX3_search_39 (by omega) (by omega) (by omega) ?_
          refine z_cr (va_runV (As := [.int (zI (od i))]) (rest := []) ⟨hx, hb, hml, hown, hts⟩ (kX3_begins l D cI cZ cL d rm sg pr sz bt ps fiq htq bt nT nP T pt (od i) (by omega) (by omega) (by omega) (hT) (by omega) (by omega) (by omega) (hpt) (by omega)) (cwV 1 hts gX3_search_X3_begins rfl rfl rfl (by decide +kernel) ⟨Nat.le_of_ble_eq_true rfl, Nat.le_of_ble_eq_true rfl⟩) (zPr_preV (ci := 3) (q0 := 0) hK (hP.sub (ws' := [(d 0, .inr (3, mo d rm sg pr sz bt ps fiq htq bt)), (d 1, .inl (cI, nT, .inl (zA T))), (d 4, .inl (cI, nP, .inl (zA pt)))]) [0, 1, 3] rfl) rfl rfl) rfl rfl hl.1 rfl (lv_room (Nat.le_of_ble_eq_true rfl)) dX3_search_40 ⟨Nat.zero_le _, Nat.zero_le _⟩) (fun r hr_ => ?_)
          subst hr_
          refine z_if_eq (tgt := 61) hx hb dX3_search_43 (by decide) (bi_R _) (fun h_3 => ?_) (fun h_3 => ?_)
          · skip
            refine lv_iinc (v := zI (i + (-1))) (lv' := [(1, .int (zI (i + (-1)))), (0, .ref (d 0))]) hx hb dX3_search_61 hl (k := 1) rfl (zI_add _ _) (by decide) rfl (fun ls hl => ?_)
            refine lv_goto (tgt := 29) hx hb dX3_search_64 (by decide) ?_
            exact ih29 (i + (-1)) fiq htq _ _ ls (by omega) (by omega) (by first | exact stH_t hq h1 (bi_ne (by with_reducible assumption)) | exact stH_f hq h1 (bi_eq (by with_reducible assumption))) (by omega) (hP) (hD) hS (lv_sub hl [1, 0] rfl)
          · skip
            refine lv_aload_n hx hb dX3_search_46 rfl (lv_at hl 0 rfl) ?_
            refine lv_iload_n hx hb dX3_search_47 rfl (lv_at hl 1 rfl) ?_
            refine va_put (D := D) (ci := 3) (v := .int (zI i)) (ty := .int) (C := RX3) (T := TX3) (N := 13) hx hb hts inX3_search_X3 tyX3 tyX3_ok nmX3 hown hK.1 hP hD hS 0 rfl rfl 10 (by decide) (hts (.fieldLink RX3 66 "TextEndsModel" "first" "I") (List.mem_of_getElem? (i := 6) rfl)) (fun _ h9 => h9) rfl (by decide +kernel) rfl rfl (Nat.le_of_ble_eq_true rfl) dX3_search_48 (fun H locs hP hD hS => ?_)
            have hP : va_P D vwCl [(d 0, .inr (3, mo d rm sg pr sz bt ps i htq bt)), (d 1, .inl (cI, nT, .inl (zA T))), (d 2, .inl (cI, nO, .inl (zA od))), (d 4, .inl (cI, nP, .inl (zA pt)))] H := hP
            have hD : va_D A [(d 0, .inr (3, mo d rm sg pr sz bt ps i htq bt)), (d 1, .inl (cI, nT, .inl (zA T))), (d 2, .inl (cI, nO, .inl (zA od))), (d 4, .inl (cI, nP, .inl (zA pt)))] := hD
            refine lv_aload_n hx hb dX3_search_51 rfl (lv_at hl 0 rfl) ?_
            refine lv_dup hx hb dX3_search_52 rfl ?_
            refine va_get (D := D) (ci := 3) (v := .int (zI htq)) (C := RX3) (T := TX3) (N := 13) hx hb hts inX3_search_X3 hown hK.1 hP 0 rfl rfl 11 (by decide) (hts (.fieldLink RX3 60 "TextEndsModel" "hits" "I") (List.mem_of_getElem? (i := 3) rfl)) (fun _ h9 => h9) rfl dX3_search_53 ?_
            refine lv_iconst (v := zI 1) hx hb dX3_search_56 (by first | rfl | decide) ?_
            refine z_iadd hx hb dX3_search_57 ?_
            refine va_put (D := D) (ci := 3) (v := .int (zI (htq + 1))) (ty := .int) (C := RX3) (T := TX3) (N := 13) hx hb hts inX3_search_X3 tyX3 tyX3_ok nmX3 hown hK.1 hP hD hS 0 rfl rfl 11 (by decide) (hts (.fieldLink RX3 60 "TextEndsModel" "hits" "I") (List.mem_of_getElem? (i := 3) rfl)) (fun _ h9 => h9) rfl (by decide +kernel) rfl rfl (Nat.le_of_ble_eq_true rfl) dX3_search_58 (fun H locs hP hD hS => ?_)
            have hP : va_P D vwCl [(d 0, .inr (3, mo d rm sg pr sz bt ps i (htq + 1) bt)), (d 1, .inl (cI, nT, .inl (zA T))), (d 2, .inl (cI, nO, .inl (zA od))), (d 4, .inl (cI, nP, .inl (zA pt)))] H := hP
            have hD : va_D A [(d 0, .inr (3, mo d rm sg pr sz bt ps i (htq + 1) bt)), (d 1, .inl (cI, nT, .inl (zA T))), (d 2, .inl (cI, nO, .inl (zA od))), (d 4, .inl (cI, nP, .inl (zA pt)))] := hD
            refine lv_iinc (v := zI (i + (-1))) (lv' := [(1, .int (zI (i + (-1)))), (0, .ref (d 0))]) hx hb dX3_search_61 hl (k := 1) rfl (zI_add _ _) (by decide) rfl (fun ls hl => ?_)
            refine lv_goto (tgt := 29) hx hb dX3_search_64 (by decide) ?_
            exact ih29 (i + (-1)) i (htq + 1) _ _ ls (by omega) (by omega) (by first | exact stH_t hq h1 (bi_ne (by with_reducible assumption)) | exact stH_f hq h1 (bi_eq (by with_reducible assumption))) (by omega) (hP) (hD) hS (lv_sub hl [1, 0] rfl)
    exact loop29 _ (sz - 1) fi 0 _ _ ls (by omega) (by omega) (by rw [show sz - 1 - (sz - 1) = 0 by omega]; rfl) (Nat.lt_succ_self _) hP hD hS (lv_sub hl [1, 0] rfl)
  · skip
    have hz := h_1
    refine lv_iconst (v := zI (-1)) hx hb dX3_search_15 (by first | rfl | decide) ?_
    have hP : va_P D vwCl [(d 0, .inr (3, mo d rm sg pr sz bt ps (if bt = 0 then fi else (zit (stH ps sz T pt od) sz.toNat (fi, 0)).1) (if bt = 0 then ht else (zit (stH ps sz T pt od) sz.toNat (fi, 0)).2) bt)), (d 1, .inl (cI, nT, .inl (zA T))), (d 2, .inl (cI, nO, .inl (zA od))), (d 4, .inl (cI, nP, .inl (zA pt)))] H := by (simp only [if_pos hz]; exact hP)
    have hD : va_D A [(d 0, .inr (3, mo d rm sg pr sz bt ps (if bt = 0 then fi else (zit (stH ps sz T pt od) sz.toNat (fi, 0)).1) (if bt = 0 then ht else (zit (stH ps sz T pt od) sz.toNat (fi, 0)).2) bt)), (d 1, .inl (cI, nT, .inl (zA T))), (d 2, .inl (cI, nO, .inl (zA od))), (d 4, .inl (cI, nP, .inl (zA pt)))] := by (simp only [if_pos hz]; exact hD)
    exact W.iret (v := zI (-1)) hx hb hr (fun t ht_ hW_ => ⟨⟨(-1), (), rfl, ⟨by rw [if_pos hz], trivial⟩, by rw [ht_]; exact hP, hD⟩, hS.F ht_⟩) hS.2.2 dX3_search_16
set_option maxHeartbeats 4000000 in
set_option maxRecDepth 100000 in
/-- hit(k) -/
theorem kX3_hit (l : Launch) (D : va_G) (cI cZ cL : ClassId) (d : Nat → Nat) (rm sg pr sz bt ps fi ht fo : Int) (nO : Nat) (od : Int → Int) (k : Int) (hfo : fo = 0 ∨ fo = 1) (hfi : fo ≠ 0 → 0 ≤ fi ∧ 0 ≤ ht ∧ fi + ht ≤ (nO : Int)) (hhr : zR ht) (bnO : (nO : Int) < 1073741824) (hk : zR k) : Met l yX3_hit wsX3_hit ({ frames := 0, cells := 0, slots := 0, locals := 0 }) (zPr D cI cZ cL [.ref (d 0), .int (zI k)] [(d 0, .inr (3, mo d rm sg pr sz bt ps fi ht fo)), (d 2, .inl (cI, nO, .inl (zA od)))]) (zQi (fun r => r = zhi fo ht od fi k)) 0 0 (fun _ => False) := by
  refine Met.ofW (cc := cX3_hit) (maxL := 2) (ret := (some .int)) (by decide) rfl ?_
  intro p e s m args below meth c s₁ B hml hv
  obtain ⟨rfl, hP, hK⟩ := hv
  have hx := B.exec
  have hb := B.bytes
  have hr := B.returns
  have hts := atoms_spec (ws := wsX3_hit) B.pre
  have hown : s.vm.findClass RX3 = some m.cls := findClass_of_methodNamed B.named
  have hlocks := B.notSynchronized
  have hP : va_P D vwCl [(d 0, .inr (3, mo d rm sg pr sz bt ps fi ht fo)), (d 2, .inl (cI, nO, .inl (zA od)))] s.heap := hP
  have hl := lv_entry ([.ref (d 0), .int (zI k)]) (n := 2) (Nat.le_of_ble_eq_true rfl)
  rw [lg_entry_eq]
  generalize (lg_sl ([.ref (d 0), .int (zI k)]) ++ List.replicate (2 - (lg_sl ([.ref (d 0), .int (zI k)])).length) Slot.unset).toArray = ls at hl ⊢
  have hl : lv_has ls 2 [(0, .ref (d 0)), (1, .int (zI k))] := hl
  refine lv_aload_n hx hb dX3_hit_0 rfl (lv_at hl 0 rfl) ?_
  refine va_get (D := D) (ci := 3) (v := .int (zI fo)) (C := RX3) (T := TX3) (N := 13) hx hb hts inX3_hit_X3 hown hK.1 hP 0 rfl rfl 12 (by decide) (hts (.fieldLink RX3 39 "TextEndsModel" "found" "Z") (List.mem_of_getElem? (i := 1) rfl)) (fun _ h9 => h9) rfl dX3_hit_1 ?_
  refine z_if_eq (tgt := 33) hx hb dX3_hit_4 (by decide) (by omega) (fun h_1 => ?_) (fun h_1 => ?_)
  · skip
    have c1 := h_1
    refine lv_iconst (v := zI (-1)) hx hb dX3_hit_33 (by first | rfl | decide) ?_
    exact W.iret (v := zI (-1)) hx hb hr (fun t ht_ hW_ => ⟨(-1), rfl, by show _ = zhi fo ht od fi k; unfold zhi; first | rw [if_pos ⟨by omega, by omega, by omega⟩] | rw [if_neg (by omega)], ht_⟩) (fun q h => by cases h) dX3_hit_34
  · skip
    have c1 := h_1
    have hf := hfi c1
    refine lv_iload_n hx hb dX3_hit_7 rfl (lv_at hl 1 rfl) ?_
    refine z_if_lt (tgt := 33) hx hb dX3_hit_8 (by decide) (by omega) (fun h_2 => ?_) (fun h_2 => ?_)
    · skip
      refine lv_iconst (v := zI (-1)) hx hb dX3_hit_33 (by first | rfl | decide) ?_
      exact W.iret (v := zI (-1)) hx hb hr (fun t ht_ hW_ => ⟨(-1), rfl, by show _ = zhi fo ht od fi k; unfold zhi; first | rw [if_pos ⟨by omega, by omega, by omega⟩] | rw [if_neg (by omega)], ht_⟩) (fun q h => by cases h) dX3_hit_34
    · skip
      refine lv_iload_n hx hb dX3_hit_11 rfl (lv_at hl 1 rfl) ?_
      refine lv_aload_n hx hb dX3_hit_12 rfl (lv_at hl 0 rfl) ?_
      refine va_get (D := D) (ci := 3) (v := .int (zI ht)) (C := RX3) (T := TX3) (N := 13) hx hb hts inX3_hit_X3 hown hK.1 hP 0 rfl rfl 11 (by decide) (hts (.fieldLink RX3 60 "TextEndsModel" "hits" "I") (List.mem_of_getElem? (i := 2) rfl)) (fun _ h9 => h9) rfl dX3_hit_13 ?_
      refine z_icmp_ge (tgt := 33) hx hb dX3_hit_16 (by decide) (by omega) (by omega) (fun h_3 => ?_) (fun h_3 => ?_)
      · skip
        refine lv_iconst (v := zI (-1)) hx hb dX3_hit_33 (by first | rfl | decide) ?_
        exact W.iret (v := zI (-1)) hx hb hr (fun t ht_ hW_ => ⟨(-1), rfl, by show _ = zhi fo ht od fi k; unfold zhi; first | rw [if_pos ⟨by omega, by omega, by omega⟩] | rw [if_neg (by omega)], ht_⟩) (fun q h => by cases h) dX3_hit_34
      · skip
        refine lv_aload_n hx hb dX3_hit_19 rfl (lv_at hl 0 rfl) ?_
        refine va_get (D := D) (ci := 3) (v := .ref (d 2)) (C := RX3) (T := TX3) (N := 13) hx hb hts inX3_hit_X3 hown hK.1 hP 0 rfl rfl 6 (by decide) (hts (.fieldLink RX3 13 "TextEndsModel" "order" "[I") (List.mem_of_getElem? (i := 3) rfl)) (fun _ h9 => h9) rfl dX3_hit_20 ?_
        refine lv_aload_n hx hb dX3_hit_23 rfl (lv_at hl 0 rfl) ?_
        refine va_get (D := D) (ci := 3) (v := .int (zI fi)) (C := RX3) (T := TX3) (N := 13) hx hb hts inX3_hit_X3 hown hK.1 hP 0 rfl rfl 10 (by decide) (hts (.fieldLink RX3 66 "TextEndsModel" "first" "I") (List.mem_of_getElem? (i := 4) rfl)) (fun _ h9 => h9) rfl dX3_hit_24 ?_
        refine lv_iload_n hx hb dX3_hit_27 rfl (lv_at hl 1 rfl) ?_
        refine z_iadd hx hb dX3_hit_28 ?_
        refine z_iald hx hb hK.1 hP 1 0 rfl rfl dX3_hit_29 (by omega) (by omega) (by omega) ?_
        refine lv_goto (tgt := 34) hx hb dX3_hit_30 (by decide) ?_
        exact W.iret (v := zI (od (fi + k))) hx hb hr (fun t ht_ hW_ => ⟨od (fi + k), rfl, by show _ = zhi fo ht od fi k; unfold zhi; first | rw [if_pos ⟨by omega, by omega, by omega⟩] | rw [if_neg (by omega)], ht_⟩) (fun q h => by cases h) dX3_hit_34
set_option maxHeartbeats 4000000 in
set_option maxRecDepth 100000 in
/-- repeated() -/
theorem kX3_repeated (l : Launch) (D : va_G) (cI cZ cL : ClassId) (d : Nat → Nat) (rm sg pr sz bt ps fi ht fo : Int) (nT nO : Nat) (T od : Int → Int) (hsz : 0 ≤ sz ∧ sz ≤ 1000000) (hsT : sz ≤ (nT : Int)) (bnT : (nT : Int) < 1073741824) (hT : zS T) (hbt : bt = 0 ∨ bt = 1) (hsO : sz ≤ (nO : Int)) (bnO : (nO : Int) < 1073741824) (hod : bt ≠ 0 → ∀ i, 0 ≤ i → i < sz → 0 ≤ od i ∧ od i < sz) : Met l yX3_repeated wsX3_repeated ({ frames := 1, cells := 0, slots := 0, locals := 23 }) (zPr D cI cZ cL [.ref (d 0)] [(d 0, .inr (3, mo d rm sg pr sz bt ps fi ht fo)), (d 1, .inl (cI, nT, .inl (zA T))), (d 2, .inl (cI, nO, .inl (zA od)))]) (zQi (fun r => r = zrp bt sz (zcc sz T od))) 0 0 (fun _ => False) := by
  refine Met.ofW (cc := cX3_repeated) (maxL := 4) (ret := (some .int)) (by decide) rfl ?_
  intro p e s m args below meth c s₁ B hml hv
  obtain ⟨rfl, hP, hK⟩ := hv
  have hx := B.exec
  have hb := B.bytes
  have hr := B.returns
  have hts := atoms_spec (ws := wsX3_repeated) B.pre
  have hown : s.vm.findClass RX3 = some m.cls := findClass_of_methodNamed B.named
  have hlocks := B.notSynchronized
  have hP : va_P D vwCl [(d 0, .inr (3, mo d rm sg pr sz bt ps fi ht fo)), (d 1, .inl (cI, nT, .inl (zA T))), (d 2, .inl (cI, nO, .inl (zA od)))] s.heap := hP
  have hl := lv_entry ([.ref (d 0)]) (n := 4) (Nat.le_of_ble_eq_true rfl)
  rw [lg_entry_eq]
  generalize (lg_sl ([.ref (d 0)]) ++ List.replicate (4 - (lg_sl ([.ref (d 0)])).length) Slot.unset).toArray = ls at hl ⊢
  have hl : lv_has ls 4 [(0, .ref (d 0))] := hl
  refine lv_aload_n hx hb dX3_repeated_0 rfl (lv_at hl 0 rfl) ?_
  refine va_get (D := D) (ci := 3) (v := .int (zI bt)) (C := RX3) (T := TX3) (N := 13) hx hb hts inX3_repeated_X3 hown hK.1 hP 0 rfl rfl 5 (by decide) (hts (.fieldLink RX3 35 "TextEndsModel" "built" "Z") (List.mem_of_getElem? (i := 1) rfl)) (fun _ h9 => h9) rfl dX3_repeated_1 ?_
  refine z_if_ne (tgt := 9) hx hb dX3_repeated_4 (by decide) (by omega) (fun h_1 => ?_) (fun h_1 => ?_)
  · skip
    have hz := h_1
    refine lv_iconst (v := zI 0) hx hb dX3_repeated_9 (by first | rfl | decide) ?_
    refine lv_istore_n (lv' := [(1, .int (zI 0)), (0, .ref (d 0))]) hx hb dX3_repeated_10 rfl hl (by decide) rfl (fun ls hl => ?_)
    refine lv_iconst (v := zI 1) hx hb dX3_repeated_11 (by first | rfl | decide) ?_
    refine lv_istore_n (lv' := [(2, .int (zI 1)), (1, .int (zI 0)), (0, .ref (d 0))]) hx hb dX3_repeated_12 rfl hl (by decide) rfl (fun ls hl => ?_)
    have loop13 : ∀ (nn : Nat) (k : Int) (mx : Int) (ls : Array Slot), (1 ≤ k ∧ (k ≤ sz ∨ k = 1)) → (0 ≤ mx ∧ mx ≤ sz) → (mx = zit (stM (zcc sz T od)) (k - 1).toNat 0) → ((sz - k).toNat) < nn → lv_has ls 4 [(0, .ref (d 0)), (1, .int (zI mx)), (2, .int (zI k))] → W p l e (headSpec wsX3_repeated ({ frames := 1, cells := 0, slots := 0, locals := 23 })).room s m ([.ref (d 0)] : List Value).toArray below meth c s.heap [] 0 0 (MQ below (zQi (fun r => r = zrp bt sz (zcc sz T od))) ([.ref (d 0)] : List Value).toArray s 0 0 (fun _ => False)) (F0 m 13 ls []) := by
      intro nn
      induction nn with
      | zero =>
        intros
        exact absurd (by assumption : _ < 0) (Nat.not_lt_zero _)
      | succ nn ih13 =>
        intro k mx ls h0 hm hq hmu hl
        refine lv_iload_n hx hb dX3_repeated_13 rfl (lv_at hl 2 rfl) ?_
        refine lv_aload_n hx hb dX3_repeated_14 rfl (lv_at hl 0 rfl) ?_
        refine va_get (D := D) (ci := 3) (v := .int (zI sz)) (C := RX3) (T := TX3) (N := 13) hx hb hts inX3_repeated_X3 hown hK.1 hP 0 rfl rfl 4 (by decide) (hts (.fieldLink RX3 32 "TextEndsModel" "size" "I") (List.mem_of_getElem? (i := 2) rfl)) (fun _ h9 => h9) rfl dX3_repeated_15 ?_
        refine z_icmp_ge (tgt := 57) hx hb dX3_repeated_18 (by decide) (by omega) (by omega) (fun h_2 => ?_) (fun h_2 => ?_)
        · skip
          refine lv_iload_n hx hb dX3_repeated_57 rfl (lv_at hl 1 rfl) ?_
          exact W.iret (v := zI mx) hx hb hr (fun t ht_ hW_ => ⟨mx, rfl, by show _ = zrp bt sz (zcc sz T od); unfold zrp zmx; rw [if_neg hz, hq]; first | rw [show k = sz by omega] | rw [show (k - 1).toNat = (sz - 1).toNat by omega], ht_⟩) (fun q h => by cases h) dX3_repeated_58
        · skip
          have hk1 := hod hz (k - 1) (by omega) (by omega)
          have hk2 := hod hz k (by omega) (by omega)
          have hk3 := zcm_le (len := sz) (T := T) (a := od (k - 1)) (b := od k) (k := 0) (by omega) (by omega)
          refine lv_aload_n hx hb dX3_repeated_21 rfl (lv_at hl 0 rfl) ?_
          refine lv_aload_n hx hb dX3_repeated_22 rfl (lv_at hl 0 rfl) ?_
          refine va_get (D := D) (ci := 3) (v := .ref (d 2)) (C := RX3) (T := TX3) (N := 13) hx hb hts inX3_repeated_X3 hown hK.1 hP 0 rfl rfl 6 (by decide) (hts (.fieldLink RX3 13 "TextEndsModel" "order" "[I") (List.mem_of_getElem? (i := 3) rfl)) (fun _ h9 => h9) rfl dX3_repeated_23 ?_
          refine lv_iload_n hx hb dX3_repeated_26 rfl (lv_at hl 2 rfl) ?_
          refine lv_iconst (v := zI 1) hx hb dX3_repeated_27 (by first | rfl | decide) ?_
          refine z_isub hx hb dX3_repeated_28 ?_
          refine z_iald hx hb hK.1 hP 2 0 rfl rfl dX3_repeated_29 (by omega) (by omega) (by omega) ?_
          refine lv_aload_n hx hb dX3_repeated_30 rfl (lv_at hl 0 rfl) ?_
          refine va_get (D := D) (ci := 3) (v := .ref (d 2)) (C := RX3) (T := TX3) (N := 13) hx hb hts inX3_repeated_X3 hown hK.1 hP 0 rfl rfl 6 (by decide) (hts (.fieldLink RX3 13 "TextEndsModel" "order" "[I") (List.mem_of_getElem? (i := 3) rfl)) (fun _ h9 => h9) rfl dX3_repeated_31 ?_
          refine lv_iload_n hx hb dX3_repeated_34 rfl (lv_at hl 2 rfl) ?_
          refine z_iald hx hb hK.1 hP 2 0 rfl rfl dX3_repeated_35 (by omega) (by omega) (by omega) ?_
          refine z_cr (va_runV (As := [.int (zI (od (k - 1))), .int (zI (od k))]) (rest := []) ⟨hx, hb, hml, hown, hts⟩ (kX3_commonOf l D cI cZ cL d rm sg pr sz bt ps fi ht fo nT T (od (k - 1)) (od k) (by omega) (by omega) (by omega) (hT) (by omega) (by omega)) (cwV 2 hts gX3_repeated_X3_commonOf rfl rfl rfl (by decide +kernel) ⟨Nat.le_of_ble_eq_true rfl, Nat.le_of_ble_eq_true rfl⟩) (zPr_preV (ci := 3) (q0 := 0) hK (hP.sub (ws' := [(d 0, .inr (3, mo d rm sg pr sz bt ps fi ht fo)), (d 1, .inl (cI, nT, .inl (zA T)))]) [0, 1] rfl) rfl rfl) rfl rfl hl.1 rfl (lv_room (Nat.le_of_ble_eq_true rfl)) dX3_repeated_36 ⟨Nat.zero_le _, Nat.zero_le _⟩) (fun r hr_ => ?_)
          subst hr_
          refine lv_istore_n (lv' := [(3, .int (zI (zcm sz T (od (k - 1)) (od k) 0))), (0, .ref (d 0)), (1, .int (zI mx)), (2, .int (zI k))]) hx hb dX3_repeated_39 rfl hl (by decide) rfl (fun ls hl => ?_)
          refine lv_iload_n hx hb dX3_repeated_40 rfl (lv_at hl 0 rfl) ?_
          refine lv_iload_n hx hb dX3_repeated_41 rfl (lv_at hl 2 rfl) ?_
          refine z_icmp_le (tgt := 49) hx hb dX3_repeated_42 (by decide) (by omega) (by omega) (fun h_3 => ?_) (fun h_3 => ?_)
          · skip
            refine lv_iload_n hx hb dX3_repeated_49 rfl (lv_at hl 2 rfl) ?_
            refine z_top (b := if mx < zcc sz T od k then zcc sz T od k else mx) (by first | rw [if_pos (by unfold zcc; omega)]; rfl | rw [if_neg (by unfold zcc; omega)]) ?_
            refine lv_istore_n (lv' := [(1, .int (zI (if mx < zcc sz T od k then zcc sz T od k else mx))), (3, .int (zI (zcm sz T (od (k - 1)) (od k) 0))), (0, .ref (d 0)), (2, .int (zI k))]) hx hb dX3_repeated_50 rfl hl (by decide) rfl (fun ls hl => ?_)
            refine lv_iinc (v := zI (k + 1)) (lv' := [(2, .int (zI (k + 1))), (1, .int (zI (if mx < zcc sz T od k then zcc sz T od k else mx))), (3, .int (zI (zcm sz T (od (k - 1)) (od k) 0))), (0, .ref (d 0))]) hx hb dX3_repeated_51 hl (k := 3) rfl (zI_add _ _) (by decide) rfl (fun ls hl => ?_)
            refine lv_goto (tgt := 13) hx hb dX3_repeated_54 (by decide) ?_
            exact ih13 (k + 1) (if mx < zcc sz T od k then zcc sz T od k else mx) ls (by omega) (by unfold zcc; split <;> omega) (stM_s hq h0.1) (by omega) (lv_sub hl [3, 1, 0] rfl)
          · skip
            refine lv_iload_n hx hb dX3_repeated_45 rfl (lv_at hl 0 rfl) ?_
            refine lv_goto (tgt := 50) hx hb dX3_repeated_46 (by decide) ?_
            refine z_top (b := if mx < zcc sz T od k then zcc sz T od k else mx) (by first | rw [if_pos (by unfold zcc; omega)]; rfl | rw [if_neg (by unfold zcc; omega)]) ?_
            refine lv_istore_n (lv' := [(1, .int (zI (if mx < zcc sz T od k then zcc sz T od k else mx))), (3, .int (zI (zcm sz T (od (k - 1)) (od k) 0))), (0, .ref (d 0)), (2, .int (zI k))]) hx hb dX3_repeated_50 rfl hl (by decide) rfl (fun ls hl => ?_)
            refine lv_iinc (v := zI (k + 1)) (lv' := [(2, .int (zI (k + 1))), (1, .int (zI (if mx < zcc sz T od k then zcc sz T od k else mx))), (3, .int (zI (zcm sz T (od (k - 1)) (od k) 0))), (0, .ref (d 0))]) hx hb dX3_repeated_51 hl (k := 3) rfl (zI_add _ _) (by decide) rfl (fun ls hl => ?_)
            refine lv_goto (tgt := 13) hx hb dX3_repeated_54 (by decide) ?_
            exact ih13 (k + 1) (if mx < zcc sz T od k then zcc sz T od k else mx) ls (by omega) (by unfold zcc; split <;> omega) (stM_s hq h0.1) (by omega) (lv_sub hl [3, 1, 0] rfl)
    exact loop13 _ 1 0 ls (by omega) (by omega) (rfl) (Nat.lt_succ_self _) (lv_sub hl [2, 1, 0] rfl)
  · skip
    have hz := h_1
    refine lv_iconst (v := zI (-1)) hx hb dX3_repeated_7 (by first | rfl | decide) ?_
    exact W.iret (v := zI (-1)) hx hb hr (fun t ht_ hW_ => ⟨(-1), rfl, by show _ = zrp bt sz (zcc sz T od); unfold zrp; rw [if_pos hz], ht_⟩) (fun q h => by cases h) dX3_repeated_8
set_option maxHeartbeats 4000000 in
set_option maxRecDepth 100000 in
/-- different() -/
theorem kX3_different (l : Launch) (D : va_G) (cI cZ cL : ClassId) (d : Nat → Nat) (rm sg pr sz bt ps fi ht fo : Int) (nT nO : Nat) (T od : Int → Int) (hsz : 0 ≤ sz ∧ sz ≤ 1000000) (hsT : sz ≤ (nT : Int)) (bnT : (nT : Int) < 1073741824) (hT : zS T) (hbt : bt = 0 ∨ bt = 1) (hsO : sz ≤ (nO : Int)) (bnO : (nO : Int) < 1073741824) (hod : bt ≠ 0 → ∀ i, 0 ≤ i → i < sz → 0 ≤ od i ∧ od i < sz) : Met l yX3_different wsX3_different ({ frames := 1, cells := 0, slots := 0, locals := 23 }) (zPr D cI cZ cL [.ref (d 0)] [(d 0, .inr (3, mo d rm sg pr sz bt ps fi ht fo)), (d 1, .inl (cI, nT, .inl (zA T))), (d 2, .inl (cI, nO, .inl (zA od)))]) (zQi (fun r => r = zdf bt sz (fun i => sz - od i - (if i = 0 then 0 else zcc sz T od i)))) 0 0 (fun _ => False) := by
  refine Met.ofW (cc := cX3_different) (maxL := 3) (ret := (some .int)) (by decide) rfl ?_
  intro p e s m args below meth c s₁ B hml hv
  obtain ⟨rfl, hP, hK⟩ := hv
  have hx := B.exec
  have hb := B.bytes
  have hr := B.returns
  have hts := atoms_spec (ws := wsX3_different) B.pre
  have hown : s.vm.findClass RX3 = some m.cls := findClass_of_methodNamed B.named
  have hlocks := B.notSynchronized
  have hP : va_P D vwCl [(d 0, .inr (3, mo d rm sg pr sz bt ps fi ht fo)), (d 1, .inl (cI, nT, .inl (zA T))), (d 2, .inl (cI, nO, .inl (zA od)))] s.heap := hP
  have hl := lv_entry ([.ref (d 0)]) (n := 3) (Nat.le_of_ble_eq_true rfl)
  rw [lg_entry_eq]
  generalize (lg_sl ([.ref (d 0)]) ++ List.replicate (3 - (lg_sl ([.ref (d 0)])).length) Slot.unset).toArray = ls at hl ⊢
  have hl : lv_has ls 3 [(0, .ref (d 0))] := hl
  refine lv_aload_n hx hb dX3_different_0 rfl (lv_at hl 0 rfl) ?_
  refine va_get (D := D) (ci := 3) (v := .int (zI bt)) (C := RX3) (T := TX3) (N := 13) hx hb hts inX3_different_X3 hown hK.1 hP 0 rfl rfl 5 (by decide) (hts (.fieldLink RX3 35 "TextEndsModel" "built" "Z") (List.mem_of_getElem? (i := 1) rfl)) (fun _ h9 => h9) rfl dX3_different_1 ?_
  refine z_if_ne (tgt := 9) hx hb dX3_different_4 (by decide) (by omega) (fun h_1 => ?_) (fun h_1 => ?_)
  · skip
    have hz := h_1
    refine lv_iconst (v := zI 0) hx hb dX3_different_9 (by first | rfl | decide) ?_
    refine lv_istore_n (lv' := [(1, .int (zI 0)), (0, .ref (d 0))]) hx hb dX3_different_10 rfl hl (by decide) rfl (fun ls hl => ?_)
    refine lv_iconst (v := zI 0) hx hb dX3_different_11 (by first | rfl | decide) ?_
    refine lv_istore_n (lv' := [(2, .int (zI 0)), (1, .int (zI 0)), (0, .ref (d 0))]) hx hb dX3_different_12 rfl hl (by decide) rfl (fun ls hl => ?_)
    have loop13 : ∀ (nn : Nat) (k : Int) (mx : Int) (ls : Array Slot), (0 ≤ k ∧ k ≤ sz) → (mx = zit (stD (fun i => sz - od i - (if i = 0 then 0 else zcc sz T od i))) k.toNat 0) → ((sz - k).toNat) < nn → lv_has ls 3 [(0, .ref (d 0)), (1, .int (zI mx)), (2, .int (zI k))] → W p l e (headSpec wsX3_different ({ frames := 1, cells := 0, slots := 0, locals := 23 })).room s m ([.ref (d 0)] : List Value).toArray below meth c s.heap [] 0 0 (MQ below (zQi (fun r => r = zdf bt sz (fun i => sz - od i - (if i = 0 then 0 else zcc sz T od i)))) ([.ref (d 0)] : List Value).toArray s 0 0 (fun _ => False)) (F0 m 13 ls []) := by
      intro nn
      induction nn with
      | zero =>
        intros
        exact absurd (by assumption : _ < 0) (Nat.not_lt_zero _)
      | succ nn ih13 =>
        intro k mx ls h0 hq hmu hl
        refine lv_iload_n hx hb dX3_different_13 rfl (lv_at hl 2 rfl) ?_
        refine lv_aload_n hx hb dX3_different_14 rfl (lv_at hl 0 rfl) ?_
        refine va_get (D := D) (ci := 3) (v := .int (zI sz)) (C := RX3) (T := TX3) (N := 13) hx hb hts inX3_different_X3 hown hK.1 hP 0 rfl rfl 4 (by decide) (hts (.fieldLink RX3 32 "TextEndsModel" "size" "I") (List.mem_of_getElem? (i := 2) rfl)) (fun _ h9 => h9) rfl dX3_different_15 ?_
        refine z_icmp_ge (tgt := 68) hx hb dX3_different_18 (by decide) (by omega) (by omega) (fun h_2 => ?_) (fun h_2 => ?_)
        · skip
          refine lv_iload_n hx hb dX3_different_68 rfl (lv_at hl 1 rfl) ?_
          exact W.iret (v := zI mx) hx hb hr (fun t ht_ hW_ => ⟨mx, rfl, by show _ = zdf bt sz (fun i => sz - od i - (if i = 0 then 0 else zcc sz T od i)); unfold zdf; rw [if_neg hz, hq, show k = sz by omega], ht_⟩) (fun q h => by cases h) dX3_different_69
        · skip
          have hk2 := hod hz k (by omega) (by omega)
          refine lv_iload_n hx hb dX3_different_21 rfl (lv_at hl 1 rfl) ?_
          refine lv_aload_n hx hb dX3_different_22 rfl (lv_at hl 0 rfl) ?_
          refine va_get (D := D) (ci := 3) (v := .int (zI sz)) (C := RX3) (T := TX3) (N := 13) hx hb hts inX3_different_X3 hown hK.1 hP 0 rfl rfl 4 (by decide) (hts (.fieldLink RX3 32 "TextEndsModel" "size" "I") (List.mem_of_getElem? (i := 2) rfl)) (fun _ h9 => h9) rfl dX3_different_23 ?_
          refine z_iadd hx hb dX3_different_26 ?_
          refine lv_aload_n hx hb dX3_different_27 rfl (lv_at hl 0 rfl) ?_
          refine va_get (D := D) (ci := 3) (v := .ref (d 2)) (C := RX3) (T := TX3) (N := 13) hx hb hts inX3_different_X3 hown hK.1 hP 0 rfl rfl 6 (by decide) (hts (.fieldLink RX3 13 "TextEndsModel" "order" "[I") (List.mem_of_getElem? (i := 3) rfl)) (fun _ h9 => h9) rfl dX3_different_28 ?_
          refine lv_iload_n hx hb dX3_different_31 rfl (lv_at hl 2 rfl) ?_
          refine z_iald hx hb hK.1 hP 2 0 rfl rfl dX3_different_32 (by omega) (by omega) (by omega) ?_
          refine z_isub hx hb dX3_different_33 ?_
          refine lv_iload_n hx hb dX3_different_34 rfl (lv_at hl 2 rfl) ?_
          refine z_if_ne (tgt := 42) hx hb dX3_different_35 (by decide) (by omega) (fun h_3 => ?_) (fun h_3 => ?_)
          · skip
            have hn := h_3
            have hk1 := hod hz (k - 1) (by omega) (by omega)
            refine lv_aload_n hx hb dX3_different_42 rfl (lv_at hl 0 rfl) ?_
            refine lv_aload_n hx hb dX3_different_43 rfl (lv_at hl 0 rfl) ?_
            refine va_get (D := D) (ci := 3) (v := .ref (d 2)) (C := RX3) (T := TX3) (N := 13) hx hb hts inX3_different_X3 hown hK.1 hP 0 rfl rfl 6 (by decide) (hts (.fieldLink RX3 13 "TextEndsModel" "order" "[I") (List.mem_of_getElem? (i := 3) rfl)) (fun _ h9 => h9) rfl dX3_different_44 ?_
            refine lv_iload_n hx hb dX3_different_47 rfl (lv_at hl 2 rfl) ?_
            refine lv_iconst (v := zI 1) hx hb dX3_different_48 (by first | rfl | decide) ?_
            refine z_isub hx hb dX3_different_49 ?_
            refine z_iald hx hb hK.1 hP 2 0 rfl rfl dX3_different_50 (by omega) (by omega) (by omega) ?_
            refine lv_aload_n hx hb dX3_different_51 rfl (lv_at hl 0 rfl) ?_
            refine va_get (D := D) (ci := 3) (v := .ref (d 2)) (C := RX3) (T := TX3) (N := 13) hx hb hts inX3_different_X3 hown hK.1 hP 0 rfl rfl 6 (by decide) (hts (.fieldLink RX3 13 "TextEndsModel" "order" "[I") (List.mem_of_getElem? (i := 3) rfl)) (fun _ h9 => h9) rfl dX3_different_52 ?_
            refine lv_iload_n hx hb dX3_different_55 rfl (lv_at hl 2 rfl) ?_
            refine z_iald hx hb hK.1 hP 2 0 rfl rfl dX3_different_56 (by omega) (by omega) (by omega) ?_
            refine z_cr (va_runV (As := [.int (zI (od (k - 1))), .int (zI (od k))]) (rest := [.int (zI ((mx + sz) - (od k)))]) ⟨hx, hb, hml, hown, hts⟩ (kX3_commonOf l D cI cZ cL d rm sg pr sz bt ps fi ht fo nT T (od (k - 1)) (od k) (by omega) (by omega) (by omega) (hT) (by omega) (by omega)) (cwV 2 hts gX3_different_X3_commonOf rfl rfl rfl (by decide +kernel) ⟨Nat.le_of_ble_eq_true rfl, Nat.le_of_ble_eq_true rfl⟩) (zPr_preV (ci := 3) (q0 := 0) hK (hP.sub (ws' := [(d 0, .inr (3, mo d rm sg pr sz bt ps fi ht fo)), (d 1, .inl (cI, nT, .inl (zA T)))]) [0, 1] rfl) rfl rfl) rfl rfl hl.1 rfl (lv_room (Nat.le_of_ble_eq_true rfl)) dX3_different_57 ⟨Nat.zero_le _, Nat.zero_le _⟩) (fun r hr_ => ?_)
            subst hr_
            refine z_isub hx hb dX3_different_60 ?_
            refine z_top (b := mx + (sz - od k - (if k = 0 then 0 else zcc sz T od k))) (by first | (rw [if_pos hn]; omega) | (rw [if_neg hn]; unfold zcc; omega)) ?_
            refine lv_istore_n (lv' := [(1, .int (zI (mx + (sz - od k - (if k = 0 then 0 else zcc sz T od k))))), (0, .ref (d 0)), (2, .int (zI k))]) hx hb dX3_different_61 rfl hl (by decide) rfl (fun ls hl => ?_)
            refine lv_iinc (v := zI (k + 1)) (lv' := [(2, .int (zI (k + 1))), (1, .int (zI (mx + (sz - od k - (if k = 0 then 0 else zcc sz T od k))))), (0, .ref (d 0))]) hx hb dX3_different_62 hl (k := 2) rfl (zI_add _ _) (by decide) rfl (fun ls hl => ?_)
            refine lv_goto (tgt := 13) hx hb dX3_different_65 (by decide) ?_
            exact ih13 (k + 1) (mx + (sz - od k - (if k = 0 then 0 else zcc sz T od k))) ls (by omega) (stD_s hq h0.1 rfl) (by omega) (lv_sub hl [2, 1, 0] rfl)
          · skip
            have hn := h_3
            refine lv_iconst (v := zI 0) hx hb dX3_different_38 (by first | rfl | decide) ?_
            refine lv_goto (tgt := 60) hx hb dX3_different_39 (by decide) ?_
            refine z_isub hx hb dX3_different_60 ?_
            refine z_top (b := mx + (sz - od k - (if k = 0 then 0 else zcc sz T od k))) (by first | (rw [if_pos hn]; omega) | (rw [if_neg hn]; unfold zcc; omega)) ?_
            refine lv_istore_n (lv' := [(1, .int (zI (mx + (sz - od k - (if k = 0 then 0 else zcc sz T od k))))), (0, .ref (d 0)), (2, .int (zI k))]) hx hb dX3_different_61 rfl hl (by decide) rfl (fun ls hl => ?_)
            refine lv_iinc (v := zI (k + 1)) (lv' := [(2, .int (zI (k + 1))), (1, .int (zI (mx + (sz - od k - (if k = 0 then 0 else zcc sz T od k))))), (0, .ref (d 0))]) hx hb dX3_different_62 hl (k := 2) rfl (zI_add _ _) (by decide) rfl (fun ls hl => ?_)
            refine lv_goto (tgt := 13) hx hb dX3_different_65 (by decide) ?_
            exact ih13 (k + 1) (mx + (sz - od k - (if k = 0 then 0 else zcc sz T od k))) ls (by omega) (stD_s hq h0.1 rfl) (by omega) (lv_sub hl [2, 1, 0] rfl)
    exact loop13 _ 0 0 ls (by omega) (rfl) (Nat.lt_succ_self _) (lv_sub hl [2, 1, 0] rfl)
  · skip
    have hz := h_1
    refine lv_iconst (v := zI (-1)) hx hb dX3_different_7 (by first | rfl | decide) ?_
    exact W.iret (v := zI (-1)) hx hb hr (fun t ht_ hW_ => ⟨(-1), rfl, by show _ = zdf bt sz (fun i => sz - od i - (if i = 0 then 0 else zcc sz T od i)); unfold zdf; rw [if_pos hz], ht_⟩) (fun q h => by cases h) dX3_different_8
