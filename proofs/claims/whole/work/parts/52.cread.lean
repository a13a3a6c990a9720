set_option maxRecDepth 20000 in
theorem inX2_isLetter_X2 : ∀ w ∈ wsX20, w ∈ wsX2_isLetter := by decide +kernel
set_option maxRecDepth 20000 in
theorem inX2_isEnd_X2 : ∀ w ∈ wsX20, w ∈ wsX2_isEnd := by decide +kernel
set_option maxRecDepth 20000 in
theorem inX2_forgetHits_X2 : ∀ w ∈ wsX20, w ∈ wsX2_forgetHits := by decide +kernel
set_option maxRecDepth 20000 in
theorem inX2_feed_X2 : ∀ w ∈ wsX20, w ∈ wsX2_feed := by decide +kernel
set_option maxRecDepth 20000 in
theorem inX2_patFeed_X2 : ∀ w ∈ wsX20, w ∈ wsX2_patFeed := by decide +kernel
set_option maxRecDepth 20000 in
theorem inX2_patClear_X2 : ∀ w ∈ wsX20, w ∈ wsX2_patClear := by decide +kernel
set_option maxRecDepth 20000 in
theorem inX2_clear_X2 : ∀ w ∈ wsX20, w ∈ wsX2_clear := by decide +kernel
set_option maxRecDepth 20000 in
theorem inX2_sa_X2 : ∀ w ∈ wsX20, w ∈ wsX2_sa := by decide +kernel
set_option maxRecDepth 20000 in
theorem inX2_rank_X2 : ∀ w ∈ wsX20, w ∈ wsX2_rank := by decide +kernel
set_option maxRecDepth 20000 in
theorem inX2_lcp_X2 : ∀ w ∈ wsX20, w ∈ wsX2_lcp := by decide +kernel
set_option maxRecDepth 20000 in
theorem inX2_alikeFrom_X2 : ∀ w ∈ wsX20, w ∈ wsX2_alikeFrom := by decide +kernel
set_option maxRecDepth 20000 in
theorem inX2_common_X2 : ∀ w ∈ wsX20, w ∈ wsX2_common := by decide +kernel
set_option maxHeartbeats 4000000 in
set_option maxRecDepth 100000 in
/-- nearest(asked, most) -/
theorem kX2_nearest (l : Launch) (D : va_G) (cI cZ cL : ClassId) (x y : Int) (hx1 : zR x) (hy1 : zR y) : Met l yX2_nearest wsX2_nearest ({ frames := 1, cells := 0, slots := 0, locals := 30 }) (zPr D cI cZ cL [.int (zI x), .int (zI y)] []) (zQi (fun r => r = zmax 1 (zmin x y))) 0 0 (fun _ => False) := by
  refine Met.ofW (cc := cX2_nearest) (maxL := 2) (ret := (some .int)) (by decide) rfl ?_
  intro p e s m args below meth c s₁ B hml hv
  obtain ⟨rfl, hP, hK⟩ := hv
  have hx := B.exec
  have hb := B.bytes
  have hr := B.returns
  have hts := atoms_spec (ws := wsX2_nearest) B.pre
  have hown : s.vm.findClass RX2 = some m.cls := findClass_of_methodNamed B.named
  have hlocks := B.notSynchronized
  have hP : va_P D vwCl [] s.heap := hP
  have hl := lv_entry ([.int (zI x), .int (zI y)]) (n := 2) (Nat.le_of_ble_eq_true rfl)
  rw [lg_entry_eq]
  generalize (lg_sl ([.int (zI x), .int (zI y)]) ++ List.replicate (2 - (lg_sl ([.int (zI x), .int (zI y)])).length) Slot.unset).toArray = ls at hl ⊢
  have hl : lv_has ls 2 [(0, .int (zI x)), (1, .int (zI y))] := hl
  refine lv_iconst (v := zI 1) hx hb dX2_nearest_0 (by first | rfl | decide) ?_
  refine lv_iload_n hx hb dX2_nearest_1 rfl (lv_at hl 0 rfl) ?_
  refine lv_iload_n hx hb dX2_nearest_2 rfl (lv_at hl 1 rfl) ?_
  refine va_mmin hx hb (hml.trans hl.1.symm) hown (hts (.methodLink RX2 109 Lib.Math.min.name) (List.mem_of_getElem? (i := 1) rfl)) (hts (.static Lib.Math.min.name) (List.mem_of_getElem? (i := 2) rfl)) (hts (.initialized "java/lang/Math") (List.mem_of_getElem? (i := 3) rfl)) (hts (.code Lib.Math.min.name Lib.Math.min.code 2 (some .int)) (List.mem_of_getElem? (i := 4) rfl)) (Nat.le_of_ble_eq_true rfl) (Nat.le_of_ble_eq_true rfl) (Nat.zero_le _) (Nat.zero_le _) dX2_nearest_3 ?_
  refine z_topx (b := zmin x y) (zmin_I (by omega) (by omega)) ?_
  refine va_mmax hx hb (hml.trans hl.1.symm) hown (hts (.methodLink RX2 114 Lib.Math.max.name) (List.mem_of_getElem? (i := 5) rfl)) (hts (.static Lib.Math.max.name) (List.mem_of_getElem? (i := 6) rfl)) (hts (.initialized "java/lang/Math") (List.mem_of_getElem? (i := 3) rfl)) (hts (.code Lib.Math.max.name Lib.Math.max.code 2 (some .int)) (List.mem_of_getElem? (i := 7) rfl)) (Nat.le_of_ble_eq_true rfl) (Nat.le_of_ble_eq_true rfl) (Nat.zero_le _) (Nat.zero_le _) dX2_nearest_6 ?_
  refine z_topx (b := zmax 1 (zmin x y)) (zmax_I (by omega) (by have := zmin_or (a := x) (b := y); omega)) ?_
  exact W.iret (v := zI (zmax 1 (zmin x y))) hx hb hr (fun t ht_ hW_ => ⟨zmax 1 (zmin x y), rfl, rfl, ht_⟩) (fun q h => by cases h) dX2_nearest_9
set_option maxHeartbeats 4000000 in
set_option maxRecDepth 100000 in
/-- isLetter(letter) -/
theorem kX2_isLetter (l : Launch) (D : va_G) (cI cZ cL : ClassId) (b a : Nat → Nat) (sg len pl bt fh ht : Int) (x : Int) (hsg : zR sg) (hx1 : zR x) : Met l yX2_isLetter wsX2_isLetter ({ frames := 0, cells := 0, slots := 0, locals := 0 }) (zPr D cI cZ cL [.ref (b 0), .int (zI x)] [(b 0, .inr (2, te b a sg len pl bt fh ht))]) (zQi (fun r => r = bi (decide (0 ≤ x) && decide (x < sg)))) 0 0 (fun _ => False) := by
  refine Met.ofW (cc := cX2_isLetter) (maxL := 2) (ret := (some .boolean)) (by decide) rfl ?_
  intro p e s m args below meth c s₁ B hml hv
  obtain ⟨rfl, hP, hK⟩ := hv
  have hx := B.exec
  have hb := B.bytes
  have hr := B.returns
  have hts := atoms_spec (ws := wsX2_isLetter) B.pre
  have hown : s.vm.findClass RX2 = some m.cls := findClass_of_methodNamed B.named
  have hlocks := B.notSynchronized
  have hP : va_P D vwCl [(b 0, .inr (2, te b a sg len pl bt fh ht))] s.heap := hP
  have hl := lv_entry ([.ref (b 0), .int (zI x)]) (n := 2) (Nat.le_of_ble_eq_true rfl)
  rw [lg_entry_eq]
  generalize (lg_sl ([.ref (b 0), .int (zI x)]) ++ List.replicate (2 - (lg_sl ([.ref (b 0), .int (zI x)])).length) Slot.unset).toArray = ls at hl ⊢
  have hl : lv_has ls 2 [(0, .ref (b 0)), (1, .int (zI x))] := hl
  refine lv_iload_n hx hb dX2_isLetter_0 rfl (lv_at hl 1 rfl) ?_
  refine z_if_lt (tgt := 16) hx hb dX2_isLetter_1 (by decide) (by omega) (fun h_1 => ?_) (fun h_1 => ?_)
  · skip
    refine lv_iconst (v := zI 0) hx hb dX2_isLetter_16 (by first | rfl | decide) ?_
    exact W.zret (ty := .boolean) (v := zI 0) hx hb hr (znar_b2 (by first | exact Or.inl rfl | exact Or.inr rfl | exact bi_01 _ | with_reducible assumption | omega)) (fun t ht_ hW_ => ⟨0, rfl, by first | (rw [decide_eq_true (show 0 ≤ x by omega), decide_eq_true (show x < sg by omega)]; rfl) | (rw [decide_eq_false (show ¬ 0 ≤ x by omega)]; rfl) | (rw [decide_eq_false (show ¬ x < sg by omega), Bool.and_false]; rfl), ht_⟩) (fun q h => by cases h) dX2_isLetter_17
  · skip
    refine lv_iload_n hx hb dX2_isLetter_4 rfl (lv_at hl 1 rfl) ?_
    refine lv_aload_n hx hb dX2_isLetter_5 rfl (lv_at hl 0 rfl) ?_
    refine va_get (D := D) (ci := 2) (v := .int (zI sg)) (C := RX2) (T := TX2) (N := 12) hx hb hts inX2_isLetter_X2 hown hK.1 hP 0 rfl rfl 0 (by decide) (hts (.fieldLink RX2 13 "TextEnds" "sigma" "I") (List.mem_of_getElem? (i := 1) rfl)) (fun _ h9 => h9) rfl dX2_isLetter_6 ?_
    refine z_icmp_ge (tgt := 16) hx hb dX2_isLetter_9 (by decide) (by omega) (by omega) (fun h_2 => ?_) (fun h_2 => ?_)
    · skip
      refine lv_iconst (v := zI 0) hx hb dX2_isLetter_16 (by first | rfl | decide) ?_
      exact W.zret (ty := .boolean) (v := zI 0) hx hb hr (znar_b2 (by first | exact Or.inl rfl | exact Or.inr rfl | exact bi_01 _ | with_reducible assumption | omega)) (fun t ht_ hW_ => ⟨0, rfl, by first | (rw [decide_eq_true (show 0 ≤ x by omega), decide_eq_true (show x < sg by omega)]; rfl) | (rw [decide_eq_false (show ¬ 0 ≤ x by omega)]; rfl) | (rw [decide_eq_false (show ¬ x < sg by omega), Bool.and_false]; rfl), ht_⟩) (fun q h => by cases h) dX2_isLetter_17
    · skip
      refine lv_iconst (v := zI 1) hx hb dX2_isLetter_12 (by first | rfl | decide) ?_
      refine lv_goto (tgt := 17) hx hb dX2_isLetter_13 (by decide) ?_
      exact W.zret (ty := .boolean) (v := zI 1) hx hb hr (znar_b2 (by first | exact Or.inl rfl | exact Or.inr rfl | exact bi_01 _ | with_reducible assumption | omega)) (fun t ht_ hW_ => ⟨1, rfl, by first | (rw [decide_eq_true (show 0 ≤ x by omega), decide_eq_true (show x < sg by omega)]; rfl) | (rw [decide_eq_false (show ¬ 0 ≤ x by omega)]; rfl) | (rw [decide_eq_false (show ¬ x < sg by omega), Bool.and_false]; rfl), ht_⟩) (fun q h => by cases h) dX2_isLetter_17
set_option maxHeartbeats 4000000 in
set_option maxRecDepth 100000 in
/-- isEnd(place) -/
theorem kX2_isEnd (l : Launch) (D : va_G) (cI cZ cL : ClassId) (b a : Nat → Nat) (sg len pl bt fh ht : Int) (k : Int) (hlen : 0 ≤ len ∧ len ≤ 1000000) (hbt : bt = 0 ∨ bt = 1) (hk : zR k) : Met l yX2_isEnd wsX2_isEnd ({ frames := 0, cells := 0, slots := 0, locals := 0 }) (zPr D cI cZ cL [.ref (b 0), .int (zI k)] [(b 0, .inr (2, te b a sg len pl bt fh ht))]) (zQi (fun r => r = bi (zie bt len k))) 0 0 (fun _ => False) := by
  refine Met.ofW (cc := cX2_isEnd) (maxL := 2) (ret := (some .boolean)) (by decide) rfl ?_
  intro p e s m args below meth c s₁ B hml hv
  obtain ⟨rfl, hP, hK⟩ := hv
  have hx := B.exec
  have hb := B.bytes
  have hr := B.returns
  have hts := atoms_spec (ws := wsX2_isEnd) B.pre
  have hown : s.vm.findClass RX2 = some m.cls := findClass_of_methodNamed B.named
  have hlocks := B.notSynchronized
  have hP : va_P D vwCl [(b 0, .inr (2, te b a sg len pl bt fh ht))] s.heap := hP
  have hl := lv_entry ([.ref (b 0), .int (zI k)]) (n := 2) (Nat.le_of_ble_eq_true rfl)
  rw [lg_entry_eq]
  generalize (lg_sl ([.ref (b 0), .int (zI k)]) ++ List.replicate (2 - (lg_sl ([.ref (b 0), .int (zI k)])).length) Slot.unset).toArray = ls at hl ⊢
  have hl : lv_has ls 2 [(0, .ref (b 0)), (1, .int (zI k))] := hl
  refine lv_aload_n hx hb dX2_isEnd_0 rfl (lv_at hl 0 rfl) ?_
  refine va_get (D := D) (ci := 2) (v := .int (zI bt)) (C := RX2) (T := TX2) (N := 12) hx hb hts inX2_isEnd_X2 hown hK.1 hP 0 rfl rfl 9 (by decide) (hts (.fieldLink RX2 51 "TextEnds" "built" "Z") (List.mem_of_getElem? (i := 1) rfl)) (fun _ h9 => h9) rfl dX2_isEnd_1 ?_
  refine z_if_eq (tgt := 23) hx hb dX2_isEnd_4 (by decide) (by omega) (fun h_1 => ?_) (fun h_1 => ?_)
  · skip
    refine lv_iconst (v := zI 0) hx hb dX2_isEnd_23 (by first | rfl | decide) ?_
    exact W.zret (ty := .boolean) (v := zI 0) hx hb hr (znar_b2 (by first | exact Or.inl rfl | exact Or.inr rfl | exact bi_01 _ | with_reducible assumption | omega)) (fun t ht_ hW_ => ⟨0, rfl, by first | exact zie_t (by with_reducible assumption) (by omega) (by omega) | exact zie_f (by omega), ht_⟩) (fun q h => by cases h) dX2_isEnd_24
  · skip
    refine lv_iload_n hx hb dX2_isEnd_7 rfl (lv_at hl 1 rfl) ?_
    refine z_if_lt (tgt := 23) hx hb dX2_isEnd_8 (by decide) (by omega) (fun h_2 => ?_) (fun h_2 => ?_)
    · skip
      refine lv_iconst (v := zI 0) hx hb dX2_isEnd_23 (by first | rfl | decide) ?_
      exact W.zret (ty := .boolean) (v := zI 0) hx hb hr (znar_b2 (by first | exact Or.inl rfl | exact Or.inr rfl | exact bi_01 _ | with_reducible assumption | omega)) (fun t ht_ hW_ => ⟨0, rfl, by first | exact zie_t (by with_reducible assumption) (by omega) (by omega) | exact zie_f (by omega), ht_⟩) (fun q h => by cases h) dX2_isEnd_24
    · skip
      refine lv_iload_n hx hb dX2_isEnd_11 rfl (lv_at hl 1 rfl) ?_
      refine lv_aload_n hx hb dX2_isEnd_12 rfl (lv_at hl 0 rfl) ?_
      refine va_get (D := D) (ci := 2) (v := .int (zI len)) (C := RX2) (T := TX2) (N := 12) hx hb hts inX2_isEnd_X2 hown hK.1 hP 0 rfl rfl 7 (by decide) (hts (.fieldLink RX2 48 "TextEnds" "length" "I") (List.mem_of_getElem? (i := 2) rfl)) (fun _ h9 => h9) rfl dX2_isEnd_13 ?_
      refine z_icmp_ge (tgt := 23) hx hb dX2_isEnd_16 (by decide) (by omega) (by omega) (fun h_3 => ?_) (fun h_3 => ?_)
      · skip
        refine lv_iconst (v := zI 0) hx hb dX2_isEnd_23 (by first | rfl | decide) ?_
        exact W.zret (ty := .boolean) (v := zI 0) hx hb hr (znar_b2 (by first | exact Or.inl rfl | exact Or.inr rfl | exact bi_01 _ | with_reducible assumption | omega)) (fun t ht_ hW_ => ⟨0, rfl, by first | exact zie_t (by with_reducible assumption) (by omega) (by omega) | exact zie_f (by omega), ht_⟩) (fun q h => by cases h) dX2_isEnd_24
      · skip
        refine lv_iconst (v := zI 1) hx hb dX2_isEnd_19 (by first | rfl | decide) ?_
        refine lv_goto (tgt := 24) hx hb dX2_isEnd_20 (by decide) ?_
        exact W.zret (ty := .boolean) (v := zI 1) hx hb hr (znar_b2 (by first | exact Or.inl rfl | exact Or.inr rfl | exact bi_01 _ | with_reducible assumption | omega)) (fun t ht_ hW_ => ⟨1, rfl, by first | exact zie_t (by with_reducible assumption) (by omega) (by omega) | exact zie_f (by omega), ht_⟩) (fun q h => by cases h) dX2_isEnd_24
set_option maxHeartbeats 4000000 in
set_option maxRecDepth 100000 in
/-- forgetHits() -/
theorem kX2_forgetHits (l : Launch) (D : va_G) (cI cZ cL : ClassId) (b a : Nat → Nat) (sg len pl bt fh ht : Int) (szz : Nat) : Met l yX2_forgetHits wsX2_forgetHits ({ frames := 0, cells := 0, slots := 0, locals := 0 }) (zPw D cI cZ cL szz [.ref (b 0)] [(b 0, .inr (2, te b a sg len pl bt fh ht))]) (zQw D (va_A [(b 0, .inr (2, te b a sg len pl bt fh ht))] szz) (fun _ : Unit => True) (fun _ : Unit => [(b 0, .inr (2, te b a sg len pl bt fh 0))])) 0 0 (va_A [(b 0, .inr (2, te b a sg len pl bt fh ht))] szz) := by
  refine Met.ofW (cc := cX2_forgetHits) (maxL := 1) (ret := none) (by decide) rfl ?_
  intro p e s m args below meth c s₁ B hml hv
  obtain ⟨rfl, hsz, hP, hK, hD0⟩ := hv
  have hx := B.exec
  have hb := B.bytes
  have hr := B.returns
  have hts := atoms_spec (ws := wsX2_forgetHits) B.pre
  have hown : s.vm.findClass RX2 = some m.cls := findClass_of_methodNamed B.named
  have hlocks := B.notSynchronized
  subst hsz
  have hD := hD0.self (sz := s.heap.size)
  generalize hAe : va_A [(b 0, .inr (2, te b a sg len pl bt fh ht))] s.heap.size = A at hD ⊢
  have hA : ∀ q : Nat, s.heap.size ≤ q → A q := fun q h => by rw [← hAe]; exact Or.inr h
  have hS : va_S A s.heap s.heap [] := va_S.rf
  clear hD0
  have hP : va_P D vwCl [(b 0, .inr (2, te b a sg len pl bt fh ht))] s.heap := hP
  have hl := lv_entry ([.ref (b 0)]) (n := 1) (Nat.le_of_ble_eq_true rfl)
  rw [lg_entry_eq]
  generalize (lg_sl ([.ref (b 0)]) ++ List.replicate (1 - (lg_sl ([.ref (b 0)])).length) Slot.unset).toArray = ls at hl ⊢
  have hl : lv_has ls 1 [(0, .ref (b 0))] := hl
  refine lv_aload_n hx hb dX2_forgetHits_0 rfl (lv_at hl 0 rfl) ?_
  refine lv_iconst (v := zI 0) hx hb dX2_forgetHits_1 (by first | rfl | decide) ?_
  refine va_put (D := D) (ci := 2) (v := .int (zI 0)) (ty := .int) (C := RX2) (T := TX2) (N := 12) hx hb hts inX2_forgetHits_X2 tyX2 tyX2_ok nmX2 hown hK.1 hP hD hS 0 rfl rfl 11 (by decide) (hts (.fieldLink RX2 92 "TextEnds" "hits" "I") (List.mem_of_getElem? (i := 1) rfl)) (fun _ h9 => h9) rfl (by decide +kernel) rfl rfl (Nat.le_of_ble_eq_true rfl) dX2_forgetHits_2 (fun H locs hP hD hS => ?_)
  have hP : va_P D vwCl [(b 0, .inr (2, te b a sg len pl bt fh 0))] H := hP
  have hD : va_D A [(b 0, .inr (2, te b a sg len pl bt fh 0))] := hD
  exact W.vret hx hb hr (fun t ht_ hW_ => ⟨⟨(), rfl, trivial, by rw [ht_]; exact hP, hD⟩, hS.F ht_⟩) hS.2.2 dX2_forgetHits_5
set_option maxHeartbeats 4000000 in
set_option maxRecDepth 100000 in
/-- feed(letter) -/
theorem kX2_feed (l : Launch) (D : va_G) (cI cZ cL : ClassId) (b a : Nat → Nat) (sg len pl bt fh ht : Int) (nT : Nat) (T : Int → Int) (x : Int) (szz : Nat) (hlen : 0 ≤ len ∧ len ≤ (nT : Int)) (hsg : zR sg) (bnT : (nT : Int) < 1073741824) (hx1 : zR x) : Met l yX2_feed wsX2_feed ({ frames := 1, cells := 0, slots := 0, locals := 21 }) (zPw D cI cZ cL szz [.ref (b 0), .int (zI x)] [(b 0, .inr (2, te b a sg len pl bt fh ht)), (b 1, .inl (cI, nT, .inl (zA T)))]) (zQwi D (va_A [(b 0, .inr (2, te b a sg len pl bt fh ht)), (b 1, .inl (cI, nT, .inl (zA T)))] szz) (fun (r : Int) (_ : Unit) => r = bi (fok sg (nT : Int) len x) ∧ True) (fun _ : Unit => [(b 0, .inr (2, te b a sg (if fok sg (nT : Int) len x = true then len + 1 else len) pl (if fok sg (nT : Int) len x = true then 0 else bt) fh (if fok sg (nT : Int) len x = true then 0 else ht))), (b 1, .inl (cI, nT, .inl (zA (if fok sg (nT : Int) len x = true then zup T len x else T))))])) 0 0 (va_A [(b 0, .inr (2, te b a sg len pl bt fh ht)), (b 1, .inl (cI, nT, .inl (zA T)))] szz) := by
  refine Met.ofW (cc := cX2_feed) (maxL := 2) (ret := (some .boolean)) (by decide) rfl ?_
  intro p e s m args below meth c s₁ B hml hv
  obtain ⟨rfl, hsz, hP, hK, hD0⟩ := hv
  have hx := B.exec
  have hb := B.bytes
  have hr := B.returns
  have hts := atoms_spec (ws := wsX2_feed) B.pre
  have hown : s.vm.findClass RX2 = some m.cls := findClass_of_methodNamed B.named
  have hlocks := B.notSynchronized
  subst hsz
  have hD := hD0.self (sz := s.heap.size)
  generalize hAe : va_A [(b 0, .inr (2, te b a sg len pl bt fh ht)), (b 1, .inl (cI, nT, .inl (zA T)))] s.heap.size = A at hD ⊢
  have hA : ∀ q : Nat, s.heap.size ≤ q → A q := fun q h => by rw [← hAe]; exact Or.inr h
  have hS : va_S A s.heap s.heap [] := va_S.rf
  clear hD0
  have hP : va_P D vwCl [(b 0, .inr (2, te b a sg len pl bt fh ht)), (b 1, .inl (cI, nT, .inl (zA T)))] s.heap := hP
  have hl := lv_entry ([.ref (b 0), .int (zI x)]) (n := 2) (Nat.le_of_ble_eq_true rfl)
  rw [lg_entry_eq]
  generalize (lg_sl ([.ref (b 0), .int (zI x)]) ++ List.replicate (2 - (lg_sl ([.ref (b 0), .int (zI x)])).length) Slot.unset).toArray = ls at hl ⊢
  have hl : lv_has ls 2 [(0, .ref (b 0)), (1, .int (zI x))] := hl
  refine lv_aload_n hx hb dX2_feed_0 rfl (lv_at hl 0 rfl) ?_
  refine lv_iload_n hx hb dX2_feed_1 rfl (lv_at hl 1 rfl) ?_
  refine z_cr (va_runV (As := [.int (zI x)]) (rest := []) ⟨hx, hb, hml, hown, hts⟩ (kX2_isLetter l D cI cZ cL b a sg len pl bt fh ht x (by omega) (by omega)) (cwV 1 hts gX2_feed_X2_isLetter rfl rfl rfl (by decide +kernel) ⟨Nat.le_of_ble_eq_true rfl, Nat.le_of_ble_eq_true rfl⟩) (zPr_preV (ci := 2) (q0 := 0) hK (hP.sub (ws' := [(b 0, .inr (2, te b a sg len pl bt fh ht))]) [0] rfl) rfl rfl) rfl rfl hl.1 rfl (lv_room (Nat.le_of_ble_eq_true rfl)) dX2_feed_2 ⟨Nat.zero_le _, Nat.zero_le _⟩) (fun r hr_ => ?_)
  subst hr_
  refine z_if_eq (tgt := 20) hx hb dX2_feed_5 (by decide) (bi_R _) (fun h_1 => ?_) (fun h_1 => ?_)
  · skip
    have hlx := bi_eq h_1
    refine lv_iconst (v := zI 0) hx hb dX2_feed_20 (by first | rfl | decide) ?_
    have hfk : fok sg (nT : Int) len x = false := by first | exact fok_f (by omega) | (have : ¬ (0 ≤ x ∧ x < sg) := (fun z => by simp [z.1, z.2] at hlx); exact fok_f (by omega))
    have hP : va_P D vwCl [(b 0, .inr (2, te b a sg (if fok sg (nT : Int) len x = true then len + 1 else len) pl (if fok sg (nT : Int) len x = true then 0 else bt) fh (if fok sg (nT : Int) len x = true then 0 else ht))), (b 1, .inl (cI, nT, .inl (zA (if fok sg (nT : Int) len x = true then zup T len x else T))))] s.heap := by (simp only [hfk, Bool.false_eq_true, if_false]; exact hP)
    have hD : va_D A [(b 0, .inr (2, te b a sg (if fok sg (nT : Int) len x = true then len + 1 else len) pl (if fok sg (nT : Int) len x = true then 0 else bt) fh (if fok sg (nT : Int) len x = true then 0 else ht))), (b 1, .inl (cI, nT, .inl (zA (if fok sg (nT : Int) len x = true then zup T len x else T))))] := by (simp only [hfk, Bool.false_eq_true, if_false]; exact hD)
    exact W.zret (ty := .boolean) (v := zI 0) hx hb hr (znar_b2 (by first | exact Or.inl rfl | exact Or.inr rfl | exact bi_01 _ | with_reducible assumption | omega)) (fun t ht_ hW_ => ⟨⟨0, (), rfl, ⟨by rw [hfk]; rfl, trivial⟩, by rw [ht_]; exact hP, hD⟩, hS.F ht_⟩) hS.2.2 dX2_feed_21
  · skip
    have hlx := bi_ne h_1
    have hlx1 : 0 ≤ x ∧ x < sg := by simpa using hlx
    refine lv_aload_n hx hb dX2_feed_8 rfl (lv_at hl 0 rfl) ?_
    refine va_get (D := D) (ci := 2) (v := .int (zI len)) (C := RX2) (T := TX2) (N := 12) hx hb hts inX2_feed_X2 hown hK.1 hP 0 rfl rfl 7 (by decide) (hts (.fieldLink RX2 48 "TextEnds" "length" "I") (List.mem_of_getElem? (i := 1) rfl)) (fun _ h9 => h9) rfl dX2_feed_9 ?_
    refine lv_aload_n hx hb dX2_feed_12 rfl (lv_at hl 0 rfl) ?_
    refine va_get (D := D) (ci := 2) (v := .ref (b 1)) (C := RX2) (T := TX2) (N := 12) hx hb hts inX2_feed_X2 hown hK.1 hP 0 rfl rfl 2 (by decide) (hts (.fieldLink RX2 30 "TextEnds" "text" "[I") (List.mem_of_getElem? (i := 2) rfl)) (fun _ h9 => h9) rfl dX2_feed_13 ?_
    refine z_alen hx hb hK.1 hP 1 0 rfl rfl dX2_feed_16 ?_
    refine z_icmp_lt (tgt := 22) hx hb dX2_feed_17 (by decide) (by omega) (by omega) (fun h_2 => ?_) (fun h_2 => ?_)
    · skip
      refine lv_aload_n hx hb dX2_feed_22 rfl (lv_at hl 0 rfl) ?_
      refine va_get (D := D) (ci := 2) (v := .ref (b 1)) (C := RX2) (T := TX2) (N := 12) hx hb hts inX2_feed_X2 hown hK.1 hP 0 rfl rfl 2 (by decide) (hts (.fieldLink RX2 30 "TextEnds" "text" "[I") (List.mem_of_getElem? (i := 2) rfl)) (fun _ h9 => h9) rfl dX2_feed_23 ?_
      refine lv_aload_n hx hb dX2_feed_26 rfl (lv_at hl 0 rfl) ?_
      refine va_get (D := D) (ci := 2) (v := .int (zI len)) (C := RX2) (T := TX2) (N := 12) hx hb hts inX2_feed_X2 hown hK.1 hP 0 rfl rfl 7 (by decide) (hts (.fieldLink RX2 48 "TextEnds" "length" "I") (List.mem_of_getElem? (i := 1) rfl)) (fun _ h9 => h9) rfl dX2_feed_27 ?_
      refine lv_iload_n hx hb dX2_feed_30 rfl (lv_at hl 1 rfl) ?_
      refine z_iast hx hb hK.1 hP hD hS 1 0 rfl rfl dX2_feed_31 (by omega) (by omega) (by omega) (fun H locs hP hD hS => ?_)
      have hP : va_P D vwCl [(b 0, .inr (2, te b a sg len pl bt fh ht)), (b 1, .inl (cI, nT, .inl (zA (zup T len x))))] H := hP
      have hD : va_D A [(b 0, .inr (2, te b a sg len pl bt fh ht)), (b 1, .inl (cI, nT, .inl (zA (zup T len x))))] := hD
      refine lv_aload_n hx hb dX2_feed_32 rfl (lv_at hl 0 rfl) ?_
      refine lv_dup hx hb dX2_feed_33 rfl ?_
      refine va_get (D := D) (ci := 2) (v := .int (zI len)) (C := RX2) (T := TX2) (N := 12) hx hb hts inX2_feed_X2 hown hK.1 hP 0 rfl rfl 7 (by decide) (hts (.fieldLink RX2 48 "TextEnds" "length" "I") (List.mem_of_getElem? (i := 1) rfl)) (fun _ h9 => h9) rfl dX2_feed_34 ?_
      refine lv_iconst (v := zI 1) hx hb dX2_feed_37 (by first | rfl | decide) ?_
      refine z_iadd hx hb dX2_feed_38 ?_
      refine va_put (D := D) (ci := 2) (v := .int (zI (len + 1))) (ty := .int) (C := RX2) (T := TX2) (N := 12) hx hb hts inX2_feed_X2 tyX2 tyX2_ok nmX2 hown hK.1 hP hD hS 0 rfl rfl 7 (by decide) (hts (.fieldLink RX2 48 "TextEnds" "length" "I") (List.mem_of_getElem? (i := 1) rfl)) (fun _ h9 => h9) rfl (by decide +kernel) rfl rfl (Nat.le_of_ble_eq_true rfl) dX2_feed_39 (fun H locs hP hD hS => ?_)
      have hP : va_P D vwCl [(b 0, .inr (2, te b a sg (len + 1) pl bt fh ht)), (b 1, .inl (cI, nT, .inl (zA (zup T len x))))] H := hP
      have hD : va_D A [(b 0, .inr (2, te b a sg (len + 1) pl bt fh ht)), (b 1, .inl (cI, nT, .inl (zA (zup T len x))))] := hD
      refine lv_aload_n hx hb dX2_feed_42 rfl (lv_at hl 0 rfl) ?_
      refine lv_iconst (v := zI 0) hx hb dX2_feed_43 (by first | rfl | decide) ?_
      refine va_put (D := D) (ci := 2) (v := .int (zI 0)) (ty := .boolean) (C := RX2) (T := TX2) (N := 12) hx hb hts inX2_feed_X2 tyX2 tyX2_ok nmX2 hown hK.1 hP hD hS 0 rfl rfl 9 (by decide) (hts (.fieldLink RX2 51 "TextEnds" "built" "Z") (List.mem_of_getElem? (i := 3) rfl)) (fun _ h9 => h9) rfl (by decide +kernel) (znar_b2 (by first | exact Or.inl rfl | exact Or.inr rfl | exact bi_01 _ | with_reducible assumption | omega)) (zfit_b (by first | exact Or.inl rfl | exact Or.inr rfl | exact bi_01 _ | with_reducible assumption | omega)) (Nat.le_of_ble_eq_true rfl) dX2_feed_44 (fun H locs hP hD hS => ?_)
      have hP : va_P D vwCl [(b 0, .inr (2, te b a sg (len + 1) pl 0 fh ht)), (b 1, .inl (cI, nT, .inl (zA (zup T len x))))] H := hP
      have hD : va_D A [(b 0, .inr (2, te b a sg (len + 1) pl 0 fh ht)), (b 1, .inl (cI, nT, .inl (zA (zup T len x))))] := hD
      refine lv_aload_n hx hb dX2_feed_47 rfl (lv_at hl 0 rfl) ?_
      refine z_cw (wc := [(b 0, .inr (2, te b a sg (len + 1) pl 0 fh ht))]) (wr := [(b 1, .inl (cI, nT, .inl (zA (zup T len x))))]) (Wt := (fun _ : Unit => [(b 0, .inr (2, te b a sg (len + 1) pl 0 fh 0)), (b 1, .inl (cI, nT, .inl (zA (zup T len x))))])) [0] [1] [1, 0] hP hD hS hA rfl rfl (by decide) (by decide) (by decide) (by decide) (fun _ => rfl) (fun _ => rfl) (fun hPc hDc => va_runV (As := []) (rest := []) ⟨hx, hb, hml, hown, hts⟩ (kX2_forgetHits l D cI cZ cL b a sg (len + 1) pl 0 fh ht _ ) (cwV 0 hts gX2_feed_X2_forgetHits rfl rfl rfl (by decide +kernel) ⟨Nat.le_of_ble_eq_true rfl, Nat.le_of_ble_eq_true rfl⟩) (zPw_preV (ci := 2) (q0 := 0) hK hPc hDc rfl rfl) rfl rfl hl.1 rfl (lv_room (Nat.le_of_ble_eq_true rfl)) dX2_feed_48 ⟨Nat.zero_le _, Nat.zero_le _⟩) rfl (fun u H locs hp_ hP hD hS => ?_)
      have hP : va_P D vwCl [(b 0, .inr (2, te b a sg (len + 1) pl 0 fh 0)), (b 1, .inl (cI, nT, .inl (zA (zup T len x))))] H := hP
      have hD : va_D A [(b 0, .inr (2, te b a sg (len + 1) pl 0 fh 0)), (b 1, .inl (cI, nT, .inl (zA (zup T len x))))] := hD
      refine lv_iconst (v := zI 1) hx hb dX2_feed_51 (by first | rfl | decide) ?_
      have hfk : fok sg (nT : Int) len x = true := fok_t (by omega) (by omega) (by omega)
      have hP : va_P D vwCl [(b 0, .inr (2, te b a sg (if fok sg (nT : Int) len x = true then len + 1 else len) pl (if fok sg (nT : Int) len x = true then 0 else bt) fh (if fok sg (nT : Int) len x = true then 0 else ht))), (b 1, .inl (cI, nT, .inl (zA (if fok sg (nT : Int) len x = true then zup T len x else T))))] H := by (simp only [hfk, if_true]; exact hP)
      have hD : va_D A [(b 0, .inr (2, te b a sg (if fok sg (nT : Int) len x = true then len + 1 else len) pl (if fok sg (nT : Int) len x = true then 0 else bt) fh (if fok sg (nT : Int) len x = true then 0 else ht))), (b 1, .inl (cI, nT, .inl (zA (if fok sg (nT : Int) len x = true then zup T len x else T))))] := by (simp only [hfk, if_true]; exact hD)
      exact W.zret (ty := .boolean) (v := zI 1) hx hb hr (znar_b2 (by first | exact Or.inl rfl | exact Or.inr rfl | exact bi_01 _ | with_reducible assumption | omega)) (fun t ht_ hW_ => ⟨⟨1, (), rfl, ⟨by rw [hfk]; rfl, trivial⟩, by rw [ht_]; exact hP, hD⟩, hS.F ht_⟩) hS.2.2 dX2_feed_52
    · skip
      refine lv_iconst (v := zI 0) hx hb dX2_feed_20 (by first | rfl | decide) ?_
      have hfk : fok sg (nT : Int) len x = false := by first | exact fok_f (by omega) | (have : ¬ (0 ≤ x ∧ x < sg) := (fun z => by simp [z.1, z.2] at hlx); exact fok_f (by omega))
      have hP : va_P D vwCl [(b 0, .inr (2, te b a sg (if fok sg (nT : Int) len x = true then len + 1 else len) pl (if fok sg (nT : Int) len x = true then 0 else bt) fh (if fok sg (nT : Int) len x = true then 0 else ht))), (b 1, .inl (cI, nT, .inl (zA (if fok sg (nT : Int) len x = true then zup T len x else T))))] s.heap := by (simp only [hfk, Bool.false_eq_true, if_false]; exact hP)
      have hD : va_D A [(b 0, .inr (2, te b a sg (if fok sg (nT : Int) len x = true then len + 1 else len) pl (if fok sg (nT : Int) len x = true then 0 else bt) fh (if fok sg (nT : Int) len x = true then 0 else ht))), (b 1, .inl (cI, nT, .inl (zA (if fok sg (nT : Int) len x = true then zup T len x else T))))] := by (simp only [hfk, Bool.false_eq_true, if_false]; exact hD)
      exact W.zret (ty := .boolean) (v := zI 0) hx hb hr (znar_b2 (by first | exact Or.inl rfl | exact Or.inr rfl | exact bi_01 _ | with_reducible assumption | omega)) (fun t ht_ hW_ => ⟨⟨0, (), rfl, ⟨by rw [hfk]; rfl, trivial⟩, by rw [ht_]; exact hP, hD⟩, hS.F ht_⟩) hS.2.2 dX2_feed_21
set_option maxHeartbeats 4000000 in
set_option maxRecDepth 100000 in
/-- patFeed(letter) -/
theorem kX2_patFeed (l : Launch) (D : va_G) (cI cZ cL : ClassId) (b a : Nat → Nat) (sg len pl bt fh ht : Int) (nP : Nat) (pt : Int → Int) (x : Int) (szz : Nat) (hpl : 0 ≤ pl ∧ pl ≤ (nP : Int)) (hsg : zR sg) (bnP : (nP : Int) < 1073741824) (hx1 : zR x) : Met l yX2_patFeed wsX2_patFeed ({ frames := 1, cells := 0, slots := 0, locals := 21 }) (zPw D cI cZ cL szz [.ref (b 0), .int (zI x)] [(b 0, .inr (2, te b a sg len pl bt fh ht)), (b 2, .inl (cI, nP, .inl (zA pt)))]) (zQwi D (va_A [(b 0, .inr (2, te b a sg len pl bt fh ht)), (b 2, .inl (cI, nP, .inl (zA pt)))] szz) (fun (r : Int) (_ : Unit) => r = bi (fok sg (nP : Int) pl x) ∧ True) (fun _ : Unit => [(b 0, .inr (2, te b a sg len (if fok sg (nP : Int) pl x = true then pl + 1 else pl) bt fh (if fok sg (nP : Int) pl x = true then 0 else ht))), (b 2, .inl (cI, nP, .inl (zA (if fok sg (nP : Int) pl x = true then zup pt pl x else pt))))])) 0 0 (va_A [(b 0, .inr (2, te b a sg len pl bt fh ht)), (b 2, .inl (cI, nP, .inl (zA pt)))] szz) := by
  refine Met.ofW (cc := cX2_patFeed) (maxL := 2) (ret := (some .boolean)) (by decide) rfl ?_
  intro p e s m args below meth c s₁ B hml hv
  obtain ⟨rfl, hsz, hP, hK, hD0⟩ := hv
  have hx := B.exec
  have hb := B.bytes
  have hr := B.returns
  have hts := atoms_spec (ws := wsX2_patFeed) B.pre
  have hown : s.vm.findClass RX2 = some m.cls := findClass_of_methodNamed B.named
  have hlocks := B.notSynchronized
  subst hsz
  have hD := hD0.self (sz := s.heap.size)
  generalize hAe : va_A [(b 0, .inr (2, te b a sg len pl bt fh ht)), (b 2, .inl (cI, nP, .inl (zA pt)))] s.heap.size = A at hD ⊢
  have hA : ∀ q : Nat, s.heap.size ≤ q → A q := fun q h => by rw [← hAe]; exact Or.inr h
  have hS : va_S A s.heap s.heap [] := va_S.rf
  clear hD0
  have hP : va_P D vwCl [(b 0, .inr (2, te b a sg len pl bt fh ht)), (b 2, .inl (cI, nP, .inl (zA pt)))] s.heap := hP
  have hl := lv_entry ([.ref (b 0), .int (zI x)]) (n := 2) (Nat.le_of_ble_eq_true rfl)
  rw [lg_entry_eq]
  generalize (lg_sl ([.ref (b 0), .int (zI x)]) ++ List.replicate (2 - (lg_sl ([.ref (b 0), .int (zI x)])).length) Slot.unset).toArray = ls at hl ⊢
  have hl : lv_has ls 2 [(0, .ref (b 0)), (1, .int (zI x))] := hl
  refine lv_aload_n hx hb dX2_patFeed_0 rfl (lv_at hl 0 rfl) ?_
  refine lv_iload_n hx hb dX2_patFeed_1 rfl (lv_at hl 1 rfl) ?_
  refine z_cr (va_runV (As := [.int (zI x)]) (rest := []) ⟨hx, hb, hml, hown, hts⟩ (kX2_isLetter l D cI cZ cL b a sg len pl bt fh ht x (by omega) (by omega)) (cwV 1 hts gX2_patFeed_X2_isLetter rfl rfl rfl (by decide +kernel) ⟨Nat.le_of_ble_eq_true rfl, Nat.le_of_ble_eq_true rfl⟩) (zPr_preV (ci := 2) (q0 := 0) hK (hP.sub (ws' := [(b 0, .inr (2, te b a sg len pl bt fh ht))]) [0] rfl) rfl rfl) rfl rfl hl.1 rfl (lv_room (Nat.le_of_ble_eq_true rfl)) dX2_patFeed_2 ⟨Nat.zero_le _, Nat.zero_le _⟩) (fun r hr_ => ?_)
  subst hr_
  refine z_if_eq (tgt := 20) hx hb dX2_patFeed_5 (by decide) (bi_R _) (fun h_1 => ?_) (fun h_1 => ?_)
  · skip
    have hlx := bi_eq h_1
    refine lv_iconst (v := zI 0) hx hb dX2_patFeed_20 (by first | rfl | decide) ?_
    have hfk : fok sg (nP : Int) pl x = false := by first | exact fok_f (by omega) | (have : ¬ (0 ≤ x ∧ x < sg) := (fun z => by simp [z.1, z.2] at hlx); exact fok_f (by omega))
    have hP : va_P D vwCl [(b 0, .inr (2, te b a sg len (if fok sg (nP : Int) pl x = true then pl + 1 else pl) bt fh (if fok sg (nP : Int) pl x = true then 0 else ht))), (b 2, .inl (cI, nP, .inl (zA (if fok sg (nP : Int) pl x = true then zup pt pl x else pt))))] s.heap := by (simp only [hfk, Bool.false_eq_true, if_false]; exact hP)
    have hD : va_D A [(b 0, .inr (2, te b a sg len (if fok sg (nP : Int) pl x = true then pl + 1 else pl) bt fh (if fok sg (nP : Int) pl x = true then 0 else ht))), (b 2, .inl (cI, nP, .inl (zA (if fok sg (nP : Int) pl x = true then zup pt pl x else pt))))] := by (simp only [hfk, Bool.false_eq_true, if_false]; exact hD)
    exact W.zret (ty := .boolean) (v := zI 0) hx hb hr (znar_b2 (by first | exact Or.inl rfl | exact Or.inr rfl | exact bi_01 _ | with_reducible assumption | omega)) (fun t ht_ hW_ => ⟨⟨0, (), rfl, ⟨by rw [hfk]; rfl, trivial⟩, by rw [ht_]; exact hP, hD⟩, hS.F ht_⟩) hS.2.2 dX2_patFeed_21
  · skip
    have hlx := bi_ne h_1
    have hlx1 : 0 ≤ x ∧ x < sg := by simpa using hlx
    refine lv_aload_n hx hb dX2_patFeed_8 rfl (lv_at hl 0 rfl) ?_
    refine va_get (D := D) (ci := 2) (v := .int (zI pl)) (C := RX2) (T := TX2) (N := 12) hx hb hts inX2_patFeed_X2 hown hK.1 hP 0 rfl rfl 8 (by decide) (hts (.fieldLink RX2 82 "TextEnds" "patternLength" "I") (List.mem_of_getElem? (i := 1) rfl)) (fun _ h9 => h9) rfl dX2_patFeed_9 ?_
    refine lv_aload_n hx hb dX2_patFeed_12 rfl (lv_at hl 0 rfl) ?_
    refine va_get (D := D) (ci := 2) (v := .ref (b 2)) (C := RX2) (T := TX2) (N := 12) hx hb hts inX2_patFeed_X2 hown hK.1 hP 0 rfl rfl 4 (by decide) (hts (.fieldLink RX2 35 "TextEnds" "pattern" "[I") (List.mem_of_getElem? (i := 2) rfl)) (fun _ h9 => h9) rfl dX2_patFeed_13 ?_
    refine z_alen hx hb hK.1 hP 1 0 rfl rfl dX2_patFeed_16 ?_
    refine z_icmp_lt (tgt := 22) hx hb dX2_patFeed_17 (by decide) (by omega) (by omega) (fun h_2 => ?_) (fun h_2 => ?_)
    · skip
      refine lv_aload_n hx hb dX2_patFeed_22 rfl (lv_at hl 0 rfl) ?_
      refine va_get (D := D) (ci := 2) (v := .ref (b 2)) (C := RX2) (T := TX2) (N := 12) hx hb hts inX2_patFeed_X2 hown hK.1 hP 0 rfl rfl 4 (by decide) (hts (.fieldLink RX2 35 "TextEnds" "pattern" "[I") (List.mem_of_getElem? (i := 2) rfl)) (fun _ h9 => h9) rfl dX2_patFeed_23 ?_
      refine lv_aload_n hx hb dX2_patFeed_26 rfl (lv_at hl 0 rfl) ?_
      refine va_get (D := D) (ci := 2) (v := .int (zI pl)) (C := RX2) (T := TX2) (N := 12) hx hb hts inX2_patFeed_X2 hown hK.1 hP 0 rfl rfl 8 (by decide) (hts (.fieldLink RX2 82 "TextEnds" "patternLength" "I") (List.mem_of_getElem? (i := 1) rfl)) (fun _ h9 => h9) rfl dX2_patFeed_27 ?_
      refine lv_iload_n hx hb dX2_patFeed_30 rfl (lv_at hl 1 rfl) ?_
      refine z_iast hx hb hK.1 hP hD hS 1 0 rfl rfl dX2_patFeed_31 (by omega) (by omega) (by omega) (fun H locs hP hD hS => ?_)
      have hP : va_P D vwCl [(b 0, .inr (2, te b a sg len pl bt fh ht)), (b 2, .inl (cI, nP, .inl (zA (zup pt pl x))))] H := hP
      have hD : va_D A [(b 0, .inr (2, te b a sg len pl bt fh ht)), (b 2, .inl (cI, nP, .inl (zA (zup pt pl x))))] := hD
      refine lv_aload_n hx hb dX2_patFeed_32 rfl (lv_at hl 0 rfl) ?_
      refine lv_dup hx hb dX2_patFeed_33 rfl ?_
      refine va_get (D := D) (ci := 2) (v := .int (zI pl)) (C := RX2) (T := TX2) (N := 12) hx hb hts inX2_patFeed_X2 hown hK.1 hP 0 rfl rfl 8 (by decide) (hts (.fieldLink RX2 82 "TextEnds" "patternLength" "I") (List.mem_of_getElem? (i := 1) rfl)) (fun _ h9 => h9) rfl dX2_patFeed_34 ?_
      refine lv_iconst (v := zI 1) hx hb dX2_patFeed_37 (by first | rfl | decide) ?_
      refine z_iadd hx hb dX2_patFeed_38 ?_
      refine va_put (D := D) (ci := 2) (v := .int (zI (pl + 1))) (ty := .int) (C := RX2) (T := TX2) (N := 12) hx hb hts inX2_patFeed_X2 tyX2 tyX2_ok nmX2 hown hK.1 hP hD hS 0 rfl rfl 8 (by decide) (hts (.fieldLink RX2 82 "TextEnds" "patternLength" "I") (List.mem_of_getElem? (i := 1) rfl)) (fun _ h9 => h9) rfl (by decide +kernel) rfl rfl (Nat.le_of_ble_eq_true rfl) dX2_patFeed_39 (fun H locs hP hD hS => ?_)
      have hP : va_P D vwCl [(b 0, .inr (2, te b a sg len (pl + 1) bt fh ht)), (b 2, .inl (cI, nP, .inl (zA (zup pt pl x))))] H := hP
      have hD : va_D A [(b 0, .inr (2, te b a sg len (pl + 1) bt fh ht)), (b 2, .inl (cI, nP, .inl (zA (zup pt pl x))))] := hD
      refine lv_aload_n hx hb dX2_patFeed_42 rfl (lv_at hl 0 rfl) ?_
      refine z_cw (wc := [(b 0, .inr (2, te b a sg len (pl + 1) bt fh ht))]) (wr := [(b 2, .inl (cI, nP, .inl (zA (zup pt pl x))))]) (Wt := (fun _ : Unit => [(b 0, .inr (2, te b a sg len (pl + 1) bt fh 0)), (b 2, .inl (cI, nP, .inl (zA (zup pt pl x))))])) [0] [1] [1, 0] hP hD hS hA rfl rfl (by decide) (by decide) (by decide) (by decide) (fun _ => rfl) (fun _ => rfl) (fun hPc hDc => va_runV (As := []) (rest := []) ⟨hx, hb, hml, hown, hts⟩ (kX2_forgetHits l D cI cZ cL b a sg len (pl + 1) bt fh ht _ ) (cwV 0 hts gX2_patFeed_X2_forgetHits rfl rfl rfl (by decide +kernel) ⟨Nat.le_of_ble_eq_true rfl, Nat.le_of_ble_eq_true rfl⟩) (zPw_preV (ci := 2) (q0 := 0) hK hPc hDc rfl rfl) rfl rfl hl.1 rfl (lv_room (Nat.le_of_ble_eq_true rfl)) dX2_patFeed_43 ⟨Nat.zero_le _, Nat.zero_le _⟩) rfl (fun u H locs hp_ hP hD hS => ?_)
      have hP : va_P D vwCl [(b 0, .inr (2, te b a sg len (pl + 1) bt fh 0)), (b 2, .inl (cI, nP, .inl (zA (zup pt pl x))))] H := hP
      have hD : va_D A [(b 0, .inr (2, te b a sg len (pl + 1) bt fh 0)), (b 2, .inl (cI, nP, .inl (zA (zup pt pl x))))] := hD
      refine lv_iconst (v := zI 1) hx hb dX2_patFeed_46 (by first | rfl | decide) ?_
      have hfk : fok sg (nP : Int) pl x = true := fok_t (by omega) (by omega) (by omega)
      have hP : va_P D vwCl [(b 0, .inr (2, te b a sg len (if fok sg (nP : Int) pl x = true then pl + 1 else pl) bt fh (if fok sg (nP : Int) pl x = true then 0 else ht))), (b 2, .inl (cI, nP, .inl (zA (if fok sg (nP : Int) pl x = true then zup pt pl x else pt))))] H := by (simp only [hfk, if_true]; exact hP)
      have hD : va_D A [(b 0, .inr (2, te b a sg len (if fok sg (nP : Int) pl x = true then pl + 1 else pl) bt fh (if fok sg (nP : Int) pl x = true then 0 else ht))), (b 2, .inl (cI, nP, .inl (zA (if fok sg (nP : Int) pl x = true then zup pt pl x else pt))))] := by (simp only [hfk, if_true]; exact hD)
      exact W.zret (ty := .boolean) (v := zI 1) hx hb hr (znar_b2 (by first | exact Or.inl rfl | exact Or.inr rfl | exact bi_01 _ | with_reducible assumption | omega)) (fun t ht_ hW_ => ⟨⟨1, (), rfl, ⟨by rw [hfk]; rfl, trivial⟩, by rw [ht_]; exact hP, hD⟩, hS.F ht_⟩) hS.2.2 dX2_patFeed_47
    · skip
      refine lv_iconst (v := zI 0) hx hb dX2_patFeed_20 (by first | rfl | decide) ?_
      have hfk : fok sg (nP : Int) pl x = false := by first | exact fok_f (by omega) | (have : ¬ (0 ≤ x ∧ x < sg) := (fun z => by simp [z.1, z.2] at hlx); exact fok_f (by omega))
      have hP : va_P D vwCl [(b 0, .inr (2, te b a sg len (if fok sg (nP : Int) pl x = true then pl + 1 else pl) bt fh (if fok sg (nP : Int) pl x = true then 0 else ht))), (b 2, .inl (cI, nP, .inl (zA (if fok sg (nP : Int) pl x = true then zup pt pl x else pt))))] s.heap := by (simp only [hfk, Bool.false_eq_true, if_false]; exact hP)
      have hD : va_D A [(b 0, .inr (2, te b a sg len (if fok sg (nP : Int) pl x = true then pl + 1 else pl) bt fh (if fok sg (nP : Int) pl x = true then 0 else ht))), (b 2, .inl (cI, nP, .inl (zA (if fok sg (nP : Int) pl x = true then zup pt pl x else pt))))] := by (simp only [hfk, Bool.false_eq_true, if_false]; exact hD)
      exact W.zret (ty := .boolean) (v := zI 0) hx hb hr (znar_b2 (by first | exact Or.inl rfl | exact Or.inr rfl | exact bi_01 _ | with_reducible assumption | omega)) (fun t ht_ hW_ => ⟨⟨0, (), rfl, ⟨by rw [hfk]; rfl, trivial⟩, by rw [ht_]; exact hP, hD⟩, hS.F ht_⟩) hS.2.2 dX2_patFeed_21
set_option maxHeartbeats 4000000 in
set_option maxRecDepth 100000 in
/-- patClear() -/
theorem kX2_patClear (l : Launch) (D : va_G) (cI cZ cL : ClassId) (b a : Nat → Nat) (sg len pl bt fh ht : Int) (szz : Nat) : Met l yX2_patClear wsX2_patClear ({ frames := 1, cells := 0, slots := 0, locals := 20 }) (zPw D cI cZ cL szz [.ref (b 0)] [(b 0, .inr (2, te b a sg len pl bt fh ht))]) (zQw D (va_A [(b 0, .inr (2, te b a sg len pl bt fh ht))] szz) (fun _ : Unit => True) (fun _ : Unit => [(b 0, .inr (2, te b a sg len 0 bt fh 0))])) 0 0 (va_A [(b 0, .inr (2, te b a sg len pl bt fh ht))] szz) := by
  refine Met.ofW (cc := cX2_patClear) (maxL := 1) (ret := none) (by decide) rfl ?_
  intro p e s m args below meth c s₁ B hml hv
  obtain ⟨rfl, hsz, hP, hK, hD0⟩ := hv
  have hx := B.exec
  have hb := B.bytes
  have hr := B.returns
  have hts := atoms_spec (ws := wsX2_patClear) B.pre
  have hown : s.vm.findClass RX2 = some m.cls := findClass_of_methodNamed B.named
  have hlocks := B.notSynchronized
  subst hsz
  have hD := hD0.self (sz := s.heap.size)
  generalize hAe : va_A [(b 0, .inr (2, te b a sg len pl bt fh ht))] s.heap.size = A at hD ⊢
  have hA : ∀ q : Nat, s.heap.size ≤ q → A q := fun q h => by rw [← hAe]; exact Or.inr h
  have hS : va_S A s.heap s.heap [] := va_S.rf
  clear hD0
  have hP : va_P D vwCl [(b 0, .inr (2, te b a sg len pl bt fh ht))] s.heap := hP
  have hl := lv_entry ([.ref (b 0)]) (n := 1) (Nat.le_of_ble_eq_true rfl)
  rw [lg_entry_eq]
  generalize (lg_sl ([.ref (b 0)]) ++ List.replicate (1 - (lg_sl ([.ref (b 0)])).length) Slot.unset).toArray = ls at hl ⊢
  have hl : lv_has ls 1 [(0, .ref (b 0))] := hl
  refine lv_aload_n hx hb dX2_patClear_0 rfl (lv_at hl 0 rfl) ?_
  refine lv_iconst (v := zI 0) hx hb dX2_patClear_1 (by first | rfl | decide) ?_
  refine va_put (D := D) (ci := 2) (v := .int (zI 0)) (ty := .int) (C := RX2) (T := TX2) (N := 12) hx hb hts inX2_patClear_X2 tyX2 tyX2_ok nmX2 hown hK.1 hP hD hS 0 rfl rfl 8 (by decide) (hts (.fieldLink RX2 82 "TextEnds" "patternLength" "I") (List.mem_of_getElem? (i := 1) rfl)) (fun _ h9 => h9) rfl (by decide +kernel) rfl rfl (Nat.le_of_ble_eq_true rfl) dX2_patClear_2 (fun H locs hP hD hS => ?_)
  have hP : va_P D vwCl [(b 0, .inr (2, te b a sg len 0 bt fh ht))] H := hP
  have hD : va_D A [(b 0, .inr (2, te b a sg len 0 bt fh ht))] := hD
  refine lv_aload_n hx hb dX2_patClear_5 rfl (lv_at hl 0 rfl) ?_
  refine z_cw (wc := [(b 0, .inr (2, te b a sg len 0 bt fh ht))]) (wr := []) (Wt := (fun _ : Unit => [(b 0, .inr (2, te b a sg len 0 bt fh 0))])) [0] [] [0] hP hD hS hA rfl rfl (by decide) (by decide) (by decide) (by decide) (fun _ => rfl) (fun _ => rfl) (fun hPc hDc => va_runV (As := []) (rest := []) ⟨hx, hb, hml, hown, hts⟩ (kX2_forgetHits l D cI cZ cL b a sg len 0 bt fh ht _ ) (cwV 0 hts gX2_patClear_X2_forgetHits rfl rfl rfl (by decide +kernel) ⟨Nat.le_of_ble_eq_true rfl, Nat.le_of_ble_eq_true rfl⟩) (zPw_preV (ci := 2) (q0 := 0) hK hPc hDc rfl rfl) rfl rfl hl.1 rfl (lv_room (Nat.le_of_ble_eq_true rfl)) dX2_patClear_6 ⟨Nat.zero_le _, Nat.zero_le _⟩) rfl (fun u H locs hp_ hP hD hS => ?_)
  have hP : va_P D vwCl [(b 0, .inr (2, te b a sg len 0 bt fh 0))] H := hP
  have hD : va_D A [(b 0, .inr (2, te b a sg len 0 bt fh 0))] := hD
  exact W.vret hx hb hr (fun t ht_ hW_ => ⟨⟨(), rfl, trivial, by rw [ht_]; exact hP, hD⟩, hS.F ht_⟩) hS.2.2 dX2_patClear_9
set_option maxHeartbeats 4000000 in
set_option maxRecDepth 100000 in
/-- clear() -/
theorem kX2_clear (l : Launch) (D : va_G) (cI cZ cL : ClassId) (b a : Nat → Nat) (sg len pl bt fh ht : Int) (szz : Nat) : Met l yX2_clear wsX2_clear ({ frames := 2, cells := 0, slots := 0, locals := 40 }) (zPw D cI cZ cL szz [.ref (b 0)] [(b 0, .inr (2, te b a sg len pl bt fh ht))]) (zQw D (va_A [(b 0, .inr (2, te b a sg len pl bt fh ht))] szz) (fun _ : Unit => True) (fun _ : Unit => [(b 0, .inr (2, te b a sg 0 0 0 fh 0))])) 0 0 (va_A [(b 0, .inr (2, te b a sg len pl bt fh ht))] szz) := by
  refine Met.ofW (cc := cX2_clear) (maxL := 1) (ret := none) (by decide) rfl ?_
  intro p e s m args below meth c s₁ B hml hv
  obtain ⟨rfl, hsz, hP, hK, hD0⟩ := hv
  have hx := B.exec
  have hb := B.bytes
  have hr := B.returns
  have hts := atoms_spec (ws := wsX2_clear) B.pre
  have hown : s.vm.findClass RX2 = some m.cls := findClass_of_methodNamed B.named
  have hlocks := B.notSynchronized
  subst hsz
  have hD := hD0.self (sz := s.heap.size)
  generalize hAe : va_A [(b 0, .inr (2, te b a sg len pl bt fh ht))] s.heap.size = A at hD ⊢
  have hA : ∀ q : Nat, s.heap.size ≤ q → A q := fun q h => by rw [← hAe]; exact Or.inr h
  have hS : va_S A s.heap s.heap [] := va_S.rf
  clear hD0
  have hP : va_P D vwCl [(b 0, .inr (2, te b a sg len pl bt fh ht))] s.heap := hP
  have hl := lv_entry ([.ref (b 0)]) (n := 1) (Nat.le_of_ble_eq_true rfl)
  rw [lg_entry_eq]
  generalize (lg_sl ([.ref (b 0)]) ++ List.replicate (1 - (lg_sl ([.ref (b 0)])).length) Slot.unset).toArray = ls at hl ⊢
  have hl : lv_has ls 1 [(0, .ref (b 0))] := hl
  refine lv_aload_n hx hb dX2_clear_0 rfl (lv_at hl 0 rfl) ?_
  refine lv_iconst (v := zI 0) hx hb dX2_clear_1 (by first | rfl | decide) ?_
  refine va_put (D := D) (ci := 2) (v := .int (zI 0)) (ty := .int) (C := RX2) (T := TX2) (N := 12) hx hb hts inX2_clear_X2 tyX2 tyX2_ok nmX2 hown hK.1 hP hD hS 0 rfl rfl 7 (by decide) (hts (.fieldLink RX2 48 "TextEnds" "length" "I") (List.mem_of_getElem? (i := 1) rfl)) (fun _ h9 => h9) rfl (by decide +kernel) rfl rfl (Nat.le_of_ble_eq_true rfl) dX2_clear_2 (fun H locs hP hD hS => ?_)
  have hP : va_P D vwCl [(b 0, .inr (2, te b a sg 0 pl bt fh ht))] H := hP
  have hD : va_D A [(b 0, .inr (2, te b a sg 0 pl bt fh ht))] := hD
  refine lv_aload_n hx hb dX2_clear_5 rfl (lv_at hl 0 rfl) ?_
  refine lv_iconst (v := zI 0) hx hb dX2_clear_6 (by first | rfl | decide) ?_
  refine va_put (D := D) (ci := 2) (v := .int (zI 0)) (ty := .boolean) (C := RX2) (T := TX2) (N := 12) hx hb hts inX2_clear_X2 tyX2 tyX2_ok nmX2 hown hK.1 hP hD hS 0 rfl rfl 9 (by decide) (hts (.fieldLink RX2 51 "TextEnds" "built" "Z") (List.mem_of_getElem? (i := 2) rfl)) (fun _ h9 => h9) rfl (by decide +kernel) (znar_b2 (by first | exact Or.inl rfl | exact Or.inr rfl | exact bi_01 _ | with_reducible assumption | omega)) (zfit_b (by first | exact Or.inl rfl | exact Or.inr rfl | exact bi_01 _ | with_reducible assumption | omega)) (Nat.le_of_ble_eq_true rfl) dX2_clear_7 (fun H locs hP hD hS => ?_)
  have hP : va_P D vwCl [(b 0, .inr (2, te b a sg 0 pl 0 fh ht))] H := hP
  have hD : va_D A [(b 0, .inr (2, te b a sg 0 pl 0 fh ht))] := hD
  refine lv_aload_n hx hb dX2_clear_10 rfl (lv_at hl 0 rfl) ?_
  refine z_cw (wc := [(b 0, .inr (2, te b a sg 0 pl 0 fh ht))]) (wr := []) (Wt := (fun _ : Unit => [(b 0, .inr (2, te b a sg 0 0 0 fh 0))])) [0] [] [0] hP hD hS hA rfl rfl (by decide) (by decide) (by decide) (by decide) (fun _ => rfl) (fun _ => rfl) (fun hPc hDc => va_runV (As := []) (rest := []) ⟨hx, hb, hml, hown, hts⟩ (kX2_patClear l D cI cZ cL b a sg 0 pl 0 fh ht _ ) (cwV 0 hts gX2_clear_X2_patClear rfl rfl rfl (by decide +kernel) ⟨Nat.le_of_ble_eq_true rfl, Nat.le_of_ble_eq_true rfl⟩) (zPw_preV (ci := 2) (q0 := 0) hK hPc hDc rfl rfl) rfl rfl hl.1 rfl (lv_room (Nat.le_of_ble_eq_true rfl)) dX2_clear_11 ⟨Nat.zero_le _, Nat.zero_le _⟩) rfl (fun u H locs hp_ hP hD hS => ?_)
  have hP : va_P D vwCl [(b 0, .inr (2, te b a sg 0 0 0 fh 0))] H := hP
  have hD : va_D A [(b 0, .inr (2, te b a sg 0 0 0 fh 0))] := hD
  exact W.vret hx hb hr (fun t ht_ hW_ => ⟨⟨(), rfl, trivial, by rw [ht_]; exact hP, hD⟩, hS.F ht_⟩) hS.2.2 dX2_clear_14
set_option maxHeartbeats 4000000 in
set_option maxRecDepth 100000 in
/-- sa(i) -/
theorem kX2_sa (l : Launch) (D : va_G) (cI cZ cL : ClassId) (b a : Nat → Nat) (sg len pl bt fh ht : Int) (nO : Nat) (od : Int → Int) (i : Int) (hlen : 0 ≤ len ∧ len ≤ 1000000) (hbt : bt = 0 ∨ bt = 1) (hlO : len ≤ (nO : Int)) (bnO : (nO : Int) < 1073741824) (hi : zR i) : Met l yX2_sa wsX2_sa ({ frames := 1, cells := 0, slots := 0, locals := 21 }) (zPr D cI cZ cL [.ref (b 0), .int (zI i)] [(b 0, .inr (2, te b a sg len pl bt fh ht)), (a 2, .inl (cI, nO, .inl (zA od)))]) (zQi (fun r => r = zsa bt len od i)) 0 0 (fun _ => False) := by
  refine Met.ofW (cc := cX2_sa) (maxL := 2) (ret := (some .int)) (by decide) rfl ?_
  intro p e s m args below meth c s₁ B hml hv
  obtain ⟨rfl, hP, hK⟩ := hv
  have hx := B.exec
  have hb := B.bytes
  have hr := B.returns
  have hts := atoms_spec (ws := wsX2_sa) B.pre
  have hown : s.vm.findClass RX2 = some m.cls := findClass_of_methodNamed B.named
  have hlocks := B.notSynchronized
  have hP : va_P D vwCl [(b 0, .inr (2, te b a sg len pl bt fh ht)), (a 2, .inl (cI, nO, .inl (zA od)))] s.heap := hP
  have hl := lv_entry ([.ref (b 0), .int (zI i)]) (n := 2) (Nat.le_of_ble_eq_true rfl)
  rw [lg_entry_eq]
  generalize (lg_sl ([.ref (b 0), .int (zI i)]) ++ List.replicate (2 - (lg_sl ([.ref (b 0), .int (zI i)])).length) Slot.unset).toArray = ls at hl ⊢
  have hl : lv_has ls 2 [(0, .ref (b 0)), (1, .int (zI i))] := hl
  refine lv_aload_n hx hb dX2_sa_0 rfl (lv_at hl 0 rfl) ?_
  refine lv_iload_n hx hb dX2_sa_1 rfl (lv_at hl 1 rfl) ?_
  refine z_cr (va_runV (As := [.int (zI i)]) (rest := []) ⟨hx, hb, hml, hown, hts⟩ (kX2_isEnd l D cI cZ cL b a sg len pl bt fh ht i (by omega) (by omega) (by omega)) (cwV 1 hts gX2_sa_X2_isEnd rfl rfl rfl (by decide +kernel) ⟨Nat.le_of_ble_eq_true rfl, Nat.le_of_ble_eq_true rfl⟩) (zPr_preV (ci := 2) (q0 := 0) hK (hP.sub (ws' := [(b 0, .inr (2, te b a sg len pl bt fh ht))]) [0] rfl) rfl rfl) rfl rfl hl.1 rfl (lv_room (Nat.le_of_ble_eq_true rfl)) dX2_sa_2 ⟨Nat.zero_le _, Nat.zero_le _⟩) (fun r hr_ => ?_)
  subst hr_
  refine z_if_eq (tgt := 17) hx hb dX2_sa_5 (by decide) (bi_R _) (fun h_1 => ?_) (fun h_1 => ?_)
  · skip
    have he5 := bi_eq h_1
    refine lv_iconst (v := zI (-1)) hx hb dX2_sa_17 (by first | rfl | decide) ?_
    exact W.iret (v := zI (-1)) hx hb hr (fun t ht_ hW_ => ⟨(-1), rfl, by show _ = zsa bt len od i; unfold zsa; first | rw [if_pos he5] | rw [he5, if_neg (by decide)], ht_⟩) (fun q h => by cases h) dX2_sa_18
  · skip
    have he5 := bi_ne h_1
    have hf5 := zie_iff.mp he5
    refine lv_aload_n hx hb dX2_sa_8 rfl (lv_at hl 0 rfl) ?_
    refine va_get (D := D) (ci := 2) (v := .ref (a 2)) (C := RX2) (T := TX2) (N := 12) hx hb hts inX2_sa_X2 hown hK.1 hP 0 rfl rfl 3 (by decide) (hts (.fieldLink RX2 34 "TextEnds" "order" "[I") (List.mem_of_getElem? (i := 1) rfl)) (fun _ h9 => h9) rfl dX2_sa_9 ?_
    refine lv_iload_n hx hb dX2_sa_12 rfl (lv_at hl 1 rfl) ?_
    refine z_iald hx hb hK.1 hP 1 0 rfl rfl dX2_sa_13 (by omega) (by omega) (by omega) ?_
    refine lv_goto (tgt := 18) hx hb dX2_sa_14 (by decide) ?_
    exact W.iret (v := zI (od i)) hx hb hr (fun t ht_ hW_ => ⟨od i, rfl, by show _ = zsa bt len od i; unfold zsa; first | rw [if_pos he5] | rw [he5, if_neg (by decide)], ht_⟩) (fun q h => by cases h) dX2_sa_18
set_option maxHeartbeats 4000000 in
set_option maxRecDepth 100000 in
/-- rank(place) -/
theorem kX2_rank (l : Launch) (D : va_G) (cI cZ cL : ClassId) (b a : Nat → Nat) (sg len pl bt fh ht : Int) (nS : Nat) (sd : Int → Int) (i : Int) (hlen : 0 ≤ len ∧ len ≤ 1000000) (hbt : bt = 0 ∨ bt = 1) (hlS : len ≤ (nS : Int)) (bnS : (nS : Int) < 1073741824) (hi : zR i) : Met l yX2_rank wsX2_rank ({ frames := 1, cells := 0, slots := 0, locals := 21 }) (zPr D cI cZ cL [.ref (b 0), .int (zI i)] [(b 0, .inr (2, te b a sg len pl bt fh ht)), (b 3, .inl (cI, nS, .inl (zA sd)))]) (zQi (fun r => r = zsa bt len sd i)) 0 0 (fun _ => False) := by
  refine Met.ofW (cc := cX2_rank) (maxL := 2) (ret := (some .int)) (by decide) rfl ?_
  intro p e s m args below meth c s₁ B hml hv
  obtain ⟨rfl, hP, hK⟩ := hv
  have hx := B.exec
  have hb := B.bytes
  have hr := B.returns
  have hts := atoms_spec (ws := wsX2_rank) B.pre
  have hown : s.vm.findClass RX2 = some m.cls := findClass_of_methodNamed B.named
  have hlocks := B.notSynchronized
  have hP : va_P D vwCl [(b 0, .inr (2, te b a sg len pl bt fh ht)), (b 3, .inl (cI, nS, .inl (zA sd)))] s.heap := hP
  have hl := lv_entry ([.ref (b 0), .int (zI i)]) (n := 2) (Nat.le_of_ble_eq_true rfl)
  rw [lg_entry_eq]
  generalize (lg_sl ([.ref (b 0), .int (zI i)]) ++ List.replicate (2 - (lg_sl ([.ref (b 0), .int (zI i)])).length) Slot.unset).toArray = ls at hl ⊢
  have hl : lv_has ls 2 [(0, .ref (b 0)), (1, .int (zI i))] := hl
  refine lv_aload_n hx hb dX2_rank_0 rfl (lv_at hl 0 rfl) ?_
  refine lv_iload_n hx hb dX2_rank_1 rfl (lv_at hl 1 rfl) ?_
  refine z_cr (va_runV (As := [.int (zI i)]) (rest := []) ⟨hx, hb, hml, hown, hts⟩ (kX2_isEnd l D cI cZ cL b a sg len pl bt fh ht i (by omega) (by omega) (by omega)) (cwV 1 hts gX2_rank_X2_isEnd rfl rfl rfl (by decide +kernel) ⟨Nat.le_of_ble_eq_true rfl, Nat.le_of_ble_eq_true rfl⟩) (zPr_preV (ci := 2) (q0 := 0) hK (hP.sub (ws' := [(b 0, .inr (2, te b a sg len pl bt fh ht))]) [0] rfl) rfl rfl) rfl rfl hl.1 rfl (lv_room (Nat.le_of_ble_eq_true rfl)) dX2_rank_2 ⟨Nat.zero_le _, Nat.zero_le _⟩) (fun r hr_ => ?_)
  subst hr_
  refine z_if_eq (tgt := 17) hx hb dX2_rank_5 (by decide) (bi_R _) (fun h_1 => ?_) (fun h_1 => ?_)
  · skip
    have he5 := bi_eq h_1
    refine lv_iconst (v := zI (-1)) hx hb dX2_rank_17 (by first | rfl | decide) ?_
    exact W.iret (v := zI (-1)) hx hb hr (fun t ht_ hW_ => ⟨(-1), rfl, by show _ = zsa bt len sd i; unfold zsa; first | rw [if_pos he5] | rw [he5, if_neg (by decide)], ht_⟩) (fun q h => by cases h) dX2_rank_18
  · skip
    have he5 := bi_ne h_1
    have hf5 := zie_iff.mp he5
    refine lv_aload_n hx hb dX2_rank_8 rfl (lv_at hl 0 rfl) ?_
    refine va_get (D := D) (ci := 2) (v := .ref (b 3)) (C := RX2) (T := TX2) (N := 12) hx hb hts inX2_rank_X2 hown hK.1 hP 0 rfl rfl 5 (by decide) (hts (.fieldLink RX2 38 "TextEnds" "standing" "[I") (List.mem_of_getElem? (i := 1) rfl)) (fun _ h9 => h9) rfl dX2_rank_9 ?_
    refine lv_iload_n hx hb dX2_rank_12 rfl (lv_at hl 1 rfl) ?_
    refine z_iald hx hb hK.1 hP 1 0 rfl rfl dX2_rank_13 (by omega) (by omega) (by omega) ?_
    refine lv_goto (tgt := 18) hx hb dX2_rank_14 (by decide) ?_
    exact W.iret (v := zI (sd i)) hx hb hr (fun t ht_ hW_ => ⟨sd i, rfl, by show _ = zsa bt len sd i; unfold zsa; first | rw [if_pos he5] | rw [he5, if_neg (by decide)], ht_⟩) (fun q h => by cases h) dX2_rank_18
set_option maxHeartbeats 4000000 in
set_option maxRecDepth 100000 in
/-- lcp(i) -/
theorem kX2_lcp (l : Launch) (D : va_G) (cI cZ cL : ClassId) (b a : Nat → Nat) (sg len pl bt fh ht : Int) (nA : Nat) (al : Int → Int) (i : Int) (hlen : 0 ≤ len ∧ len ≤ 1000000) (hbt : bt = 0 ∨ bt = 1) (hlA : len ≤ (nA : Int)) (bnA : (nA : Int) < 1073741824) (hi : zR i) : Met l yX2_lcp wsX2_lcp ({ frames := 1, cells := 0, slots := 0, locals := 21 }) (zPr D cI cZ cL [.ref (b 0), .int (zI i)] [(b 0, .inr (2, te b a sg len pl bt fh ht)), (b 4, .inl (cI, nA, .inl (zA al)))]) (zQi (fun r => r = zlc bt len al i)) 0 0 (fun _ => False) := by
  refine Met.ofW (cc := cX2_lcp) (maxL := 2) (ret := (some .int)) (by decide) rfl ?_
  intro p e s m args below meth c s₁ B hml hv
  obtain ⟨rfl, hP, hK⟩ := hv
  have hx := B.exec
  have hb := B.bytes
  have hr := B.returns
  have hts := atoms_spec (ws := wsX2_lcp) B.pre
  have hown : s.vm.findClass RX2 = some m.cls := findClass_of_methodNamed B.named
  have hlocks := B.notSynchronized
  have hP : va_P D vwCl [(b 0, .inr (2, te b a sg len pl bt fh ht)), (b 4, .inl (cI, nA, .inl (zA al)))] s.heap := hP
  have hl := lv_entry ([.ref (b 0), .int (zI i)]) (n := 2) (Nat.le_of_ble_eq_true rfl)
  rw [lg_entry_eq]
  generalize (lg_sl ([.ref (b 0), .int (zI i)]) ++ List.replicate (2 - (lg_sl ([.ref (b 0), .int (zI i)])).length) Slot.unset).toArray = ls at hl ⊢
  have hl : lv_has ls 2 [(0, .ref (b 0)), (1, .int (zI i))] := hl
  refine lv_iload_n hx hb dX2_lcp_0 rfl (lv_at hl 1 rfl) ?_
  refine lv_iconst (v := zI 1) hx hb dX2_lcp_1 (by first | rfl | decide) ?_
  refine z_icmp_lt (tgt := 22) hx hb dX2_lcp_2 (by decide) (by omega) (by omega) (fun h_1 => ?_) (fun h_1 => ?_)
  · skip
    refine lv_iconst (v := zI (-1)) hx hb dX2_lcp_22 (by first | rfl | decide) ?_
    exact W.iret (v := zI (-1)) hx hb hr (fun t ht_ hW_ => ⟨(-1), rfl, by first | exact zlc_a (by omega) | exact zlc_t he10 (by omega) | exact zlc_b he10, ht_⟩) (fun q h => by cases h) dX2_lcp_23
  · skip
    refine lv_aload_n hx hb dX2_lcp_5 rfl (lv_at hl 0 rfl) ?_
    refine lv_iload_n hx hb dX2_lcp_6 rfl (lv_at hl 1 rfl) ?_
    refine z_cr (va_runV (As := [.int (zI i)]) (rest := []) ⟨hx, hb, hml, hown, hts⟩ (kX2_isEnd l D cI cZ cL b a sg len pl bt fh ht i (by omega) (by omega) (by omega)) (cwV 1 hts gX2_lcp_X2_isEnd rfl rfl rfl (by decide +kernel) ⟨Nat.le_of_ble_eq_true rfl, Nat.le_of_ble_eq_true rfl⟩) (zPr_preV (ci := 2) (q0 := 0) hK (hP.sub (ws' := [(b 0, .inr (2, te b a sg len pl bt fh ht))]) [0] rfl) rfl rfl) rfl rfl hl.1 rfl (lv_room (Nat.le_of_ble_eq_true rfl)) dX2_lcp_7 ⟨Nat.zero_le _, Nat.zero_le _⟩) (fun r hr_ => ?_)
    subst hr_
    refine z_if_eq (tgt := 22) hx hb dX2_lcp_10 (by decide) (bi_R _) (fun h_2 => ?_) (fun h_2 => ?_)
    · skip
      have he10 := bi_eq h_2
      refine lv_iconst (v := zI (-1)) hx hb dX2_lcp_22 (by first | rfl | decide) ?_
      exact W.iret (v := zI (-1)) hx hb hr (fun t ht_ hW_ => ⟨(-1), rfl, by first | exact zlc_a (by omega) | exact zlc_t he10 (by omega) | exact zlc_b he10, ht_⟩) (fun q h => by cases h) dX2_lcp_23
    · skip
      have he10 := bi_ne h_2
      have hf10 := zie_iff.mp he10
      refine lv_aload_n hx hb dX2_lcp_13 rfl (lv_at hl 0 rfl) ?_
      refine va_get (D := D) (ci := 2) (v := .ref (b 4)) (C := RX2) (T := TX2) (N := 12) hx hb hts inX2_lcp_X2 hown hK.1 hP 0 rfl rfl 6 (by decide) (hts (.fieldLink RX2 41 "TextEnds" "alike" "[I") (List.mem_of_getElem? (i := 1) rfl)) (fun _ h9 => h9) rfl dX2_lcp_14 ?_
      refine lv_iload_n hx hb dX2_lcp_17 rfl (lv_at hl 1 rfl) ?_
      refine z_iald hx hb hK.1 hP 1 0 rfl rfl dX2_lcp_18 (by omega) (by omega) (by omega) ?_
      refine lv_goto (tgt := 23) hx hb dX2_lcp_19 (by decide) ?_
      exact W.iret (v := zI (al i)) hx hb hr (fun t ht_ hW_ => ⟨al i, rfl, by first | exact zlc_a (by omega) | exact zlc_t he10 (by omega) | exact zlc_b he10, ht_⟩) (fun q h => by cases h) dX2_lcp_23
set_option maxHeartbeats 4000000 in
set_option maxRecDepth 100000 in
/-- alikeFrom(place, other, known) -/
theorem kX2_alikeFrom (l : Launch) (D : va_G) (cI cZ cL : ClassId) (b a : Nat → Nat) (sg len pl bt fh ht : Int) (nT : Nat) (T : Int → Int) (x y k0 : Int) (hlen : 0 ≤ len ∧ len ≤ 1000000) (hlT : len ≤ (nT : Int)) (bnT : (nT : Int) < 1073741824) (hT : zS T) (hx1 : 0 ≤ x ∧ x ≤ len) (hy1 : 0 ≤ y ∧ y ≤ len) (hk0 : 0 ≤ k0 ∧ k0 ≤ 1000000) : Met l yX2_alikeFrom wsX2_alikeFrom ({ frames := 1, cells := 0, slots := 0, locals := 30 }) (zPr D cI cZ cL [.ref (b 0), .int (zI x), .int (zI y), .int (zI k0)] [(b 0, .inr (2, te b a sg len pl bt fh ht)), (b 1, .inl (cI, nT, .inl (zA T)))]) (zQi (fun r => r = zcm len T x y k0)) 0 0 (fun _ => False) := by
  refine Met.ofW (cc := cX2_alikeFrom) (maxL := 6) (ret := (some .int)) (by decide) rfl ?_
  intro p e s m args below meth c s₁ B hml hv
  obtain ⟨rfl, hP, hK⟩ := hv
  have hx := B.exec
  have hb := B.bytes
  have hr := B.returns
  have hts := atoms_spec (ws := wsX2_alikeFrom) B.pre
  have hown : s.vm.findClass RX2 = some m.cls := findClass_of_methodNamed B.named
  have hlocks := B.notSynchronized
  have hP : va_P D vwCl [(b 0, .inr (2, te b a sg len pl bt fh ht)), (b 1, .inl (cI, nT, .inl (zA T)))] s.heap := hP
  have hl := lv_entry ([.ref (b 0), .int (zI x), .int (zI y), .int (zI k0)]) (n := 6) (Nat.le_of_ble_eq_true rfl)
  rw [lg_entry_eq]
  generalize (lg_sl ([.ref (b 0), .int (zI x), .int (zI y), .int (zI k0)]) ++ List.replicate (6 - (lg_sl ([.ref (b 0), .int (zI x), .int (zI y), .int (zI k0)])).length) Slot.unset).toArray = ls at hl ⊢
  have hl : lv_has ls 6 [(0, .ref (b 0)), (1, .int (zI x)), (2, .int (zI y)), (3, .int (zI k0))] := hl
  have hm1 := zmax_ge (a := x) (b := y)
  have hm2 := zmax_le (a := x) (b := y) (c := len) (by omega) (by omega)
  refine lv_aload_n hx hb dX2_alikeFrom_0 rfl (lv_at hl 0 rfl) ?_
  refine va_get (D := D) (ci := 2) (v := .int (zI len)) (C := RX2) (T := TX2) (N := 12) hx hb hts inX2_alikeFrom_X2 hown hK.1 hP 0 rfl rfl 7 (by decide) (hts (.fieldLink RX2 48 "TextEnds" "length" "I") (List.mem_of_getElem? (i := 1) rfl)) (fun _ h9 => h9) rfl dX2_alikeFrom_1 ?_
  refine lv_iload_n hx hb dX2_alikeFrom_4 rfl (lv_at hl 1 rfl) ?_
  refine lv_iload_n hx hb dX2_alikeFrom_5 rfl (lv_at hl 2 rfl) ?_
  refine va_mmax hx hb (hml.trans hl.1.symm) hown (hts (.methodLink RX2 114 Lib.Math.max.name) (List.mem_of_getElem? (i := 2) rfl)) (hts (.static Lib.Math.max.name) (List.mem_of_getElem? (i := 3) rfl)) (hts (.initialized "java/lang/Math") (List.mem_of_getElem? (i := 4) rfl)) (hts (.code Lib.Math.max.name Lib.Math.max.code 2 (some .int)) (List.mem_of_getElem? (i := 5) rfl)) (Nat.le_of_ble_eq_true rfl) (Nat.le_of_ble_eq_true rfl) (Nat.zero_le _) (Nat.zero_le _) dX2_alikeFrom_6 ?_
  refine z_topx (b := zmax x y) (zmax_I (by omega) (by omega)) ?_
  refine z_isub hx hb dX2_alikeFrom_9 ?_
  refine lv_istore (lv' := [(4, .int (zI (len - (zmax x y)))), (0, .ref (b 0)), (1, .int (zI x)), (2, .int (zI y)), (3, .int (zI k0))]) hx hb dX2_alikeFrom_10 hl (by decide) rfl (fun ls hl => ?_)
  refine lv_iload_n hx hb dX2_alikeFrom_12 rfl (lv_at hl 4 rfl) ?_
  refine lv_istore (lv' := [(5, .int (zI k0)), (4, .int (zI (len - (zmax x y)))), (0, .ref (b 0)), (1, .int (zI x)), (2, .int (zI y)), (3, .int (zI k0))]) hx hb dX2_alikeFrom_13 hl (by decide) rfl (fun ls hl => ?_)
  have loop15 : ∀ (nn : Nat) (k : Int) (ls : Array Slot), (0 ≤ k ∧ k ≤ 1000000) → (zcm len T x y k = zcm len T x y k0) → ((len - zmax x y - k).toNat) < nn → lv_has ls 6 [(0, .ref (b 0)), (1, .int (zI x)), (2, .int (zI y)), (3, .int (zI k0)), (4, .int (zI (len - (zmax x y)))), (5, .int (zI k))] → W p l e (headSpec wsX2_alikeFrom ({ frames := 1, cells := 0, slots := 0, locals := 30 })).room s m ([.ref (b 0), .int (zI x), .int (zI y), .int (zI k0)] : List Value).toArray below meth c s.heap [] 0 0 (MQ below (zQi (fun r => r = zcm len T x y k0)) ([.ref (b 0), .int (zI x), .int (zI y), .int (zI k0)] : List Value).toArray s 0 0 (fun _ => False)) (F0 m 15 ls []) := by
    intro nn
    induction nn with
    | zero =>
      intros
      exact absurd (by assumption : _ < 0) (Nat.not_lt_zero _)
    | succ nn ih15 =>
      intro k ls h0 hq hmu hl
      refine lv_iload hx hb dX2_alikeFrom_15 (lv_at hl 5 rfl) ?_
      refine lv_iload hx hb dX2_alikeFrom_17 (lv_at hl 4 rfl) ?_
      refine z_icmp_ge (tgt := 53) hx hb dX2_alikeFrom_19 (by decide) (by omega) (by omega) (fun h_1 => ?_) (fun h_1 => ?_)
      · skip
        refine lv_iload hx hb dX2_alikeFrom_53 (lv_at hl 5 rfl) ?_
        exact W.iret (v := zI k) hx hb hr (fun t ht_ hW_ => ⟨k, rfl, by first | exact (zcm_ne hen).symm.trans hq | exact (zcm_stop (by omega)).symm.trans hq, ht_⟩) (fun q h => by cases h) dX2_alikeFrom_55
      · skip
        have e1 : zat nT T (x + k) = T (x + k) := zat_in (by omega) (by omega)
        have e2 : zat nT T (y + k) = T (y + k) := zat_in (by omega) (by omega)
        have hk1 := hT (x + k)
        have hk2 := hT (y + k)
        refine lv_aload_n hx hb dX2_alikeFrom_22 rfl (lv_at hl 0 rfl) ?_
        refine va_get (D := D) (ci := 2) (v := .ref (b 1)) (C := RX2) (T := TX2) (N := 12) hx hb hts inX2_alikeFrom_X2 hown hK.1 hP 0 rfl rfl 2 (by decide) (hts (.fieldLink RX2 30 "TextEnds" "text" "[I") (List.mem_of_getElem? (i := 6) rfl)) (fun _ h9 => h9) rfl dX2_alikeFrom_23 ?_
        refine lv_iload_n hx hb dX2_alikeFrom_26 rfl (lv_at hl 1 rfl) ?_
        refine lv_iload hx hb dX2_alikeFrom_27 (lv_at hl 5 rfl) ?_
        refine z_iadd hx hb dX2_alikeFrom_29 ?_
        refine z_cr (va_runS (As := [.ref (b 1), .int (zI (x + k))]) (rest := []) ⟨hx, hb, hml, hown, hts⟩ (kX2_at l D cI cZ cL (b 1) nT T (x + k) (by omega) (by omega)) (va_cwS 2 hts gX2_alikeFrom_X2_at rfl rfl rfl (by decide +kernel) ⟨Nat.le_of_ble_eq_true rfl, Nat.le_of_ble_eq_true rfl⟩) (zPr_pre hK (hP.sub (ws' := [(b 1, .inl (cI, nT, .inl (zA T)))]) [1] rfl)) rfl rfl hl.1 rfl (lv_room (Nat.le_of_ble_eq_true rfl)) dX2_alikeFrom_30 ⟨Nat.zero_le _, Nat.zero_le _⟩) (fun r hr_ => ?_)
        subst hr_
        refine lv_aload_n hx hb dX2_alikeFrom_33 rfl (lv_at hl 0 rfl) ?_
        refine va_get (D := D) (ci := 2) (v := .ref (b 1)) (C := RX2) (T := TX2) (N := 12) hx hb hts inX2_alikeFrom_X2 hown hK.1 hP 0 rfl rfl 2 (by decide) (hts (.fieldLink RX2 30 "TextEnds" "text" "[I") (List.mem_of_getElem? (i := 6) rfl)) (fun _ h9 => h9) rfl dX2_alikeFrom_34 ?_
        refine lv_iload_n hx hb dX2_alikeFrom_37 rfl (lv_at hl 2 rfl) ?_
        refine lv_iload hx hb dX2_alikeFrom_38 (lv_at hl 5 rfl) ?_
        refine z_iadd hx hb dX2_alikeFrom_40 ?_
        refine z_cr (va_runS (As := [.ref (b 1), .int (zI (y + k))]) (rest := [.int (zI (zat nT T (x + k)))]) ⟨hx, hb, hml, hown, hts⟩ (kX2_at l D cI cZ cL (b 1) nT T (y + k) (by omega) (by omega)) (va_cwS 2 hts gX2_alikeFrom_X2_at rfl rfl rfl (by decide +kernel) ⟨Nat.le_of_ble_eq_true rfl, Nat.le_of_ble_eq_true rfl⟩) (zPr_pre hK (hP.sub (ws' := [(b 1, .inl (cI, nT, .inl (zA T)))]) [1] rfl)) rfl rfl hl.1 rfl (lv_room (Nat.le_of_ble_eq_true rfl)) dX2_alikeFrom_41 ⟨Nat.zero_le _, Nat.zero_le _⟩) (fun r hr_ => ?_)
        subst hr_
        refine z_icmp_ne (tgt := 53) hx hb dX2_alikeFrom_44 (by decide) (by omega) (by omega) (fun h_2 => ?_) (fun h_2 => ?_)
        · skip
          have hen := h_2
          rw [e1, e2] at hen
          refine lv_iload hx hb dX2_alikeFrom_53 (lv_at hl 5 rfl) ?_
          exact W.iret (v := zI k) hx hb hr (fun t ht_ hW_ => ⟨k, rfl, by first | exact (zcm_ne hen).symm.trans hq | exact (zcm_stop (by omega)).symm.trans hq, ht_⟩) (fun q h => by cases h) dX2_alikeFrom_55
        · skip
          have hee := h_2
          rw [e1, e2] at hee
          refine lv_iinc (v := zI (k + 1)) (lv' := [(5, .int (zI (k + 1))), (0, .ref (b 0)), (1, .int (zI x)), (2, .int (zI y)), (3, .int (zI k0)), (4, .int (zI (len - (zmax x y))))]) hx hb dX2_alikeFrom_47 hl (k := 5) rfl (zI_add _ _) (by decide) rfl (fun ls hl => ?_)
          refine lv_goto (tgt := 15) hx hb dX2_alikeFrom_50 (by decide) ?_
          exact ih15 (k + 1) ls (by omega) (by rw [← hq]; exact zcm_eq (by omega) hee) (by omega) (lv_sub hl [1, 2, 3, 4, 5, 0] rfl)
  exact loop15 _ k0 ls (by omega) (rfl) (Nat.lt_succ_self _) (lv_sub hl [2, 3, 4, 5, 1, 0] rfl)
set_option maxHeartbeats 4000000 in
set_option maxRecDepth 100000 in
/-- common(place, other) -/
theorem kX2_common (l : Launch) (D : va_G) (cI cZ cL : ClassId) (b a : Nat → Nat) (sg len pl bt fh ht : Int) (nT : Nat) (T : Int → Int) (x y : Int) (hlen : 0 ≤ len ∧ len ≤ 1000000) (hlT : len ≤ (nT : Int)) (bnT : (nT : Int) < 1073741824) (hT : zS T) (hbt : bt = 0 ∨ bt = 1) (hx1 : zR x) (hy1 : zR y) : Met l yX2_common wsX2_common ({ frames := 2, cells := 0, slots := 0, locals := 55 }) (zPr D cI cZ cL [.ref (b 0), .int (zI x), .int (zI y)] [(b 0, .inr (2, te b a sg len pl bt fh ht)), (b 1, .inl (cI, nT, .inl (zA T)))]) (zQi (fun r => r = zcn2 bt len T x y)) 0 0 (fun _ => False) := by
  refine Met.ofW (cc := cX2_common) (maxL := 3) (ret := (some .int)) (by decide) rfl ?_
  intro p e s m args below meth c s₁ B hml hv
  obtain ⟨rfl, hP, hK⟩ := hv
  have hx := B.exec
  have hb := B.bytes
  have hr := B.returns
  have hts := atoms_spec (ws := wsX2_common) B.pre
  have hown : s.vm.findClass RX2 = some m.cls := findClass_of_methodNamed B.named
  have hlocks := B.notSynchronized
  have hP : va_P D vwCl [(b 0, .inr (2, te b a sg len pl bt fh ht)), (b 1, .inl (cI, nT, .inl (zA T)))] s.heap := hP
  have hl := lv_entry ([.ref (b 0), .int (zI x), .int (zI y)]) (n := 3) (Nat.le_of_ble_eq_true rfl)
  rw [lg_entry_eq]
  generalize (lg_sl ([.ref (b 0), .int (zI x), .int (zI y)]) ++ List.replicate (3 - (lg_sl ([.ref (b 0), .int (zI x), .int (zI y)])).length) Slot.unset).toArray = ls at hl ⊢
  have hl : lv_has ls 3 [(0, .ref (b 0)), (1, .int (zI x)), (2, .int (zI y))] := hl
  refine lv_aload_n hx hb dX2_common_0 rfl (lv_at hl 0 rfl) ?_
  refine lv_iload_n hx hb dX2_common_1 rfl (lv_at hl 1 rfl) ?_
  refine z_cr (va_runV (As := [.int (zI x)]) (rest := []) ⟨hx, hb, hml, hown, hts⟩ (kX2_isEnd l D cI cZ cL b a sg len pl bt fh ht x (by omega) (by omega) (by omega)) (cwV 1 hts gX2_common_X2_isEnd rfl rfl rfl (by decide +kernel) ⟨Nat.le_of_ble_eq_true rfl, Nat.le_of_ble_eq_true rfl⟩) (zPr_preV (ci := 2) (q0 := 0) hK (hP.sub (ws' := [(b 0, .inr (2, te b a sg len pl bt fh ht))]) [0] rfl) rfl rfl) rfl rfl hl.1 rfl (lv_room (Nat.le_of_ble_eq_true rfl)) dX2_common_2 ⟨Nat.zero_le _, Nat.zero_le _⟩) (fun r hr_ => ?_)
  subst hr_
  refine z_if_eq (tgt := 26) hx hb dX2_common_5 (by decide) (bi_R _) (fun h_1 => ?_) (fun h_1 => ?_)
  · skip
    have he5 := bi_eq h_1
    refine lv_iconst (v := zI (-1)) hx hb dX2_common_26 (by first | rfl | decide) ?_
    exact W.iret (v := zI (-1)) hx hb hr (fun t ht_ hW_ => ⟨(-1), rfl, by first | exact zcn2_t he5 he13 | exact zcn2_a he5 | exact zcn2_b he13, ht_⟩) (fun q h => by cases h) dX2_common_27
  · skip
    have he5 := bi_ne h_1
    have hf5 := zie_iff.mp he5
    refine lv_aload_n hx hb dX2_common_8 rfl (lv_at hl 0 rfl) ?_
    refine lv_iload_n hx hb dX2_common_9 rfl (lv_at hl 2 rfl) ?_
    refine z_cr (va_runV (As := [.int (zI y)]) (rest := []) ⟨hx, hb, hml, hown, hts⟩ (kX2_isEnd l D cI cZ cL b a sg len pl bt fh ht y (by omega) (by omega) (by omega)) (cwV 1 hts gX2_common_X2_isEnd rfl rfl rfl (by decide +kernel) ⟨Nat.le_of_ble_eq_true rfl, Nat.le_of_ble_eq_true rfl⟩) (zPr_preV (ci := 2) (q0 := 0) hK (hP.sub (ws' := [(b 0, .inr (2, te b a sg len pl bt fh ht))]) [0] rfl) rfl rfl) rfl rfl hl.1 rfl (lv_room (Nat.le_of_ble_eq_true rfl)) dX2_common_10 ⟨Nat.zero_le _, Nat.zero_le _⟩) (fun r hr_ => ?_)
    subst hr_
    refine z_if_eq (tgt := 26) hx hb dX2_common_13 (by decide) (bi_R _) (fun h_2 => ?_) (fun h_2 => ?_)
    · skip
      have he13 := bi_eq h_2
      refine lv_iconst (v := zI (-1)) hx hb dX2_common_26 (by first | rfl | decide) ?_
      exact W.iret (v := zI (-1)) hx hb hr (fun t ht_ hW_ => ⟨(-1), rfl, by first | exact zcn2_t he5 he13 | exact zcn2_a he5 | exact zcn2_b he13, ht_⟩) (fun q h => by cases h) dX2_common_27
    · skip
      have he13 := bi_ne h_2
      have hf13 := zie_iff.mp he13
      refine lv_aload_n hx hb dX2_common_16 rfl (lv_at hl 0 rfl) ?_
      refine lv_iload_n hx hb dX2_common_17 rfl (lv_at hl 1 rfl) ?_
      refine lv_iload_n hx hb dX2_common_18 rfl (lv_at hl 2 rfl) ?_
      refine lv_iconst (v := zI 0) hx hb dX2_common_19 (by first | rfl | decide) ?_
      refine z_cr (va_runV (As := [.int (zI x), .int (zI y), .int (zI 0)]) (rest := []) ⟨hx, hb, hml, hown, hts⟩ (kX2_alikeFrom l D cI cZ cL b a sg len pl bt fh ht nT T x y 0 (by omega) (by omega) (by omega) (hT) (by omega) (by omega) (by omega)) (cwV 3 hts gX2_common_X2_alikeFrom rfl rfl rfl (by decide +kernel) ⟨Nat.le_of_ble_eq_true rfl, Nat.le_of_ble_eq_true rfl⟩) (zPr_preV (ci := 2) (q0 := 0) hK (hP.sub (ws' := [(b 0, .inr (2, te b a sg len pl bt fh ht)), (b 1, .inl (cI, nT, .inl (zA T)))]) [0, 1] rfl) rfl rfl) rfl rfl hl.1 rfl (lv_room (Nat.le_of_ble_eq_true rfl)) dX2_common_20 ⟨Nat.zero_le _, Nat.zero_le _⟩) (fun r hr_ => ?_)
      subst hr_
      refine lv_goto (tgt := 27) hx hb dX2_common_23 (by decide) ?_
      exact W.iret (v := zI (zcm len T x y 0)) hx hb hr (fun t ht_ hW_ => ⟨zcm len T x y 0, rfl, by first | exact zcn2_t he5 he13 | exact zcn2_a he5 | exact zcn2_b he13, ht_⟩) (fun q h => by cases h) dX2_common_27
