set_option maxRecDepth 20000 in
theorem inX3_commonOf_X3 : ∀ w ∈ wsX30, w ∈ wsX3_commonOf := by decide +kernel
set_option maxRecDepth 20000 in
theorem inX3_isBefore_X3 : ∀ w ∈ wsX30, w ∈ wsX3_isBefore := by decide +kernel
set_option maxRecDepth 20000 in
theorem inX3_isEnd_X3 : ∀ w ∈ wsX30, w ∈ wsX3_isEnd := by decide +kernel
set_option maxRecDepth 20000 in
theorem inX3_sa_X3 : ∀ w ∈ wsX30, w ∈ wsX3_sa := by decide +kernel
set_option maxRecDepth 20000 in
theorem inX3_lcp_X3 : ∀ w ∈ wsX30, w ∈ wsX3_lcp := by decide +kernel
set_option maxRecDepth 20000 in
theorem inX3_rank_X3 : ∀ w ∈ wsX30, w ∈ wsX3_rank := by decide +kernel
set_option maxRecDepth 20000 in
theorem inX3_common_X3 : ∀ w ∈ wsX30, w ∈ wsX3_common := by decide +kernel
set_option maxHeartbeats 4000000 in
set_option maxRecDepth 100000 in
/-- commonOf(a, b) -/
theorem kX3_commonOf (l : Launch) (D : va_G) (cI cZ cL : ClassId) (d : Nat → Nat) (rm sg pr sz bt ps fi ht fo : Int) (nT : Nat) (T : Int → Int) (x y : Int) (hsz : 0 ≤ sz ∧ sz ≤ 1000000) (hsT : sz ≤ (nT : Int)) (bnT : (nT : Int) < 1073741824) (hT : zS T) (hx1 : 0 ≤ x ∧ x ≤ sz) (hy1 : 0 ≤ y ∧ y ≤ sz) : Met l yX3_commonOf wsX3_commonOf ({ frames := 0, cells := 0, slots := 0, locals := 0 }) (zPr D cI cZ cL [.ref (d 0), .int (zI x), .int (zI y)] [(d 0, .inr (3, mo d rm sg pr sz bt ps fi ht fo)), (d 1, .inl (cI, nT, .inl (zA T)))]) (zQi (fun r => r = zcm sz T x y 0)) 0 0 (fun _ => False) := by
  refine Met.ofW (cc := cX3_commonOf) (maxL := 4) (ret := (some .int)) (by decide) rfl ?_
  intro p e s m args below meth c s₁ B hml hv
  obtain ⟨rfl, hP, hK⟩ := hv
  have hx := B.exec
  have hb := B.bytes
  have hr := B.returns
  have hts := atoms_spec (ws := wsX3_commonOf) B.pre
  have hown : s.vm.findClass RX3 = some m.cls := findClass_of_methodNamed B.named
  have hlocks := B.notSynchronized
  have hP : va_P D vwCl [(d 0, .inr (3, mo d rm sg pr sz bt ps fi ht fo)), (d 1, .inl (cI, nT, .inl (zA T)))] s.heap := hP
  have hl := lv_entry ([.ref (d 0), .int (zI x), .int (zI y)]) (n := 4) (Nat.le_of_ble_eq_true rfl)
  rw [lg_entry_eq]
  generalize (lg_sl ([.ref (d 0), .int (zI x), .int (zI y)]) ++ List.replicate (4 - (lg_sl ([.ref (d 0), .int (zI x), .int (zI y)])).length) Slot.unset).toArray = ls at hl ⊢
  have hl : lv_has ls 4 [(0, .ref (d 0)), (1, .int (zI x)), (2, .int (zI y))] := hl
  refine lv_iconst (v := zI 0) hx hb dX3_commonOf_0 (by first | rfl | decide) ?_
  refine lv_istore_n (lv' := [(3, .int (zI 0)), (0, .ref (d 0)), (1, .int (zI x)), (2, .int (zI y))]) hx hb dX3_commonOf_1 rfl hl (by decide) rfl (fun ls hl => ?_)
  have loop2 : ∀ (nn : Nat) (k : Int) (ls : Array Slot), (0 ≤ k ∧ x + k ≤ sz ∧ y + k ≤ sz) → (zcm sz T x y k = zcm sz T x y 0) → ((sz - x - k).toNat) < nn → lv_has ls 4 [(0, .ref (d 0)), (1, .int (zI x)), (2, .int (zI y)), (3, .int (zI k))] → W p l e (headSpec wsX3_commonOf ({ frames := 0, cells := 0, slots := 0, locals := 0 })).room s m ([.ref (d 0), .int (zI x), .int (zI y)] : List Value).toArray below meth c s.heap [] 0 0 (MQ below (zQi (fun r => r = zcm sz T x y 0)) ([.ref (d 0), .int (zI x), .int (zI y)] : List Value).toArray s 0 0 (fun _ => False)) (F0 m 2 ls []) := by
    intro nn
    induction nn with
    | zero =>
      intros
      exact absurd (by assumption : _ < 0) (Nat.not_lt_zero _)
    | succ nn ih2 =>
      intro k ls h0 hq hmu hl
      refine lv_iload_n hx hb dX3_commonOf_2 rfl (lv_at hl 1 rfl) ?_
      refine lv_iload_n hx hb dX3_commonOf_3 rfl (lv_at hl 3 rfl) ?_
      refine z_iadd hx hb dX3_commonOf_4 ?_
      refine lv_aload_n hx hb dX3_commonOf_5 rfl (lv_at hl 0 rfl) ?_
      refine va_get (D := D) (ci := 3) (v := .int (zI sz)) (C := RX3) (T := TX3) (N := 13) hx hb hts inX3_commonOf_X3 hown hK.1 hP 0 rfl rfl 4 (by decide) (hts (.fieldLink RX3 32 "TextEndsModel" "size" "I") (List.mem_of_getElem? (i := 1) rfl)) (fun _ h9 => h9) rfl dX3_commonOf_6 ?_
      refine z_icmp_ge (tgt := 47) hx hb dX3_commonOf_9 (by decide) (by omega) (by omega) (fun h_1 => ?_) (fun h_1 => ?_)
      · skip
        refine lv_iload_n hx hb dX3_commonOf_47 rfl (lv_at hl 3 rfl) ?_
        exact W.iret (v := zI k) hx hb hr (fun t ht_ hW_ => ⟨k, rfl, by first | exact (zcm_ne (by with_reducible assumption)).symm.trans hq | exact (zcm_stop (by have := zmax_ge (a := x) (b := y); omega)).symm.trans hq, ht_⟩) (fun q h => by cases h) dX3_commonOf_48
      · skip
        refine lv_iload_n hx hb dX3_commonOf_12 rfl (lv_at hl 2 rfl) ?_
        refine lv_iload_n hx hb dX3_commonOf_13 rfl (lv_at hl 3 rfl) ?_
        refine z_iadd hx hb dX3_commonOf_14 ?_
        refine lv_aload_n hx hb dX3_commonOf_15 rfl (lv_at hl 0 rfl) ?_
        refine va_get (D := D) (ci := 3) (v := .int (zI sz)) (C := RX3) (T := TX3) (N := 13) hx hb hts inX3_commonOf_X3 hown hK.1 hP 0 rfl rfl 4 (by decide) (hts (.fieldLink RX3 32 "TextEndsModel" "size" "I") (List.mem_of_getElem? (i := 1) rfl)) (fun _ h9 => h9) rfl dX3_commonOf_16 ?_
        refine z_icmp_ge (tgt := 47) hx hb dX3_commonOf_19 (by decide) (by omega) (by omega) (fun h_2 => ?_) (fun h_2 => ?_)
        · skip
          refine lv_iload_n hx hb dX3_commonOf_47 rfl (lv_at hl 3 rfl) ?_
          exact W.iret (v := zI k) hx hb hr (fun t ht_ hW_ => ⟨k, rfl, by first | exact (zcm_ne (by with_reducible assumption)).symm.trans hq | exact (zcm_stop (by have := zmax_ge (a := x) (b := y); omega)).symm.trans hq, ht_⟩) (fun q h => by cases h) dX3_commonOf_48
        · skip
          have hk1 := hT (x + k)
          have hk2 := hT (y + k)
          refine lv_aload_n hx hb dX3_commonOf_22 rfl (lv_at hl 0 rfl) ?_
          refine va_get (D := D) (ci := 3) (v := .ref (d 1)) (C := RX3) (T := TX3) (N := 13) hx hb hts inX3_commonOf_X3 hown hK.1 hP 0 rfl rfl 3 (by decide) (hts (.fieldLink RX3 7 "TextEndsModel" "text" "[I") (List.mem_of_getElem? (i := 2) rfl)) (fun _ h9 => h9) rfl dX3_commonOf_23 ?_
          refine lv_iload_n hx hb dX3_commonOf_26 rfl (lv_at hl 1 rfl) ?_
          refine lv_iload_n hx hb dX3_commonOf_27 rfl (lv_at hl 3 rfl) ?_
          refine z_iadd hx hb dX3_commonOf_28 ?_
          refine z_iald hx hb hK.1 hP 1 0 rfl rfl dX3_commonOf_29 (by omega) (by omega) (by omega) ?_
          refine lv_aload_n hx hb dX3_commonOf_30 rfl (lv_at hl 0 rfl) ?_
          refine va_get (D := D) (ci := 3) (v := .ref (d 1)) (C := RX3) (T := TX3) (N := 13) hx hb hts inX3_commonOf_X3 hown hK.1 hP 0 rfl rfl 3 (by decide) (hts (.fieldLink RX3 7 "TextEndsModel" "text" "[I") (List.mem_of_getElem? (i := 2) rfl)) (fun _ h9 => h9) rfl dX3_commonOf_31 ?_
          refine lv_iload_n hx hb dX3_commonOf_34 rfl (lv_at hl 2 rfl) ?_
          refine lv_iload_n hx hb dX3_commonOf_35 rfl (lv_at hl 3 rfl) ?_
          refine z_iadd hx hb dX3_commonOf_36 ?_
          refine z_iald hx hb hK.1 hP 1 0 rfl rfl dX3_commonOf_37 (by omega) (by omega) (by omega) ?_
          refine z_icmp_ne (tgt := 47) hx hb dX3_commonOf_38 (by decide) (by omega) (by omega) (fun h_3 => ?_) (fun h_3 => ?_)
          · skip
            refine lv_iload_n hx hb dX3_commonOf_47 rfl (lv_at hl 3 rfl) ?_
            exact W.iret (v := zI k) hx hb hr (fun t ht_ hW_ => ⟨k, rfl, by first | exact (zcm_ne (by with_reducible assumption)).symm.trans hq | exact (zcm_stop (by have := zmax_ge (a := x) (b := y); omega)).symm.trans hq, ht_⟩) (fun q h => by cases h) dX3_commonOf_48
          · skip
            refine lv_iinc (v := zI (k + 1)) (lv' := [(3, .int (zI (k + 1))), (0, .ref (d 0)), (1, .int (zI x)), (2, .int (zI y))]) hx hb dX3_commonOf_41 hl (k := 3) rfl (zI_add _ _) (by decide) rfl (fun ls hl => ?_)
            refine lv_goto (tgt := 2) hx hb dX3_commonOf_44 (by decide) ?_
            exact ih2 (k + 1) ls (by omega) (by rw [← hq]; exact zcm_eq (by have := zmax_or (a := x) (b := y); omega) (by with_reducible assumption)) (by omega) (lv_sub hl [1, 2, 3, 0] rfl)
  exact loop2 _ 0 ls (by omega) (rfl) (Nat.lt_succ_self _) (lv_sub hl [1, 2, 3, 0] rfl)
set_option maxHeartbeats 4000000 in
set_option maxRecDepth 100000 in
/-- isBefore(a, b) -/
theorem kX3_isBefore (l : Launch) (D : va_G) (cI cZ cL : ClassId) (d : Nat → Nat) (rm sg pr sz bt ps fi ht fo : Int) (nT : Nat) (T : Int → Int) (x y : Int) (hsz : 0 ≤ sz ∧ sz ≤ 1000000) (hsT : sz ≤ (nT : Int)) (bnT : (nT : Int) < 1073741824) (hT : zS T) (hx1 : 0 ≤ x ∧ x ≤ sz) (hy1 : 0 ≤ y ∧ y ≤ sz) : Met l yX3_isBefore wsX3_isBefore ({ frames := 1, cells := 0, slots := 0, locals := 23 }) (zPr D cI cZ cL [.ref (d 0), .int (zI x), .int (zI y)] [(d 0, .inr (3, mo d rm sg pr sz bt ps fi ht fo)), (d 1, .inl (cI, nT, .inl (zA T)))]) (zQi (fun r => r = bi (zbf sz T x y))) 0 0 (fun _ => False) := by
  refine Met.ofW (cc := cX3_isBefore) (maxL := 4) (ret := (some .boolean)) (by decide) rfl ?_
  intro p e s m args below meth c s₁ B hml hv
  obtain ⟨rfl, hP, hK⟩ := hv
  have hx := B.exec
  have hb := B.bytes
  have hr := B.returns
  have hts := atoms_spec (ws := wsX3_isBefore) B.pre
  have hown : s.vm.findClass RX3 = some m.cls := findClass_of_methodNamed B.named
  have hlocks := B.notSynchronized
  have hP : va_P D vwCl [(d 0, .inr (3, mo d rm sg pr sz bt ps fi ht fo)), (d 1, .inl (cI, nT, .inl (zA T)))] s.heap := hP
  have hl := lv_entry ([.ref (d 0), .int (zI x), .int (zI y)]) (n := 4) (Nat.le_of_ble_eq_true rfl)
  rw [lg_entry_eq]
  generalize (lg_sl ([.ref (d 0), .int (zI x), .int (zI y)]) ++ List.replicate (4 - (lg_sl ([.ref (d 0), .int (zI x), .int (zI y)])).length) Slot.unset).toArray = ls at hl ⊢
  have hl : lv_has ls 4 [(0, .ref (d 0)), (1, .int (zI x)), (2, .int (zI y))] := hl
  have hq1 := zcm_le (len := sz) (T := T) (a := x) (b := y) (k := 0) (by omega) (by omega)
  have hq2 := hT (x + zcm sz T x y 0)
  have hq3 := hT (y + zcm sz T x y 0)
  refine lv_aload_n hx hb dX3_isBefore_0 rfl (lv_at hl 0 rfl) ?_
  refine lv_iload_n hx hb dX3_isBefore_1 rfl (lv_at hl 1 rfl) ?_
  refine lv_iload_n hx hb dX3_isBefore_2 rfl (lv_at hl 2 rfl) ?_
  refine z_cr (va_runV (As := [.int (zI x), .int (zI y)]) (rest := []) ⟨hx, hb, hml, hown, hts⟩ (kX3_commonOf l D cI cZ cL d rm sg pr sz bt ps fi ht fo nT T x y (by omega) (by omega) (by omega) (hT) (by omega) (by omega)) (cwV 2 hts gX3_isBefore_X3_commonOf rfl rfl rfl (by decide +kernel) ⟨Nat.le_of_ble_eq_true rfl, Nat.le_of_ble_eq_true rfl⟩) (zPr_preV (ci := 3) (q0 := 0) hK (hP.sub (ws' := [(d 0, .inr (3, mo d rm sg pr sz bt ps fi ht fo)), (d 1, .inl (cI, nT, .inl (zA T)))]) [0, 1] rfl) rfl rfl) rfl rfl hl.1 rfl (lv_room (Nat.le_of_ble_eq_true rfl)) dX3_isBefore_3 ⟨Nat.zero_le _, Nat.zero_le _⟩) (fun r hr_ => ?_)
  subst hr_
  refine lv_istore_n (lv' := [(3, .int (zI (zcm sz T x y 0))), (0, .ref (d 0)), (1, .int (zI x)), (2, .int (zI y))]) hx hb dX3_isBefore_6 rfl hl (by decide) rfl (fun ls hl => ?_)
  refine lv_iload_n hx hb dX3_isBefore_7 rfl (lv_at hl 2 rfl) ?_
  refine lv_iload_n hx hb dX3_isBefore_8 rfl (lv_at hl 0 rfl) ?_
  refine z_iadd hx hb dX3_isBefore_9 ?_
  refine lv_aload_n hx hb dX3_isBefore_10 rfl (lv_at hl 1 rfl) ?_
  refine va_get (D := D) (ci := 3) (v := .int (zI sz)) (C := RX3) (T := TX3) (N := 13) hx hb hts inX3_isBefore_X3 hown hK.1 hP 0 rfl rfl 4 (by decide) (hts (.fieldLink RX3 32 "TextEndsModel" "size" "I") (List.mem_of_getElem? (i := 1) rfl)) (fun _ h9 => h9) rfl dX3_isBefore_11 ?_
  refine z_icmp_ne (tgt := 35) hx hb dX3_isBefore_14 (by decide) (by omega) (by omega) (fun h_1 => ?_) (fun h_1 => ?_)
  · skip
    have c1 := h_1
    refine lv_iload_n hx hb dX3_isBefore_35 rfl (lv_at hl 3 rfl) ?_
    refine lv_iload_n hx hb dX3_isBefore_36 rfl (lv_at hl 0 rfl) ?_
    refine z_iadd hx hb dX3_isBefore_37 ?_
    refine lv_aload_n hx hb dX3_isBefore_38 rfl (lv_at hl 1 rfl) ?_
    refine va_get (D := D) (ci := 3) (v := .int (zI sz)) (C := RX3) (T := TX3) (N := 13) hx hb hts inX3_isBefore_X3 hown hK.1 hP 0 rfl rfl 4 (by decide) (hts (.fieldLink RX3 32 "TextEndsModel" "size" "I") (List.mem_of_getElem? (i := 1) rfl)) (fun _ h9 => h9) rfl dX3_isBefore_39 ?_
    refine z_icmp_ge (tgt := 68) hx hb dX3_isBefore_42 (by decide) (by omega) (by omega) (fun h_2 => ?_) (fun h_2 => ?_)
    · skip
      have c2 := h_2
      refine lv_iconst (v := zI 0) hx hb dX3_isBefore_68 (by first | rfl | decide) ?_
      exact W.zret (ty := .boolean) (v := zI 0) hx hb hr (znar_b2 (by first | exact Or.inl rfl | exact Or.inr rfl | exact bi_01 _ | with_reducible assumption | omega)) (fun t ht_ hW_ => ⟨0, rfl, by show _ = bi (zbf sz T x y); unfold zbf; first | (rw [if_pos c1, decide_eq_true c2]; rfl) | (rw [if_pos c1, decide_eq_false (by omega)]; rfl) | (rw [if_neg c1, decide_eq_true c2, decide_eq_true c3]; rfl) | (rw [if_neg c1, decide_eq_true c2, decide_eq_false (by omega)]; rfl) | (rw [if_neg c1, decide_eq_false (p := y + zcm sz T x y 0 < sz) (by omega)]; rfl), ht_⟩) (fun q h => by cases h) dX3_isBefore_69
    · skip
      have c2 := h_2
      refine lv_aload_n hx hb dX3_isBefore_45 rfl (lv_at hl 1 rfl) ?_
      refine va_get (D := D) (ci := 3) (v := .ref (d 1)) (C := RX3) (T := TX3) (N := 13) hx hb hts inX3_isBefore_X3 hown hK.1 hP 0 rfl rfl 3 (by decide) (hts (.fieldLink RX3 7 "TextEndsModel" "text" "[I") (List.mem_of_getElem? (i := 2) rfl)) (fun _ h9 => h9) rfl dX3_isBefore_46 ?_
      refine lv_iload_n hx hb dX3_isBefore_49 rfl (lv_at hl 2 rfl) ?_
      refine lv_iload_n hx hb dX3_isBefore_50 rfl (lv_at hl 0 rfl) ?_
      refine z_iadd hx hb dX3_isBefore_51 ?_
      refine z_iald hx hb hK.1 hP 1 0 rfl rfl dX3_isBefore_52 (by omega) (by omega) (by omega) ?_
      refine lv_aload_n hx hb dX3_isBefore_53 rfl (lv_at hl 1 rfl) ?_
      refine va_get (D := D) (ci := 3) (v := .ref (d 1)) (C := RX3) (T := TX3) (N := 13) hx hb hts inX3_isBefore_X3 hown hK.1 hP 0 rfl rfl 3 (by decide) (hts (.fieldLink RX3 7 "TextEndsModel" "text" "[I") (List.mem_of_getElem? (i := 2) rfl)) (fun _ h9 => h9) rfl dX3_isBefore_54 ?_
      refine lv_iload_n hx hb dX3_isBefore_57 rfl (lv_at hl 3 rfl) ?_
      refine lv_iload_n hx hb dX3_isBefore_58 rfl (lv_at hl 0 rfl) ?_
      refine z_iadd hx hb dX3_isBefore_59 ?_
      refine z_iald hx hb hK.1 hP 1 0 rfl rfl dX3_isBefore_60 (by omega) (by omega) (by omega) ?_
      refine z_icmp_ge (tgt := 68) hx hb dX3_isBefore_61 (by decide) (by omega) (by omega) (fun h_3 => ?_) (fun h_3 => ?_)
      · skip
        have c3 := h_3
        refine lv_iconst (v := zI 0) hx hb dX3_isBefore_68 (by first | rfl | decide) ?_
        exact W.zret (ty := .boolean) (v := zI 0) hx hb hr (znar_b2 (by first | exact Or.inl rfl | exact Or.inr rfl | exact bi_01 _ | with_reducible assumption | omega)) (fun t ht_ hW_ => ⟨0, rfl, by show _ = bi (zbf sz T x y); unfold zbf; first | (rw [if_pos c1, decide_eq_true c2]; rfl) | (rw [if_pos c1, decide_eq_false (by omega)]; rfl) | (rw [if_neg c1, decide_eq_true c2, decide_eq_true c3]; rfl) | (rw [if_neg c1, decide_eq_true c2, decide_eq_false (by omega)]; rfl) | (rw [if_neg c1, decide_eq_false (p := y + zcm sz T x y 0 < sz) (by omega)]; rfl), ht_⟩) (fun q h => by cases h) dX3_isBefore_69
      · skip
        have c3 := h_3
        refine lv_iconst (v := zI 1) hx hb dX3_isBefore_64 (by first | rfl | decide) ?_
        refine lv_goto (tgt := 69) hx hb dX3_isBefore_65 (by decide) ?_
        exact W.zret (ty := .boolean) (v := zI 1) hx hb hr (znar_b2 (by first | exact Or.inl rfl | exact Or.inr rfl | exact bi_01 _ | with_reducible assumption | omega)) (fun t ht_ hW_ => ⟨1, rfl, by show _ = bi (zbf sz T x y); unfold zbf; first | (rw [if_pos c1, decide_eq_true c2]; rfl) | (rw [if_pos c1, decide_eq_false (by omega)]; rfl) | (rw [if_neg c1, decide_eq_true c2, decide_eq_true c3]; rfl) | (rw [if_neg c1, decide_eq_true c2, decide_eq_false (by omega)]; rfl) | (rw [if_neg c1, decide_eq_false (p := y + zcm sz T x y 0 < sz) (by omega)]; rfl), ht_⟩) (fun q h => by cases h) dX3_isBefore_69
  · skip
    have c1 := h_1
    refine lv_iload_n hx hb dX3_isBefore_17 rfl (lv_at hl 3 rfl) ?_
    refine lv_iload_n hx hb dX3_isBefore_18 rfl (lv_at hl 0 rfl) ?_
    refine z_iadd hx hb dX3_isBefore_19 ?_
    refine lv_aload_n hx hb dX3_isBefore_20 rfl (lv_at hl 1 rfl) ?_
    refine va_get (D := D) (ci := 3) (v := .int (zI sz)) (C := RX3) (T := TX3) (N := 13) hx hb hts inX3_isBefore_X3 hown hK.1 hP 0 rfl rfl 4 (by decide) (hts (.fieldLink RX3 32 "TextEndsModel" "size" "I") (List.mem_of_getElem? (i := 1) rfl)) (fun _ h9 => h9) rfl dX3_isBefore_21 ?_
    refine z_icmp_ge (tgt := 31) hx hb dX3_isBefore_24 (by decide) (by omega) (by omega) (fun h_4 => ?_) (fun h_4 => ?_)
    · skip
      have c2 := h_4
      refine lv_iconst (v := zI 0) hx hb dX3_isBefore_31 (by first | rfl | decide) ?_
      refine lv_goto (tgt := 69) hx hb dX3_isBefore_32 (by decide) ?_
      exact W.zret (ty := .boolean) (v := zI 0) hx hb hr (znar_b2 (by first | exact Or.inl rfl | exact Or.inr rfl | exact bi_01 _ | with_reducible assumption | omega)) (fun t ht_ hW_ => ⟨0, rfl, by show _ = bi (zbf sz T x y); unfold zbf; first | (rw [if_pos c1, decide_eq_true c2]; rfl) | (rw [if_pos c1, decide_eq_false (by omega)]; rfl) | (rw [if_neg c1, decide_eq_true c2, decide_eq_true c3]; rfl) | (rw [if_neg c1, decide_eq_true c2, decide_eq_false (by omega)]; rfl) | (rw [if_neg c1, decide_eq_false (p := y + zcm sz T x y 0 < sz) (by omega)]; rfl), ht_⟩) (fun q h => by cases h) dX3_isBefore_69
    · skip
      have c2 := h_4
      refine lv_iconst (v := zI 1) hx hb dX3_isBefore_27 (by first | rfl | decide) ?_
      refine lv_goto (tgt := 69) hx hb dX3_isBefore_28 (by decide) ?_
      exact W.zret (ty := .boolean) (v := zI 1) hx hb hr (znar_b2 (by first | exact Or.inl rfl | exact Or.inr rfl | exact bi_01 _ | with_reducible assumption | omega)) (fun t ht_ hW_ => ⟨1, rfl, by show _ = bi (zbf sz T x y); unfold zbf; first | (rw [if_pos c1, decide_eq_true c2]; rfl) | (rw [if_pos c1, decide_eq_false (by omega)]; rfl) | (rw [if_neg c1, decide_eq_true c2, decide_eq_true c3]; rfl) | (rw [if_neg c1, decide_eq_true c2, decide_eq_false (by omega)]; rfl) | (rw [if_neg c1, decide_eq_false (p := y + zcm sz T x y 0 < sz) (by omega)]; rfl), ht_⟩) (fun q h => by cases h) dX3_isBefore_69
set_option maxHeartbeats 4000000 in
set_option maxRecDepth 100000 in
/-- isEnd(k) -/
theorem kX3_isEnd (l : Launch) (D : va_G) (cI cZ cL : ClassId) (d : Nat → Nat) (rm sg pr sz bt ps fi ht fo : Int) (k : Int) (hsz : 0 ≤ sz ∧ sz ≤ 1000000) (hbt : bt = 0 ∨ bt = 1) (hk : zR k) : Met l yX3_isEnd wsX3_isEnd ({ frames := 0, cells := 0, slots := 0, locals := 0 }) (zPr D cI cZ cL [.ref (d 0), .int (zI k)] [(d 0, .inr (3, mo d rm sg pr sz bt ps fi ht fo))]) (zQi (fun r => r = bi (zie bt sz k))) 0 0 (fun _ => False) := by
  refine Met.ofW (cc := cX3_isEnd) (maxL := 2) (ret := (some .boolean)) (by decide) rfl ?_
  intro p e s m args below meth c s₁ B hml hv
  obtain ⟨rfl, hP, hK⟩ := hv
  have hx := B.exec
  have hb := B.bytes
  have hr := B.returns
  have hts := atoms_spec (ws := wsX3_isEnd) B.pre
  have hown : s.vm.findClass RX3 = some m.cls := findClass_of_methodNamed B.named
  have hlocks := B.notSynchronized
  have hP : va_P D vwCl [(d 0, .inr (3, mo d rm sg pr sz bt ps fi ht fo))] s.heap := hP
  have hl := lv_entry ([.ref (d 0), .int (zI k)]) (n := 2) (Nat.le_of_ble_eq_true rfl)
  rw [lg_entry_eq]
  generalize (lg_sl ([.ref (d 0), .int (zI k)]) ++ List.replicate (2 - (lg_sl ([.ref (d 0), .int (zI k)])).length) Slot.unset).toArray = ls at hl ⊢
  have hl : lv_has ls 2 [(0, .ref (d 0)), (1, .int (zI k))] := hl
  refine lv_aload_n hx hb dX3_isEnd_0 rfl (lv_at hl 0 rfl) ?_
  refine va_get (D := D) (ci := 3) (v := .int (zI bt)) (C := RX3) (T := TX3) (N := 13) hx hb hts inX3_isEnd_X3 hown hK.1 hP 0 rfl rfl 5 (by decide) (hts (.fieldLink RX3 35 "TextEndsModel" "built" "Z") (List.mem_of_getElem? (i := 1) rfl)) (fun _ h9 => h9) rfl dX3_isEnd_1 ?_
  refine z_if_eq (tgt := 23) hx hb dX3_isEnd_4 (by decide) (by omega) (fun h_1 => ?_) (fun h_1 => ?_)
  · skip
    refine lv_iconst (v := zI 0) hx hb dX3_isEnd_23 (by first | rfl | decide) ?_
    exact W.zret (ty := .boolean) (v := zI 0) hx hb hr (znar_b2 (by first | exact Or.inl rfl | exact Or.inr rfl | exact bi_01 _ | with_reducible assumption | omega)) (fun t ht_ hW_ => ⟨0, rfl, by first | exact zie_t (by with_reducible assumption) (by omega) (by omega) | exact zie_f (by omega), ht_⟩) (fun q h => by cases h) dX3_isEnd_24
  · skip
    refine lv_iload_n hx hb dX3_isEnd_7 rfl (lv_at hl 1 rfl) ?_
    refine z_if_lt (tgt := 23) hx hb dX3_isEnd_8 (by decide) (by omega) (fun h_2 => ?_) (fun h_2 => ?_)
    · skip
      refine lv_iconst (v := zI 0) hx hb dX3_isEnd_23 (by first | rfl | decide) ?_
      exact W.zret (ty := .boolean) (v := zI 0) hx hb hr (znar_b2 (by first | exact Or.inl rfl | exact Or.inr rfl | exact bi_01 _ | with_reducible assumption | omega)) (fun t ht_ hW_ => ⟨0, rfl, by first | exact zie_t (by with_reducible assumption) (by omega) (by omega) | exact zie_f (by omega), ht_⟩) (fun q h => by cases h) dX3_isEnd_24
    · skip
      refine lv_iload_n hx hb dX3_isEnd_11 rfl (lv_at hl 1 rfl) ?_
      refine lv_aload_n hx hb dX3_isEnd_12 rfl (lv_at hl 0 rfl) ?_
      refine va_get (D := D) (ci := 3) (v := .int (zI sz)) (C := RX3) (T := TX3) (N := 13) hx hb hts inX3_isEnd_X3 hown hK.1 hP 0 rfl rfl 4 (by decide) (hts (.fieldLink RX3 32 "TextEndsModel" "size" "I") (List.mem_of_getElem? (i := 2) rfl)) (fun _ h9 => h9) rfl dX3_isEnd_13 ?_
      refine z_icmp_ge (tgt := 23) hx hb dX3_isEnd_16 (by decide) (by omega) (by omega) (fun h_3 => ?_) (fun h_3 => ?_)
      · skip
        refine lv_iconst (v := zI 0) hx hb dX3_isEnd_23 (by first | rfl | decide) ?_
        exact W.zret (ty := .boolean) (v := zI 0) hx hb hr (znar_b2 (by first | exact Or.inl rfl | exact Or.inr rfl | exact bi_01 _ | with_reducible assumption | omega)) (fun t ht_ hW_ => ⟨0, rfl, by first | exact zie_t (by with_reducible assumption) (by omega) (by omega) | exact zie_f (by omega), ht_⟩) (fun q h => by cases h) dX3_isEnd_24
      · skip
        refine lv_iconst (v := zI 1) hx hb dX3_isEnd_19 (by first | rfl | decide) ?_
        refine lv_goto (tgt := 24) hx hb dX3_isEnd_20 (by decide) ?_
        exact W.zret (ty := .boolean) (v := zI 1) hx hb hr (znar_b2 (by first | exact Or.inl rfl | exact Or.inr rfl | exact bi_01 _ | with_reducible assumption | omega)) (fun t ht_ hW_ => ⟨1, rfl, by first | exact zie_t (by with_reducible assumption) (by omega) (by omega) | exact zie_f (by omega), ht_⟩) (fun q h => by cases h) dX3_isEnd_24
set_option maxHeartbeats 4000000 in
set_option maxRecDepth 100000 in
/-- sa(i) -/
theorem kX3_sa (l : Launch) (D : va_G) (cI cZ cL : ClassId) (d : Nat → Nat) (rm sg pr sz bt ps fi ht fo : Int) (nO : Nat) (od : Int → Int) (i : Int) (hsz : 0 ≤ sz ∧ sz ≤ 1000000) (hbt : bt = 0 ∨ bt = 1) (hsO : sz ≤ (nO : Int)) (bnO : (nO : Int) < 1073741824) (hi : zR i) : Met l yX3_sa wsX3_sa ({ frames := 1, cells := 0, slots := 0, locals := 21 }) (zPr D cI cZ cL [.ref (d 0), .int (zI i)] [(d 0, .inr (3, mo d rm sg pr sz bt ps fi ht fo)), (d 2, .inl (cI, nO, .inl (zA od)))]) (zQi (fun r => r = zsa bt sz od i)) 0 0 (fun _ => False) := by
  refine Met.ofW (cc := cX3_sa) (maxL := 2) (ret := (some .int)) (by decide) rfl ?_
  intro p e s m args below meth c s₁ B hml hv
  obtain ⟨rfl, hP, hK⟩ := hv
  have hx := B.exec
  have hb := B.bytes
  have hr := B.returns
  have hts := atoms_spec (ws := wsX3_sa) B.pre
  have hown : s.vm.findClass RX3 = some m.cls := findClass_of_methodNamed B.named
  have hlocks := B.notSynchronized
  have hP : va_P D vwCl [(d 0, .inr (3, mo d rm sg pr sz bt ps fi ht fo)), (d 2, .inl (cI, nO, .inl (zA od)))] s.heap := hP
  have hl := lv_entry ([.ref (d 0), .int (zI i)]) (n := 2) (Nat.le_of_ble_eq_true rfl)
  rw [lg_entry_eq]
  generalize (lg_sl ([.ref (d 0), .int (zI i)]) ++ List.replicate (2 - (lg_sl ([.ref (d 0), .int (zI i)])).length) Slot.unset).toArray = ls at hl ⊢
  have hl : lv_has ls 2 [(0, .ref (d 0)), (1, .int (zI i))] := hl
  refine lv_aload_n hx hb dX3_sa_0 rfl (lv_at hl 0 rfl) ?_
  refine lv_iload_n hx hb dX3_sa_1 rfl (lv_at hl 1 rfl) ?_
  refine z_cr (va_runV (As := [.int (zI i)]) (rest := []) ⟨hx, hb, hml, hown, hts⟩ (kX3_isEnd l D cI cZ cL d rm sg pr sz bt ps fi ht fo i (by omega) (by omega) (by omega)) (cwV 1 hts gX3_sa_X3_isEnd rfl rfl rfl (by decide +kernel) ⟨Nat.le_of_ble_eq_true rfl, Nat.le_of_ble_eq_true rfl⟩) (zPr_preV (ci := 3) (q0 := 0) hK (hP.sub (ws' := [(d 0, .inr (3, mo d rm sg pr sz bt ps fi ht fo))]) [0] rfl) rfl rfl) rfl rfl hl.1 rfl (lv_room (Nat.le_of_ble_eq_true rfl)) dX3_sa_2 ⟨Nat.zero_le _, Nat.zero_le _⟩) (fun r hr_ => ?_)
  subst hr_
  refine z_if_eq (tgt := 17) hx hb dX3_sa_5 (by decide) (bi_R _) (fun h_1 => ?_) (fun h_1 => ?_)
  · skip
    have he5 := bi_eq h_1
    refine lv_iconst (v := zI (-1)) hx hb dX3_sa_17 (by first | rfl | decide) ?_
    exact W.iret (v := zI (-1)) hx hb hr (fun t ht_ hW_ => ⟨(-1), rfl, by show _ = zsa bt sz od i; unfold zsa; first | rw [if_pos he5] | rw [he5, if_neg (by decide)], ht_⟩) (fun q h => by cases h) dX3_sa_18
  · skip
    have he5 := bi_ne h_1
    have hf5 := zie_iff.mp he5
    refine lv_aload_n hx hb dX3_sa_8 rfl (lv_at hl 0 rfl) ?_
    refine va_get (D := D) (ci := 3) (v := .ref (d 2)) (C := RX3) (T := TX3) (N := 13) hx hb hts inX3_sa_X3 hown hK.1 hP 0 rfl rfl 6 (by decide) (hts (.fieldLink RX3 13 "TextEndsModel" "order" "[I") (List.mem_of_getElem? (i := 1) rfl)) (fun _ h9 => h9) rfl dX3_sa_9 ?_
    refine lv_iload_n hx hb dX3_sa_12 rfl (lv_at hl 1 rfl) ?_
    refine z_iald hx hb hK.1 hP 1 0 rfl rfl dX3_sa_13 (by omega) (by omega) (by omega) ?_
    refine lv_goto (tgt := 18) hx hb dX3_sa_14 (by decide) ?_
    exact W.iret (v := zI (od i)) hx hb hr (fun t ht_ hW_ => ⟨od i, rfl, by show _ = zsa bt sz od i; unfold zsa; first | rw [if_pos he5] | rw [he5, if_neg (by decide)], ht_⟩) (fun q h => by cases h) dX3_sa_18
set_option maxHeartbeats 4000000 in
set_option maxRecDepth 100000 in
/-- lcp(i) -/
theorem kX3_lcp (l : Launch) (D : va_G) (cI cZ cL : ClassId) (d : Nat → Nat) (rm sg pr sz bt ps fi ht fo : Int) (nT nO : Nat) (T od : Int → Int) (i : Int) (hsz : 0 ≤ sz ∧ sz ≤ 1000000) (hsT : sz ≤ (nT : Int)) (bnT : (nT : Int) < 1073741824) (hT : zS T) (hbt : bt = 0 ∨ bt = 1) (hsO : sz ≤ (nO : Int)) (bnO : (nO : Int) < 1073741824) (hod : bt ≠ 0 → ∀ i, 0 ≤ i → i < sz → 0 ≤ od i ∧ od i < sz) (hi : zR i) : Met l yX3_lcp wsX3_lcp ({ frames := 1, cells := 0, slots := 0, locals := 23 }) (zPr D cI cZ cL [.ref (d 0), .int (zI i)] [(d 0, .inr (3, mo d rm sg pr sz bt ps fi ht fo)), (d 1, .inl (cI, nT, .inl (zA T))), (d 2, .inl (cI, nO, .inl (zA od)))]) (zQi (fun r => r = zlc bt sz (zcc sz T od) i)) 0 0 (fun _ => False) := by
  refine Met.ofW (cc := cX3_lcp) (maxL := 2) (ret := (some .int)) (by decide) rfl ?_
  intro p e s m args below meth c s₁ B hml hv
  obtain ⟨rfl, hP, hK⟩ := hv
  have hx := B.exec
  have hb := B.bytes
  have hr := B.returns
  have hts := atoms_spec (ws := wsX3_lcp) B.pre
  have hown : s.vm.findClass RX3 = some m.cls := findClass_of_methodNamed B.named
  have hlocks := B.notSynchronized
  have hP : va_P D vwCl [(d 0, .inr (3, mo d rm sg pr sz bt ps fi ht fo)), (d 1, .inl (cI, nT, .inl (zA T))), (d 2, .inl (cI, nO, .inl (zA od)))] s.heap := hP
  have hl := lv_entry ([.ref (d 0), .int (zI i)]) (n := 2) (Nat.le_of_ble_eq_true rfl)
  rw [lg_entry_eq]
  generalize (lg_sl ([.ref (d 0), .int (zI i)]) ++ List.replicate (2 - (lg_sl ([.ref (d 0), .int (zI i)])).length) Slot.unset).toArray = ls at hl ⊢
  have hl : lv_has ls 2 [(0, .ref (d 0)), (1, .int (zI i))] := hl
  refine lv_aload_n hx hb dX3_lcp_0 rfl (lv_at hl 0 rfl) ?_
  refine lv_iload_n hx hb dX3_lcp_1 rfl (lv_at hl 1 rfl) ?_
  refine z_cr (va_runV (As := [.int (zI i)]) (rest := []) ⟨hx, hb, hml, hown, hts⟩ (kX3_isEnd l D cI cZ cL d rm sg pr sz bt ps fi ht fo i (by omega) (by omega) (by omega)) (cwV 1 hts gX3_lcp_X3_isEnd rfl rfl rfl (by decide +kernel) ⟨Nat.le_of_ble_eq_true rfl, Nat.le_of_ble_eq_true rfl⟩) (zPr_preV (ci := 3) (q0 := 0) hK (hP.sub (ws' := [(d 0, .inr (3, mo d rm sg pr sz bt ps fi ht fo))]) [0] rfl) rfl rfl) rfl rfl hl.1 rfl (lv_room (Nat.le_of_ble_eq_true rfl)) dX3_lcp_2 ⟨Nat.zero_le _, Nat.zero_le _⟩) (fun r hr_ => ?_)
  subst hr_
  refine z_if_eq (tgt := 33) hx hb dX3_lcp_5 (by decide) (bi_R _) (fun h_1 => ?_) (fun h_1 => ?_)
  · skip
    have he5 := bi_eq h_1
    refine lv_iconst (v := zI (-1)) hx hb dX3_lcp_33 (by first | rfl | decide) ?_
    exact W.iret (v := zI (-1)) hx hb hr (fun t ht_ hW_ => ⟨(-1), rfl, by show _ = zlc bt sz (zcc sz T od) i; unfold zlc; first | (rw [if_pos ⟨he5, by omega⟩]; rfl) | rw [if_neg (by omega)] | rw [he5, if_neg (fun z => absurd z.1 (by decide))], ht_⟩) (fun q h => by cases h) dX3_lcp_34
  · skip
    have he5 := bi_ne h_1
    have hf5 := zie_iff.mp he5
    refine lv_iload_n hx hb dX3_lcp_8 rfl (lv_at hl 1 rfl) ?_
    refine z_if_le (tgt := 33) hx hb dX3_lcp_9 (by decide) (by omega) (fun h_2 => ?_) (fun h_2 => ?_)
    · skip
      refine lv_iconst (v := zI (-1)) hx hb dX3_lcp_33 (by first | rfl | decide) ?_
      exact W.iret (v := zI (-1)) hx hb hr (fun t ht_ hW_ => ⟨(-1), rfl, by show _ = zlc bt sz (zcc sz T od) i; unfold zlc; first | (rw [if_pos ⟨he5, by omega⟩]; rfl) | rw [if_neg (by omega)] | rw [he5, if_neg (fun z => absurd z.1 (by decide))], ht_⟩) (fun q h => by cases h) dX3_lcp_34
    · skip
      have h9 := h_2
      have hk1 := hod hf5.1 i (by omega) (by omega)
      have hk2 := hod hf5.1 (i - 1) (by omega) (by omega)
      refine lv_aload_n hx hb dX3_lcp_12 rfl (lv_at hl 0 rfl) ?_
      refine lv_aload_n hx hb dX3_lcp_13 rfl (lv_at hl 0 rfl) ?_
      refine va_get (D := D) (ci := 3) (v := .ref (d 2)) (C := RX3) (T := TX3) (N := 13) hx hb hts inX3_lcp_X3 hown hK.1 hP 0 rfl rfl 6 (by decide) (hts (.fieldLink RX3 13 "TextEndsModel" "order" "[I") (List.mem_of_getElem? (i := 1) rfl)) (fun _ h9 => h9) rfl dX3_lcp_14 ?_
      refine lv_iload_n hx hb dX3_lcp_17 rfl (lv_at hl 1 rfl) ?_
      refine lv_iconst (v := zI 1) hx hb dX3_lcp_18 (by first | rfl | decide) ?_
      refine z_isub hx hb dX3_lcp_19 ?_
      refine z_iald hx hb hK.1 hP 2 0 rfl rfl dX3_lcp_20 (by omega) (by omega) (by omega) ?_
      refine lv_aload_n hx hb dX3_lcp_21 rfl (lv_at hl 0 rfl) ?_
      refine va_get (D := D) (ci := 3) (v := .ref (d 2)) (C := RX3) (T := TX3) (N := 13) hx hb hts inX3_lcp_X3 hown hK.1 hP 0 rfl rfl 6 (by decide) (hts (.fieldLink RX3 13 "TextEndsModel" "order" "[I") (List.mem_of_getElem? (i := 1) rfl)) (fun _ h9 => h9) rfl dX3_lcp_22 ?_
      refine lv_iload_n hx hb dX3_lcp_25 rfl (lv_at hl 1 rfl) ?_
      refine z_iald hx hb hK.1 hP 2 0 rfl rfl dX3_lcp_26 (by omega) (by omega) (by omega) ?_
      refine z_cr (va_runV (As := [.int (zI (od (i - 1))), .int (zI (od i))]) (rest := []) ⟨hx, hb, hml, hown, hts⟩ (kX3_commonOf l D cI cZ cL d rm sg pr sz bt ps fi ht fo nT T (od (i - 1)) (od i) (by omega) (by omega) (by omega) (hT) (by omega) (by omega)) (cwV 2 hts gX3_lcp_X3_commonOf rfl rfl rfl (by decide +kernel) ⟨Nat.le_of_ble_eq_true rfl, Nat.le_of_ble_eq_true rfl⟩) (zPr_preV (ci := 3) (q0 := 0) hK (hP.sub (ws' := [(d 0, .inr (3, mo d rm sg pr sz bt ps fi ht fo)), (d 1, .inl (cI, nT, .inl (zA T)))]) [0, 1] rfl) rfl rfl) rfl rfl hl.1 rfl (lv_room (Nat.le_of_ble_eq_true rfl)) dX3_lcp_27 ⟨Nat.zero_le _, Nat.zero_le _⟩) (fun r hr_ => ?_)
      subst hr_
      refine lv_goto (tgt := 34) hx hb dX3_lcp_30 (by decide) ?_
      exact W.iret (v := zI (zcm sz T (od (i - 1)) (od i) 0)) hx hb hr (fun t ht_ hW_ => ⟨zcm sz T (od (i - 1)) (od i) 0, rfl, by show _ = zlc bt sz (zcc sz T od) i; unfold zlc; first | (rw [if_pos ⟨he5, by omega⟩]; rfl) | rw [if_neg (by omega)] | rw [he5, if_neg (fun z => absurd z.1 (by decide))], ht_⟩) (fun q h => by cases h) dX3_lcp_34
set_option maxHeartbeats 4000000 in
set_option maxRecDepth 100000 in
/-- rank(place) -/
theorem kX3_rank (l : Launch) (D : va_G) (cI cZ cL : ClassId) (d : Nat → Nat) (rm sg pr sz bt ps fi ht fo : Int) (nO : Nat) (od : Int → Int) (pl : Int) (hsz : 0 ≤ sz ∧ sz ≤ 1000000) (hbt : bt = 0 ∨ bt = 1) (hsO : sz ≤ (nO : Int)) (bnO : (nO : Int) < 1073741824) (hod : bt ≠ 0 → ∀ i, 0 ≤ i → i < sz → 0 ≤ od i ∧ od i < sz) (hex : bt ≠ 0 → ∀ q, 0 ≤ q → q < sz → ∃ j, 0 ≤ j ∧ j < sz ∧ od j = q) (hi : zR pl) : Met l yX3_rank wsX3_rank ({ frames := 1, cells := 0, slots := 0, locals := 21 }) (zPr D cI cZ cL [.ref (d 0), .int (zI pl)] [(d 0, .inr (3, mo d rm sg pr sz bt ps fi ht fo)), (d 2, .inl (cI, nO, .inl (zA od)))]) (zQi (fun r => r = zrn bt sz od pl)) 0 0 (fun _ => False) := by
  refine Met.ofW (cc := cX3_rank) (maxL := 3) (ret := (some .int)) (by decide) rfl ?_
  intro p e s m args below meth c s₁ B hml hv
  obtain ⟨rfl, hP, hK⟩ := hv
  have hx := B.exec
  have hb := B.bytes
  have hr := B.returns
  have hts := atoms_spec (ws := wsX3_rank) B.pre
  have hown : s.vm.findClass RX3 = some m.cls := findClass_of_methodNamed B.named
  have hlocks := B.notSynchronized
  have hP : va_P D vwCl [(d 0, .inr (3, mo d rm sg pr sz bt ps fi ht fo)), (d 2, .inl (cI, nO, .inl (zA od)))] s.heap := hP
  have hl := lv_entry ([.ref (d 0), .int (zI pl)]) (n := 3) (Nat.le_of_ble_eq_true rfl)
  rw [lg_entry_eq]
  generalize (lg_sl ([.ref (d 0), .int (zI pl)]) ++ List.replicate (3 - (lg_sl ([.ref (d 0), .int (zI pl)])).length) Slot.unset).toArray = ls at hl ⊢
  have hl : lv_has ls 3 [(0, .ref (d 0)), (1, .int (zI pl))] := hl
  refine lv_aload_n hx hb dX3_rank_0 rfl (lv_at hl 0 rfl) ?_
  refine lv_iload_n hx hb dX3_rank_1 rfl (lv_at hl 1 rfl) ?_
  refine z_cr (va_runV (As := [.int (zI pl)]) (rest := []) ⟨hx, hb, hml, hown, hts⟩ (kX3_isEnd l D cI cZ cL d rm sg pr sz bt ps fi ht fo pl (by omega) (by omega) (by omega)) (cwV 1 hts gX3_rank_X3_isEnd rfl rfl rfl (by decide +kernel) ⟨Nat.le_of_ble_eq_true rfl, Nat.le_of_ble_eq_true rfl⟩) (zPr_preV (ci := 3) (q0 := 0) hK (hP.sub (ws' := [(d 0, .inr (3, mo d rm sg pr sz bt ps fi ht fo))]) [0] rfl) rfl rfl) rfl rfl hl.1 rfl (lv_room (Nat.le_of_ble_eq_true rfl)) dX3_rank_2 ⟨Nat.zero_le _, Nat.zero_le _⟩) (fun r hr_ => ?_)
  subst hr_
  refine z_if_ne (tgt := 10) hx hb dX3_rank_5 (by decide) (bi_R _) (fun h_1 => ?_) (fun h_1 => ?_)
  · skip
    have he5 := bi_ne h_1
    have hf5 := zie_iff.mp he5
    obtain ⟨jj, hj0, hj1, hj2⟩ := hex hf5.1 pl (by omega) (by omega)
    refine lv_iconst (v := zI 0) hx hb dX3_rank_10 (by first | rfl | decide) ?_
    refine lv_istore_n (lv' := [(2, .int (zI 0)), (0, .ref (d 0)), (1, .int (zI pl))]) hx hb dX3_rank_11 rfl hl (by decide) rfl (fun ls hl => ?_)
    have loop12 : ∀ (nn : Nat) (k : Int) (ls : Array Slot), (0 ≤ k ∧ k ≤ jj) → (zrk od pl (sz - k).toNat k = zrk od pl sz.toNat 0) → ((sz - k).toNat) < nn → lv_has ls 3 [(0, .ref (d 0)), (1, .int (zI pl)), (2, .int (zI k))] → W p l e (headSpec wsX3_rank ({ frames := 1, cells := 0, slots := 0, locals := 21 })).room s m ([.ref (d 0), .int (zI pl)] : List Value).toArray below meth c s.heap [] 0 0 (MQ below (zQi (fun r => r = zrn bt sz od pl)) ([.ref (d 0), .int (zI pl)] : List Value).toArray s 0 0 (fun _ => False)) (F0 m 12 ls []) := by
      intro nn
      induction nn with
      | zero =>
        intros
        exact absurd (by assumption : _ < 0) (Nat.not_lt_zero _)
      | succ nn ih12 =>
        intro k ls h0 hq hmu hl
        have hk1 := hod hf5.1 k (by omega) (by omega)
        refine lv_aload_n hx hb dX3_rank_12 rfl (lv_at hl 0 rfl) ?_
        refine va_get (D := D) (ci := 3) (v := .ref (d 2)) (C := RX3) (T := TX3) (N := 13) hx hb hts inX3_rank_X3 hown hK.1 hP 0 rfl rfl 6 (by decide) (hts (.fieldLink RX3 13 "TextEndsModel" "order" "[I") (List.mem_of_getElem? (i := 1) rfl)) (fun _ h9 => h9) rfl dX3_rank_13 ?_
        refine lv_iload_n hx hb dX3_rank_16 rfl (lv_at hl 2 rfl) ?_
        refine z_iald hx hb hK.1 hP 1 0 rfl rfl dX3_rank_17 (by omega) (by omega) (by omega) ?_
        refine lv_iload_n hx hb dX3_rank_18 rfl (lv_at hl 1 rfl) ?_
        refine z_icmp_eq (tgt := 28) hx hb dX3_rank_19 (by decide) (by omega) (by omega) (fun h_2 => ?_) (fun h_2 => ?_)
        · skip
          refine lv_iload_n hx hb dX3_rank_28 rfl (lv_at hl 2 rfl) ?_
          exact W.iret (v := zI k) hx hb hr (fun t ht_ hW_ => ⟨k, rfl, by show _ = zrn bt sz od pl; unfold zrn; rw [if_pos he5, ← hq]; exact (zrk_at (by with_reducible assumption)).symm, ht_⟩) (fun q h => by cases h) dX3_rank_29
        · skip
          refine lv_iinc (v := zI (k + 1)) (lv' := [(2, .int (zI (k + 1))), (0, .ref (d 0)), (1, .int (zI pl))]) hx hb dX3_rank_22 hl (k := 2) rfl (zI_add _ _) (by decide) rfl (fun ls hl => ?_)
          refine lv_goto (tgt := 12) hx hb dX3_rank_25 (by decide) ?_
          exact ih12 (k + 1) ls (by refine ⟨by omega, ?_⟩; rcases Int.lt_or_eq_of_le h0.2 with q | q; omega; exact absurd (show od k = pl by rw [q]; exact hj2) (by with_reducible assumption)) (by rw [← hq, show (sz - k).toNat = (sz - (k + 1)).toNat + 1 by omega, zrk_nx (by with_reducible assumption)]) (by omega) (lv_sub hl [1, 2, 0] rfl)
    exact loop12 _ 0 ls (by omega) (by rw [show sz - 0 = sz by omega]) (Nat.lt_succ_self _) (lv_sub hl [1, 2, 0] rfl)
  · skip
    have he5 := bi_eq h_1
    refine lv_iconst (v := zI (-1)) hx hb dX3_rank_8 (by first | rfl | decide) ?_
    exact W.iret (v := zI (-1)) hx hb hr (fun t ht_ hW_ => ⟨(-1), rfl, by show _ = zrn bt sz od pl; unfold zrn; rw [he5, if_neg (by decide)], ht_⟩) (fun q h => by cases h) dX3_rank_9
set_option maxHeartbeats 4000000 in
set_option maxRecDepth 100000 in
/-- common(place, other) -/
theorem kX3_common (l : Launch) (D : va_G) (cI cZ cL : ClassId) (d : Nat → Nat) (rm sg pr sz bt ps fi ht fo : Int) (nT : Nat) (T : Int → Int) (x y : Int) (hsz : 0 ≤ sz ∧ sz ≤ 1000000) (hsT : sz ≤ (nT : Int)) (bnT : (nT : Int) < 1073741824) (hT : zS T) (hbt : bt = 0 ∨ bt = 1) (hx1 : zR x) (hy1 : zR y) : Met l yX3_common wsX3_common ({ frames := 1, cells := 0, slots := 0, locals := 23 }) (zPr D cI cZ cL [.ref (d 0), .int (zI x), .int (zI y)] [(d 0, .inr (3, mo d rm sg pr sz bt ps fi ht fo)), (d 1, .inl (cI, nT, .inl (zA T)))]) (zQi (fun r => r = zcn2 bt sz T x y)) 0 0 (fun _ => False) := by
  refine Met.ofW (cc := cX3_common) (maxL := 3) (ret := (some .int)) (by decide) rfl ?_
  intro p e s m args below meth c s₁ B hml hv
  obtain ⟨rfl, hP, hK⟩ := hv
  have hx := B.exec
  have hb := B.bytes
  have hr := B.returns
  have hts := atoms_spec (ws := wsX3_common) B.pre
  have hown : s.vm.findClass RX3 = some m.cls := findClass_of_methodNamed B.named
  have hlocks := B.notSynchronized
  have hP : va_P D vwCl [(d 0, .inr (3, mo d rm sg pr sz bt ps fi ht fo)), (d 1, .inl (cI, nT, .inl (zA T)))] s.heap := hP
  have hl := lv_entry ([.ref (d 0), .int (zI x), .int (zI y)]) (n := 3) (Nat.le_of_ble_eq_true rfl)
  rw [lg_entry_eq]
  generalize (lg_sl ([.ref (d 0), .int (zI x), .int (zI y)]) ++ List.replicate (3 - (lg_sl ([.ref (d 0), .int (zI x), .int (zI y)])).length) Slot.unset).toArray = ls at hl ⊢
  have hl : lv_has ls 3 [(0, .ref (d 0)), (1, .int (zI x)), (2, .int (zI y))] := hl
  refine lv_aload_n hx hb dX3_common_0 rfl (lv_at hl 0 rfl) ?_
  refine lv_iload_n hx hb dX3_common_1 rfl (lv_at hl 1 rfl) ?_
  refine z_cr (va_runV (As := [.int (zI x)]) (rest := []) ⟨hx, hb, hml, hown, hts⟩ (kX3_isEnd l D cI cZ cL d rm sg pr sz bt ps fi ht fo x (by omega) (by omega) (by omega)) (cwV 1 hts gX3_common_X3_isEnd rfl rfl rfl (by decide +kernel) ⟨Nat.le_of_ble_eq_true rfl, Nat.le_of_ble_eq_true rfl⟩) (zPr_preV (ci := 3) (q0 := 0) hK (hP.sub (ws' := [(d 0, .inr (3, mo d rm sg pr sz bt ps fi ht fo))]) [0] rfl) rfl rfl) rfl rfl hl.1 rfl (lv_room (Nat.le_of_ble_eq_true rfl)) dX3_common_2 ⟨Nat.zero_le _, Nat.zero_le _⟩) (fun r hr_ => ?_)
  subst hr_
  refine z_if_eq (tgt := 25) hx hb dX3_common_5 (by decide) (bi_R _) (fun h_1 => ?_) (fun h_1 => ?_)
  · skip
    have he5 := bi_eq h_1
    refine lv_iconst (v := zI (-1)) hx hb dX3_common_25 (by first | rfl | decide) ?_
    exact W.iret (v := zI (-1)) hx hb hr (fun t ht_ hW_ => ⟨(-1), rfl, by first | exact zcn2_t he5 he13 | exact zcn2_a he5 | exact zcn2_b he13, ht_⟩) (fun q h => by cases h) dX3_common_26
  · skip
    have he5 := bi_ne h_1
    have hf5 := zie_iff.mp he5
    refine lv_aload_n hx hb dX3_common_8 rfl (lv_at hl 0 rfl) ?_
    refine lv_iload_n hx hb dX3_common_9 rfl (lv_at hl 2 rfl) ?_
    refine z_cr (va_runV (As := [.int (zI y)]) (rest := []) ⟨hx, hb, hml, hown, hts⟩ (kX3_isEnd l D cI cZ cL d rm sg pr sz bt ps fi ht fo y (by omega) (by omega) (by omega)) (cwV 1 hts gX3_common_X3_isEnd rfl rfl rfl (by decide +kernel) ⟨Nat.le_of_ble_eq_true rfl, Nat.le_of_ble_eq_true rfl⟩) (zPr_preV (ci := 3) (q0 := 0) hK (hP.sub (ws' := [(d 0, .inr (3, mo d rm sg pr sz bt ps fi ht fo))]) [0] rfl) rfl rfl) rfl rfl hl.1 rfl (lv_room (Nat.le_of_ble_eq_true rfl)) dX3_common_10 ⟨Nat.zero_le _, Nat.zero_le _⟩) (fun r hr_ => ?_)
    subst hr_
    refine z_if_eq (tgt := 25) hx hb dX3_common_13 (by decide) (bi_R _) (fun h_2 => ?_) (fun h_2 => ?_)
    · skip
      have he13 := bi_eq h_2
      refine lv_iconst (v := zI (-1)) hx hb dX3_common_25 (by first | rfl | decide) ?_
      exact W.iret (v := zI (-1)) hx hb hr (fun t ht_ hW_ => ⟨(-1), rfl, by first | exact zcn2_t he5 he13 | exact zcn2_a he5 | exact zcn2_b he13, ht_⟩) (fun q h => by cases h) dX3_common_26
    · skip
      have he13 := bi_ne h_2
      have hf13 := zie_iff.mp he13
      refine lv_aload_n hx hb dX3_common_16 rfl (lv_at hl 0 rfl) ?_
      refine lv_iload_n hx hb dX3_common_17 rfl (lv_at hl 1 rfl) ?_
      refine lv_iload_n hx hb dX3_common_18 rfl (lv_at hl 2 rfl) ?_
      refine z_cr (va_runV (As := [.int (zI x), .int (zI y)]) (rest := []) ⟨hx, hb, hml, hown, hts⟩ (kX3_commonOf l D cI cZ cL d rm sg pr sz bt ps fi ht fo nT T x y (by omega) (by omega) (by omega) (hT) (by omega) (by omega)) (cwV 2 hts gX3_common_X3_commonOf rfl rfl rfl (by decide +kernel) ⟨Nat.le_of_ble_eq_true rfl, Nat.le_of_ble_eq_true rfl⟩) (zPr_preV (ci := 3) (q0 := 0) hK (hP.sub (ws' := [(d 0, .inr (3, mo d rm sg pr sz bt ps fi ht fo)), (d 1, .inl (cI, nT, .inl (zA T)))]) [0, 1] rfl) rfl rfl) rfl rfl hl.1 rfl (lv_room (Nat.le_of_ble_eq_true rfl)) dX3_common_19 ⟨Nat.zero_le _, Nat.zero_le _⟩) (fun r hr_ => ?_)
      subst hr_
      refine lv_goto (tgt := 26) hx hb dX3_common_22 (by decide) ?_
      exact W.iret (v := zI (zcm sz T x y 0)) hx hb hr (fun t ht_ hW_ => ⟨zcm sz T x y 0, rfl, by first | exact zcn2_t he5 he13 | exact zcn2_a he5 | exact zcn2_b he13, ht_⟩) (fun q h => by cases h) dX3_common_26
