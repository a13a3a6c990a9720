theorem defX0 : ∀ j, j < 15 → defaultValue (tyX0 j) = vp_V [.null, .null, .null, .null, .null, .null, .null, .null, .null, .null, .int (zI 0), .null, .int (zI 0), .int (zI 0), .int (zI 0)] j := by decide +kernel
theorem defX1 : ∀ j, j < 3 → defaultValue (tyX1 j) = vp_V [.null, .int (zI 0), .int (zI 0)] j := by decide +kernel
theorem defX2 : ∀ j, j < 12 → defaultValue (tyX2 j) = vp_V [.int (zI 0), .null, .null, .null, .null, .null, .null, .int (zI 0), .int (zI 0), .int (zI 0), .int (zI 0), .int (zI 0)] j := by decide +kernel
theorem defX3 : ∀ j, j < 13 → defaultValue (tyX3 j) = vp_V [.int (zI 0), .int (zI 0), .int (zI 0), .null, .int (zI 0), .int (zI 0), .null, .null, .null, .int (zI 0), .int (zI 0), .int (zI 0), .int (zI 0)] j := by decide +kernel
set_option maxRecDepth 20000 in
theorem inX1_init_X1 : ∀ w ∈ wsX10, w ∈ wsX1_init := by decide +kernel
set_option maxHeartbeats 4000000 in
set_option maxRecDepth 100000 in
/-- levelsFor(room) -/
theorem kX0_levelsFor (l : Launch) (D : va_G) (cI cZ cL : ClassId) (rm : Int) (hrm : 1 ≤ rm ∧ rm ≤ 1000) : Met l yX0_levelsFor wsX0_levelsFor ({ frames := 0, cells := 0, slots := 0, locals := 0 }) (zPr D cI cZ cL [.int (zI rm)] []) (zQi (fun r => r = zlv rm)) 0 0 (fun _ => False) := by
  refine Met.ofW (cc := cX0_levelsFor) (maxL := 3) (ret := (some .int)) (by decide) rfl ?_
  intro p e s m args below meth c s₁ B hml hv
  obtain ⟨rfl, hP, hK⟩ := hv
  have hx := B.exec
  have hb := B.bytes
  have hr := B.returns
  have hts := atoms_spec (ws := wsX0_levelsFor) B.pre
  have hown : s.vm.findClass RX0 = some m.cls := findClass_of_methodNamed B.named
  have hlocks := B.notSynchronized
  have hP : va_P D vwCl [] s.heap := hP
  have hl := lv_entry ([.int (zI rm)]) (n := 3) (Nat.le_of_ble_eq_true rfl)
  rw [lg_entry_eq]
  generalize (lg_sl ([.int (zI rm)]) ++ List.replicate (3 - (lg_sl ([.int (zI rm)])).length) Slot.unset).toArray = ls at hl ⊢
  have hl : lv_has ls 3 [(0, .int (zI rm))] := hl
  refine lv_iconst (v := zI 1) hx hb dX0_levelsFor_0 (by first | rfl | decide) ?_
  refine lv_istore_n (lv' := [(1, .int (zI 1)), (0, .int (zI rm))]) hx hb dX0_levelsFor_1 rfl hl (by decide) rfl (fun ls hl => ?_)
  refine lv_iload_n hx hb dX0_levelsFor_2 rfl (lv_at hl 1 rfl) ?_
  refine lv_iconst (v := zI 2) hx hb dX0_levelsFor_3 (by first | rfl | decide) ?_
  refine lv_idiv hx hb dX0_levelsFor_4 (by decide) ?_
  refine z_topx (b := rm / 2) (z_half (by omega) (by omega)) ?_
  refine lv_istore_n (lv' := [(2, .int (zI (rm / 2))), (1, .int (zI 1)), (0, .int (zI rm))]) hx hb dX0_levelsFor_5 rfl hl (by decide) rfl (fun ls hl => ?_)
  have loop6 : ∀ (nn : Nat) (k : Int) (v : Int) (ls : Array Slot), (0 ≤ v ∧ v ≤ 1000) → (1 ≤ k ∧ k + v ≤ 2000) → (zlf v.toNat k v = zlv rm) → (v.toNat) < nn → lv_has ls 3 [(0, .int (zI rm)), (1, .int (zI k)), (2, .int (zI v))] → W p l e (headSpec wsX0_levelsFor ({ frames := 0, cells := 0, slots := 0, locals := 0 })).room s m ([.int (zI rm)] : List Value).toArray below meth c s.heap [] 0 0 (MQ below (zQi (fun r => r = zlv rm)) ([.int (zI rm)] : List Value).toArray s 0 0 (fun _ => False)) (F0 m 6 ls []) := by
    intro nn
    induction nn with
    | zero =>
      intros
      exact absurd (by assumption : _ < 0) (Nat.not_lt_zero _)
    | succ nn ih6 =>
      intro k v ls h0 hk hq hmu hl
      refine lv_iload_n hx hb dX0_levelsFor_6 rfl (lv_at hl 2 rfl) ?_
      refine lv_iconst (v := zI 1) hx hb dX0_levelsFor_7 (by first | rfl | decide) ?_
      refine z_icmp_le (tgt := 21) hx hb dX0_levelsFor_8 (by decide) (by omega) (by omega) (fun h_1 => ?_) (fun h_1 => ?_)
      · skip
        refine lv_iload_n hx hb dX0_levelsFor_21 rfl (lv_at hl 1 rfl) ?_
        exact W.iret (v := zI k) hx hb hr (fun t ht_ hW_ => ⟨k, rfl, by rw [← hq]; exact (zlf_e (by omega)).symm, ht_⟩) (fun q h => by cases h) dX0_levelsFor_22
      · skip
        refine lv_iinc (v := zI (k + 1)) (lv' := [(1, .int (zI (k + 1))), (0, .int (zI rm)), (2, .int (zI v))]) hx hb dX0_levelsFor_11 hl (k := 1) rfl (zI_add _ _) (by decide) rfl (fun ls hl => ?_)
        refine lv_iload_n hx hb dX0_levelsFor_14 rfl (lv_at hl 2 rfl) ?_
        refine lv_iconst (v := zI 2) hx hb dX0_levelsFor_15 (by first | rfl | decide) ?_
        refine lv_idiv hx hb dX0_levelsFor_16 (by decide) ?_
        refine z_topx (b := v / 2) (z_half (by omega) (by omega)) ?_
        refine lv_istore_n (lv' := [(2, .int (zI (v / 2))), (1, .int (zI (k + 1))), (0, .int (zI rm))]) hx hb dX0_levelsFor_17 rfl hl (by decide) rfl (fun ls hl => ?_)
        refine lv_goto (tgt := 6) hx hb dX0_levelsFor_18 (by decide) ?_
        exact ih6 (k + 1) (v / 2) ls (by omega) (by omega) (by rw [← hq]; exact zlf_s (by omega)) (by omega) (lv_sub hl [2, 1, 0] rfl)
  exact loop6 _ 1 (rm / 2) ls (by omega) (by omega) (rfl) (Nat.lt_succ_self _) (lv_sub hl [2, 1, 0] rfl)
set_option maxHeartbeats 4000000 in
set_option maxRecDepth 100000 in
/-- Level(room) -/
theorem kX1_init (l : Launch) (D : va_G) (cI cZ cL : ClassId) (h : Nat) (n : Int) (szz : Nat) (hn : 0 ≤ n ∧ n ≤ 1000) : Met l yX1_init wsX1_init ({ frames := 1, cells := 1, slots := 1000, locals := 30 }) (zPn D cI cZ cL szz [.ref h, .int (zI n)] [(h, .inr (1, [.null, .int (zI 0), .int (zI 0)]))]) (zQw D (va_A [(h, .inr (1, [.null, .int (zI 0), .int (zI 0)]))] szz) (fun u : (Nat) => True) (fun u : (Nat) => [(h, .inr (1, lo u 0 0)), (u, .inl (cI, n.toNat, .inl (zA (fun _ => 0))))])) 1 1000 (va_A [(h, .inr (1, [.null, .int (zI 0), .int (zI 0)]))] szz) := by
  refine Met.ofW (cc := cX1_init) (maxL := 2) (ret := none) (by decide) rfl ?_
  intro p e s m args below meth c s₁ B hml hv
  obtain ⟨rfl, hsz, hP, hK, hD0, hO⟩ := hv
  have hx := B.exec
  have hb := B.bytes
  have hr := B.returns
  have hts := atoms_spec (ws := wsX1_init) B.pre
  have hown : s.vm.findClass RX1 = some m.cls := findClass_of_methodNamed B.named
  have hlocks := B.notSynchronized
  have hin : meth.name = "<init>" := (name_of_methodNamed B.named B.method).1
  subst hsz
  have hD := hD0.self (sz := s.heap.size)
  generalize hAe : va_A [(h, .inr (1, [.null, .int (zI 0), .int (zI 0)]))] s.heap.size = A at hD ⊢
  have hA : ∀ q : Nat, s.heap.size ≤ q → A q := fun q h => by rw [← hAe]; exact Or.inr h
  have hS : va_S A s.heap s.heap [] := va_S.rf
  clear hD0
  have hP : va_P D vwCl [(h, .inr (1, [.null, .int (zI 0), .int (zI 0)]))] s.heap := hP
  have hl := lv_entry ([.ref h, .int (zI n)]) (n := 2) (Nat.le_of_ble_eq_true rfl)
  rw [lg_entry_eq]
  generalize (lg_sl ([.ref h, .int (zI n)]) ++ List.replicate (2 - (lg_sl ([.ref h, .int (zI n)])).length) Slot.unset).toArray = ls at hl ⊢
  have hl : lv_has ls 2 [(0, .ref h), (1, .int (zI n))] := hl
  refine lv_aload_n hx hb dX1_init_0 rfl (lv_at hl 0 rfl) ?_
  refine W.objInit hx hb hown (hts (.methodLink RX1 1 objectInit) (List.mem_of_getElem? (i := 1) rfl)) (hts (.instanceMethod objectInit) (List.mem_of_getElem? (i := 2) rfl)) (hts (.code objectInit ⟨#[0xb1]⟩ 1 none) (List.mem_of_getElem? (i := 3) rfl)) rfl (by rw [hml]; exact hl.1) rfl dX1_init_1 (Nat.le_of_ble_eq_true rfl) (Nat.le_of_ble_eq_true rfl) ?_
  refine W.eq (g2 := F0 m 4 ls []) rfl ?_
  refine lv_aload_n hx hb dX1_init_4 rfl (lv_at hl 0 rfl) ?_
  refine lv_iconst (v := zI 0) hx hb dX1_init_5 (by first | rfl | decide) ?_
  refine lv_iload_n hx hb dX1_init_6 rfl (lv_at hl 1 rfl) ?_
  refine va_mmax hx hb (hml.trans hl.1.symm) hown (hts (.methodLink RX1 7 Lib.Math.max.name) (List.mem_of_getElem? (i := 4) rfl)) (hts (.static Lib.Math.max.name) (List.mem_of_getElem? (i := 5) rfl)) (hts (.initialized "java/lang/Math") (List.mem_of_getElem? (i := 6) rfl)) (hts (.code Lib.Math.max.name Lib.Math.max.code 2 (some .int)) (List.mem_of_getElem? (i := 7) rfl)) (Nat.le_of_ble_eq_true rfl) (Nat.le_of_ble_eq_true rfl) (Nat.zero_le _) (Nat.zero_le _) dX1_init_7 ?_
  refine z_topx (b := zmax 0 n) (zmax_I (by omega) (by omega)) ?_
  refine z_newI hx hb (hts (.arrayClass .int) (List.mem_of_getElem? (i := 8) rfl)) hK.1 hP hD hS hA (n.toNat) (by have := zmax_or (a := 0) (b := n); have := zmax_ge (a := 0) (b := n); omega) (by omega) (show _ + 1 ≤ 1 by omega) (show _ + n.toNat ≤ 1000 by omega) dX1_init_10 (fun qq H hP hD hS => ?_)
  have hP : va_P D vwCl [(qq, .inl (cI, n.toNat, .inl (zA (fun _ => 0)))), (h, .inr (1, [.null, .int (zI 0), .int (zI 0)]))] H := hP
  have hD : va_D A [(qq, .inl (cI, n.toNat, .inl (zA (fun _ => 0)))), (h, .inr (1, [.null, .int (zI 0), .int (zI 0)]))] := hD
  refine va_putF (D := D) (ci := 1) (v := .ref qq) (ty := .array .int) (C := RX1) (T := TX1) (N := 3) hx hb hts inX1_init_X1 tyX1 tyX1_ok nmX1 hown hK.1 hP hD hS 1 rfl rfl 0 (by decide) (hts (.fieldLink RX1 13 "TextEnds$Level" "letters" "[I") (List.mem_of_getElem? (i := 9) rfl)) (fun _ h9 => h9) rfl hin rfl (by decide +kernel) rfl rfl (Nat.le_of_ble_eq_true rfl) dX1_init_12 (fun H locs hP hD hS => ?_)
  have hP : va_P D vwCl [(qq, .inl (cI, n.toNat, .inl (zA (fun _ => 0)))), (h, .inr (1, [.ref qq, .int (zI 0), .int (zI 0)]))] H := hP
  have hD : va_D A [(qq, .inl (cI, n.toNat, .inl (zA (fun _ => 0)))), (h, .inr (1, [.ref qq, .int (zI 0), .int (zI 0)]))] := hD
  have hP : va_P D vwCl [(h, .inr (1, [.ref qq, .int (zI 0), .int (zI 0)])), (qq, .inl (cI, n.toNat, .inl (zA (fun _ => 0))))] H := hP.sub [1, 0] rfl
  have hD : va_D A [(h, .inr (1, [.ref qq, .int (zI 0), .int (zI 0)])), (qq, .inl (cI, n.toNat, .inl (zA (fun _ => 0))))] := hD.sub [1, 0] (by decide) rfl
  refine W.widen (k := 1) (n := 1000) (by omega) (by omega) ?_
  exact W.vret hx hb hr (fun t ht_ hW_ => ⟨⟨qq, rfl, trivial, by rw [ht_]; exact hP, hD⟩, hS.F ht_⟩) hS.2.2 dX1_init_15
