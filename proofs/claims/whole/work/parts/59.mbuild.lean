set_option maxRecDepth 20000 in
theorem inX3_build_X3 : ∀ w ∈ wsX30, w ∈ wsX3_build := by decide +kernel
set_option maxHeartbeats 4000000 in
set_option maxRecDepth 100000 in
/-- build() -/
theorem kX3_build (l : Launch) (D : va_G) (cI cZ cL : ClassId) (d : Nat → Nat) (rm sg pr sz bt ps fi ht fo : Int) (nT nO nQ : Nat) (T od ot : Int → Int) (szz : Nat) (hsz : 0 ≤ sz ∧ sz ≤ 1000000) (hsT : sz ≤ (nT : Int)) (bnT : (nT : Int) < 1073741824) (hT : zS T) (hbt : bt = 0 ∨ bt = 1) (hsO : sz ≤ (nO : Int)) (hsQ : sz ≤ (nQ : Int)) (bnO : (nO : Int) < 1073741824) (bnQ : (nQ : Int) < 1073741824) (hTp : ∀ i, 0 ≤ i → i < sz → 0 ≤ T i) : Met l yX3_build wsX3_build ({ frames := 2, cells := 0, slots := 0, locals := 46 }) (zPw D cI cZ cL szz [.ref (d 0)] [(d 0, .inr (3, mo d rm sg pr sz bt ps fi ht fo)), (d 1, .inl (cI, nT, .inl (zA T))), (d 2, .inl (cI, nO, .inl (zA od))), (d 3, .inl (cI, nQ, .inl (zA ot)))]) (zQwi D (va_A [(d 0, .inr (3, mo d rm sg pr sz bt ps fi ht fo)), (d 1, .inl (cI, nT, .inl (zA T))), (d 2, .inl (cI, nO, .inl (zA od))), (d 3, .inl (cI, nQ, .inl (zA ot)))] szz) (fun (r : Int) (u : (Int → Int) × (Int → Int)) => r = sz ∧ (bt = 0 → sSa sz (zbf sz T) u.1) ∧ (bt ≠ 0 → u.1 = od)) (fun u : (Int → Int) × (Int → Int) => [(d 0, .inr (3, mo d rm sg pr sz 1 ps fi ht fo)), (d 1, .inl (cI, nT, .inl (zA T))), (d 2, .inl (cI, nO, .inl (zA u.1))), (d 3, .inl (cI, nQ, .inl (zA u.2)))])) 0 0 (va_A [(d 0, .inr (3, mo d rm sg pr sz bt ps fi ht fo)), (d 1, .inl (cI, nT, .inl (zA T))), (d 2, .inl (cI, nO, .inl (zA od))), (d 3, .inl (cI, nQ, .inl (zA ot)))] szz) := by
  refine Met.ofW (cc := cX3_build) (maxL := 9) (ret := (some .int)) (by decide) rfl ?_
  intro p e s m args below meth c s₁ B hml hv
  obtain ⟨rfl, hsz, hP, hK, hD0⟩ := hv
  have hx := B.exec
  have hb := B.bytes
  have hr := B.returns
  have hts := atoms_spec (ws := wsX3_build) B.pre
  have hown : s.vm.findClass RX3 = some m.cls := findClass_of_methodNamed B.named
  have hlocks := B.notSynchronized
  subst hsz
  have hD := hD0.self (sz := s.heap.size)
  generalize hAe : va_A [(d 0, .inr (3, mo d rm sg pr sz bt ps fi ht fo)), (d 1, .inl (cI, nT, .inl (zA T))), (d 2, .inl (cI, nO, .inl (zA od))), (d 3, .inl (cI, nQ, .inl (zA ot)))] s.heap.size = A at hD ⊢
  have hA : ∀ q : Nat, s.heap.size ≤ q → A q := fun q h => by rw [← hAe]; exact Or.inr h
  have hS : va_S A s.heap s.heap [] := va_S.rf
  clear hD0
  have hP : va_P D vwCl [(d 0, .inr (3, mo d rm sg pr sz bt ps fi ht fo)), (d 1, .inl (cI, nT, .inl (zA T))), (d 2, .inl (cI, nO, .inl (zA od))), (d 3, .inl (cI, nQ, .inl (zA ot)))] s.heap := hP
  have hl := lv_entry ([.ref (d 0)]) (n := 9) (Nat.le_of_ble_eq_true rfl)
  rw [lg_entry_eq]
  generalize (lg_sl ([.ref (d 0)]) ++ List.replicate (9 - (lg_sl ([.ref (d 0)])).length) Slot.unset).toArray = ls at hl ⊢
  have hl : lv_has ls 9 [(0, .ref (d 0))] := hl
  have hord := zbf_ord hTp
  refine lv_aload_n hx hb dX3_build_0 rfl (lv_at hl 0 rfl) ?_
  refine va_get (D := D) (ci := 3) (v := .int (zI bt)) (C := RX3) (T := TX3) (N := 13) hx hb hts inX3_build_X3 hown hK.1 hP 0 rfl rfl 5 (by decide) (hts (.fieldLink RX3 35 "TextEndsModel" "built" "Z") (List.mem_of_getElem? (i := 1) rfl)) (fun _ h9 => h9) rfl dX3_build_1 ?_
  refine z_if_eq (tgt := 12) hx hb dX3_build_4 (by decide) (by omega) (fun h_1 => ?_) (fun h_1 => ?_)
  · skip
    have hz := h_1
    refine lv_iconst (v := zI 0) hx hb dX3_build_12 (by first | rfl | decide) ?_
    refine lv_istore_n (lv' := [(1, .int (zI 0)), (0, .ref (d 0))]) hx hb dX3_build_13 rfl hl (by decide) rfl (fun ls hl => ?_)
    have loop14 : ∀ (nn : Nat) (k : Int) (oA : Int → Int) (H : Heap) (locs : List Loc) (ls : Array Slot), (0 ≤ k ∧ k ≤ sz) → (oA = zfill 0 k (fun j => j) od) → ((sz - k).toNat) < nn → va_P D vwCl [(d 0, .inr (3, mo d rm sg pr sz bt ps fi ht fo)), (d 1, .inl (cI, nT, .inl (zA T))), (d 2, .inl (cI, nO, .inl (zA oA))), (d 3, .inl (cI, nQ, .inl (zA ot)))] H → va_D A [(d 0, .inr (3, mo d rm sg pr sz bt ps fi ht fo)), (d 1, .inl (cI, nT, .inl (zA T))), (d 2, .inl (cI, nO, .inl (zA oA))), (d 3, .inl (cI, nQ, .inl (zA ot)))] → va_S A s.heap H locs → lv_has ls 9 [(0, .ref (d 0)), (1, .int (zI k))] → W p l e (headSpec wsX3_build ({ frames := 2, cells := 0, slots := 0, locals := 46 })).room s m ([.ref (d 0)] : List Value).toArray below meth c H locs 0 0 (MQ below (zQwi D A (fun (r : Int) (u : (Int → Int) × (Int → Int)) => r = sz ∧ (bt = 0 → sSa sz (zbf sz T) u.1) ∧ (bt ≠ 0 → u.1 = od)) (fun u : (Int → Int) × (Int → Int) => [(d 0, .inr (3, mo d rm sg pr sz 1 ps fi ht fo)), (d 1, .inl (cI, nT, .inl (zA T))), (d 2, .inl (cI, nO, .inl (zA u.1))), (d 3, .inl (cI, nQ, .inl (zA u.2)))])) ([.ref (d 0)] : List Value).toArray s 0 0 A) (F0 m 14 ls []) := by
      intro nn
      induction nn with
      | zero =>
        intros
        exact absurd (by assumption : _ < 0) (Nat.not_lt_zero _)
      | succ nn ih14 =>
        intro k oA H locs ls h0 hoA hmu hP hD hS hl
        refine lv_iload_n hx hb dX3_build_14 rfl (lv_at hl 1 rfl) ?_
        refine lv_aload_n hx hb dX3_build_15 rfl (lv_at hl 0 rfl) ?_
        refine va_get (D := D) (ci := 3) (v := .int (zI sz)) (C := RX3) (T := TX3) (N := 13) hx hb hts inX3_build_X3 hown hK.1 hP 0 rfl rfl 4 (by decide) (hts (.fieldLink RX3 32 "TextEndsModel" "size" "I") (List.mem_of_getElem? (i := 2) rfl)) (fun _ h9 => h9) rfl dX3_build_16 ?_
        refine z_icmp_ge (tgt := 35) hx hb dX3_build_19 (by decide) (by omega) (by omega) (fun h_2 => ?_) (fun h_2 => ?_)
        · skip
          refine lv_iconst (v := zI 1) hx hb dX3_build_35 (by first | rfl | decide) ?_
          refine lv_istore_n (lv' := [(1, .int (zI 1)), (0, .ref (d 0))]) hx hb dX3_build_36 rfl hl (by decide) rfl (fun ls hl => ?_)
          have hsr : sSur sz oA := by rw [hoA, show k = sz by omega]; exact sSur_id
          have loop37 : ∀ (nn : Nat) (w : Int) (oB : Int → Int) (tB : Int → Int) (H : Heap) (locs : List Loc) (ls : Array Slot), (1 ≤ w ∧ w ≤ 2000000) → (mgB sz (zbf sz T) oB w sz) → (sSur sz oB) → ((sz - w).toNat) < nn → va_P D vwCl [(d 0, .inr (3, mo d rm sg pr sz bt ps fi ht fo)), (d 1, .inl (cI, nT, .inl (zA T))), (d 2, .inl (cI, nO, .inl (zA oB))), (d 3, .inl (cI, nQ, .inl (zA tB)))] H → va_D A [(d 0, .inr (3, mo d rm sg pr sz bt ps fi ht fo)), (d 1, .inl (cI, nT, .inl (zA T))), (d 2, .inl (cI, nO, .inl (zA oB))), (d 3, .inl (cI, nQ, .inl (zA tB)))] → va_S A s.heap H locs → lv_has ls 9 [(0, .ref (d 0)), (1, .int (zI w))] → W p l e (headSpec wsX3_build ({ frames := 2, cells := 0, slots := 0, locals := 46 })).room s m ([.ref (d 0)] : List Value).toArray below meth c H locs 0 0 (MQ below (zQwi D A (fun (r : Int) (u : (Int → Int) × (Int → Int)) => r = sz ∧ (bt = 0 → sSa sz (zbf sz T) u.1) ∧ (bt ≠ 0 → u.1 = od)) (fun u : (Int → Int) × (Int → Int) => [(d 0, .inr (3, mo d rm sg pr sz 1 ps fi ht fo)), (d 1, .inl (cI, nT, .inl (zA T))), (d 2, .inl (cI, nO, .inl (zA u.1))), (d 3, .inl (cI, nQ, .inl (zA u.2)))])) ([.ref (d 0)] : List Value).toArray s 0 0 A) (F0 m 37 ls []) := by
            intro nn
            induction nn with
            | zero =>
              intros
              exact absurd (by assumption : _ < 0) (Nat.not_lt_zero _)
            | succ nn ih37 =>
              intro w oB tB H locs ls hw hB hs hmu hP hD hS hl
              refine lv_iload_n hx hb dX3_build_37 rfl (lv_at hl 1 rfl) ?_
              refine lv_aload_n hx hb dX3_build_38 rfl (lv_at hl 0 rfl) ?_
              refine va_get (D := D) (ci := 3) (v := .int (zI sz)) (C := RX3) (T := TX3) (N := 13) hx hb hts inX3_build_X3 hown hK.1 hP 0 rfl rfl 4 (by decide) (hts (.fieldLink RX3 32 "TextEndsModel" "size" "I") (List.mem_of_getElem? (i := 2) rfl)) (fun _ h9 => h9) rfl dX3_build_39 ?_
              refine z_icmp_ge (tgt := 270) hx hb dX3_build_42 (by decide) (by omega) (by omega) (fun h_3 => ?_) (fun h_3 => ?_)
              · skip
                have hfin : sSa sz (zbf sz T) oB := ⟨hs, mgB_all (by omega) hB⟩
                refine lv_aload_n hx hb dX3_build_270 rfl (lv_at hl 0 rfl) ?_
                refine lv_iconst (v := zI 1) hx hb dX3_build_271 (by first | rfl | decide) ?_
                refine va_put (D := D) (ci := 3) (v := .int (zI 1)) (ty := .boolean) (C := RX3) (T := TX3) (N := 13) hx hb hts inX3_build_X3 tyX3 tyX3_ok nmX3 hown hK.1 hP hD hS 0 rfl rfl 5 (by decide) (hts (.fieldLink RX3 35 "TextEndsModel" "built" "Z") (List.mem_of_getElem? (i := 1) rfl)) (fun _ h9 => h9) rfl (by decide +kernel) (znar_b2 (by first | exact Or.inl rfl | exact Or.inr rfl | exact bi_01 _ | with_reducible assumption | omega)) (zfit_b (by first | exact Or.inl rfl | exact Or.inr rfl | exact bi_01 _ | with_reducible assumption | omega)) (Nat.le_of_ble_eq_true rfl) dX3_build_272 (fun H locs hP hD hS => ?_)
                have hP : va_P D vwCl [(d 0, .inr (3, mo d rm sg pr sz 1 ps fi ht fo)), (d 1, .inl (cI, nT, .inl (zA T))), (d 2, .inl (cI, nO, .inl (zA oB))), (d 3, .inl (cI, nQ, .inl (zA tB)))] H := hP
                have hD : va_D A [(d 0, .inr (3, mo d rm sg pr sz 1 ps fi ht fo)), (d 1, .inl (cI, nT, .inl (zA T))), (d 2, .inl (cI, nO, .inl (zA oB))), (d 3, .inl (cI, nQ, .inl (zA tB)))] := hD
                refine lv_aload_n hx hb dX3_build_275 rfl (lv_at hl 0 rfl) ?_
                refine va_get (D := D) (ci := 3) (v := .int (zI sz)) (C := RX3) (T := TX3) (N := 13) hx hb hts inX3_build_X3 hown hK.1 hP 0 rfl rfl 4 (by decide) (hts (.fieldLink RX3 32 "TextEndsModel" "size" "I") (List.mem_of_getElem? (i := 2) rfl)) (fun _ h9 => h9) rfl dX3_build_276 ?_
                exact W.iret (v := zI sz) hx hb hr (fun t ht_ hW_ => ⟨⟨sz, (oB, tB), rfl, ⟨rfl, fun _ => hfin, fun q => absurd hz q⟩, by rw [ht_]; exact hP, hD⟩, hS.F ht_⟩) hS.2.2 dX3_build_279
              · skip
                refine lv_iconst (v := zI 0) hx hb dX3_build_45 (by first | rfl | decide) ?_
                refine lv_istore_n (lv' := [(2, .int (zI 0)), (0, .ref (d 0)), (1, .int (zI w))]) hx hb dX3_build_46 rfl hl (by decide) rfl (fun ls hl => ?_)
                have loop47 : ∀ (nn : Nat) (fr : Int) (tC : Int → Int) (H : Heap) (locs : List Loc) (ls : Array Slot), (0 ≤ fr ∧ fr ≤ 5000000) → (∃ q, fr = q * (2 * w)) → (mgC sz (zbf sz T) oB tC w fr) → ((sz - fr).toNat) < nn → va_P D vwCl [(d 0, .inr (3, mo d rm sg pr sz bt ps fi ht fo)), (d 1, .inl (cI, nT, .inl (zA T))), (d 2, .inl (cI, nO, .inl (zA oB))), (d 3, .inl (cI, nQ, .inl (zA tC)))] H → va_D A [(d 0, .inr (3, mo d rm sg pr sz bt ps fi ht fo)), (d 1, .inl (cI, nT, .inl (zA T))), (d 2, .inl (cI, nO, .inl (zA oB))), (d 3, .inl (cI, nQ, .inl (zA tC)))] → va_S A s.heap H locs → lv_has ls 9 [(0, .ref (d 0)), (1, .int (zI w)), (2, .int (zI fr))] → W p l e (headSpec wsX3_build ({ frames := 2, cells := 0, slots := 0, locals := 46 })).room s m ([.ref (d 0)] : List Value).toArray below meth c H locs 0 0 (MQ below (zQwi D A (fun (r : Int) (u : (Int → Int) × (Int → Int)) => r = sz ∧ (bt = 0 → sSa sz (zbf sz T) u.1) ∧ (bt ≠ 0 → u.1 = od)) (fun u : (Int → Int) × (Int → Int) => [(d 0, .inr (3, mo d rm sg pr sz 1 ps fi ht fo)), (d 1, .inl (cI, nT, .inl (zA T))), (d 2, .inl (cI, nO, .inl (zA u.1))), (d 3, .inl (cI, nQ, .inl (zA u.2)))])) ([.ref (d 0)] : List Value).toArray s 0 0 A) (F0 m 47 ls []) := by
                  intro nn
                  induction nn with
                  | zero =>
                    intros
                    exact absurd (by assumption : _ < 0) (Nat.not_lt_zero _)
                  | succ nn ih47 =>
                    intro fr tC H locs ls hfr0 hfx hC hmu hP hD hS hl
                    refine lv_iload_n hx hb dX3_build_47 rfl (lv_at hl 2 rfl) ?_
                    refine lv_aload_n hx hb dX3_build_48 rfl (lv_at hl 0 rfl) ?_
                    refine va_get (D := D) (ci := 3) (v := .int (zI sz)) (C := RX3) (T := TX3) (N := 13) hx hb hts inX3_build_X3 hown hK.1 hP 0 rfl rfl 4 (by decide) (hts (.fieldLink RX3 32 "TextEndsModel" "size" "I") (List.mem_of_getElem? (i := 2) rfl)) (fun _ h9 => h9) rfl dX3_build_49 ?_
                    refine z_icmp_ge (tgt := 235) hx hb dX3_build_52 (by decide) (by omega) (by omega) (fun h_4 => ?_) (fun h_4 => ?_)
                    · skip
                      refine lv_iconst (v := zI 0) hx hb dX3_build_235 (by first | rfl | decide) ?_
                      refine lv_istore_n (lv' := [(2, .int (zI 0)), (0, .ref (d 0)), (1, .int (zI w))]) hx hb dX3_build_236 rfl hl (by decide) rfl (fun ls hl => ?_)
                      have loop237 : ∀ (nn : Nat) (k2 : Int) (oE : Int → Int) (H : Heap) (locs : List Loc) (ls : Array Slot), (0 ≤ k2 ∧ k2 ≤ sz) → (oE = zfill 0 k2 tC oB) → ((sz - k2).toNat) < nn → va_P D vwCl [(d 0, .inr (3, mo d rm sg pr sz bt ps fi ht fo)), (d 1, .inl (cI, nT, .inl (zA T))), (d 2, .inl (cI, nO, .inl (zA oE))), (d 3, .inl (cI, nQ, .inl (zA tC)))] H → va_D A [(d 0, .inr (3, mo d rm sg pr sz bt ps fi ht fo)), (d 1, .inl (cI, nT, .inl (zA T))), (d 2, .inl (cI, nO, .inl (zA oE))), (d 3, .inl (cI, nQ, .inl (zA tC)))] → va_S A s.heap H locs → lv_has ls 9 [(0, .ref (d 0)), (1, .int (zI w)), (2, .int (zI k2))] → W p l e (headSpec wsX3_build ({ frames := 2, cells := 0, slots := 0, locals := 46 })).room s m ([.ref (d 0)] : List Value).toArray below meth c H locs 0 0 (MQ below (zQwi D A (fun (r : Int) (u : (Int → Int) × (Int → Int)) => r = sz ∧ (bt = 0 → sSa sz (zbf sz T) u.1) ∧ (bt ≠ 0 → u.1 = od)) (fun u : (Int → Int) × (Int → Int) => [(d 0, .inr (3, mo d rm sg pr sz 1 ps fi ht fo)), (d 1, .inl (cI, nT, .inl (zA T))), (d 2, .inl (cI, nO, .inl (zA u.1))), (d 3, .inl (cI, nQ, .inl (zA u.2)))])) ([.ref (d 0)] : List Value).toArray s 0 0 A) (F0 m 237 ls []) := by
                        intro nn
                        induction nn with
                        | zero =>
                          intros
                          exact absurd (by assumption : _ < 0) (Nat.not_lt_zero _)
                        | succ nn ih237 =>
                          intro k2 oE H locs ls e0 hoE hmu hP hD hS hl
                          refine lv_iload_n hx hb dX3_build_237 rfl (lv_at hl 2 rfl) ?_
                          refine lv_aload_n hx hb dX3_build_238 rfl (lv_at hl 0 rfl) ?_
                          refine va_get (D := D) (ci := 3) (v := .int (zI sz)) (C := RX3) (T := TX3) (N := 13) hx hb hts inX3_build_X3 hown hK.1 hP 0 rfl rfl 4 (by decide) (hts (.fieldLink RX3 32 "TextEndsModel" "size" "I") (List.mem_of_getElem? (i := 2) rfl)) (fun _ h9 => h9) rfl dX3_build_239 ?_
                          refine z_icmp_ge (tgt := 263) hx hb dX3_build_242 (by decide) (by omega) (by omega) (fun h_5 => ?_) (fun h_5 => ?_)
                          · skip
                            have hBe := mgC_end hC (by omega) hs (od' := oE) (fun x a b => by rw [hoE, show k2 = sz by omega, zfill_in a b])
                            refine lv_iconst (v := zI 2) hx hb dX3_build_263 (by first | rfl | decide) ?_
                            refine lv_iload_n hx hb dX3_build_264 rfl (lv_at hl 1 rfl) ?_
                            refine z_imul hx hb dX3_build_265 ?_
                            refine lv_istore_n (lv' := [(1, .int (zI (2 * w))), (0, .ref (d 0)), (2, .int (zI k2))]) hx hb dX3_build_266 rfl hl (by decide) rfl (fun ls hl => ?_)
                            refine lv_goto (tgt := 37) hx hb dX3_build_267 (by decide) ?_
                            exact ih37 (2 * w) oE tC _ _ ls (by omega) (hBe.1) (hBe.2) (by omega) (hP) (hD) hS (lv_sub hl [1, 0] rfl)
                          · skip
                            refine lv_aload_n hx hb dX3_build_245 rfl (lv_at hl 0 rfl) ?_
                            refine va_get (D := D) (ci := 3) (v := .ref (d 2)) (C := RX3) (T := TX3) (N := 13) hx hb hts inX3_build_X3 hown hK.1 hP 0 rfl rfl 6 (by decide) (hts (.fieldLink RX3 13 "TextEndsModel" "order" "[I") (List.mem_of_getElem? (i := 3) rfl)) (fun _ h9 => h9) rfl dX3_build_246 ?_
                            refine lv_iload_n hx hb dX3_build_249 rfl (lv_at hl 2 rfl) ?_
                            refine lv_aload_n hx hb dX3_build_250 rfl (lv_at hl 0 rfl) ?_
                            refine va_get (D := D) (ci := 3) (v := .ref (d 3)) (C := RX3) (T := TX3) (N := 13) hx hb hts inX3_build_X3 hown hK.1 hP 0 rfl rfl 7 (by decide) (hts (.fieldLink RX3 16 "TextEndsModel" "other" "[I") (List.mem_of_getElem? (i := 4) rfl)) (fun _ h9 => h9) rfl dX3_build_251 ?_
                            refine lv_iload_n hx hb dX3_build_254 rfl (lv_at hl 2 rfl) ?_
                            refine z_iald hx hb hK.1 hP 3 0 rfl rfl dX3_build_255 (by omega) (by omega) (by omega) ?_
                            refine z_iast hx hb hK.1 hP hD hS 2 0 rfl rfl dX3_build_256 (by omega) (by omega) (by omega) (fun H locs hP hD hS => ?_)
                            have hP : va_P D vwCl [(d 0, .inr (3, mo d rm sg pr sz bt ps fi ht fo)), (d 1, .inl (cI, nT, .inl (zA T))), (d 2, .inl (cI, nO, .inl (zA (zup oE k2 (tC k2))))), (d 3, .inl (cI, nQ, .inl (zA tC)))] H := hP
                            have hD : va_D A [(d 0, .inr (3, mo d rm sg pr sz bt ps fi ht fo)), (d 1, .inl (cI, nT, .inl (zA T))), (d 2, .inl (cI, nO, .inl (zA (zup oE k2 (tC k2))))), (d 3, .inl (cI, nQ, .inl (zA tC)))] := hD
                            refine lv_iinc (v := zI (k2 + 1)) (lv' := [(2, .int (zI (k2 + 1))), (0, .ref (d 0)), (1, .int (zI w))]) hx hb dX3_build_257 hl (k := 2) rfl (zI_add _ _) (by decide) rfl (fun ls hl => ?_)
                            refine lv_goto (tgt := 237) hx hb dX3_build_260 (by decide) ?_
                            exact ih237 (k2 + 1) (zup oE k2 (tC k2)) _ _ ls (by omega) (by rw [hoE]; exact zfill_up (f := tC) e0.1) (by omega) (hP) (hD) hS (lv_sub hl [1, 2, 0] rfl)
                      exact loop237 _ 0 oB _ _ ls (by omega) (zfill_0 _ _ _) (Nat.lt_succ_self _) hP hD hS (lv_sub hl [1, 2, 0] rfl)
                    · skip
                      obtain ⟨q, hfr⟩ := hfx
                      have hm1 := zmin_or (a := fr + w) (b := sz)
                      have hm2 := zmin_ge (a := fr + w) (b := sz)
                      have hm3 := zmin_or (a := fr + (2 * w)) (b := sz)
                      have hm4 := zmin_ge (a := fr + (2 * w)) (b := sz)
                      have hen1 : zmin (fr + (2 * w)) sz = fr + 2 * w ∨ (zmin (fr + (2 * w)) sz = sz ∧ sz ≤ fr + 2 * w) := by omega
                      have hen2 : zmin (fr + (2 * w)) sz ≤ sz := hm4.2
                      have hs1 : sSrt (zbf sz T) oB fr (zmin (fr + w) sz) := mgB_lo hB hfr hfr0.1 hm2.1 hm2.2
                      have hs2 : sSrt (zbf sz T) oB (zmin (fr + w) sz) (zmin (fr + (2 * w)) sz) := mgB_hi hB hfr hfr0.1 (by omega) hm1 hm4.1 hm4.2 (by omega)
                      refine lv_iload_n hx hb dX3_build_55 rfl (lv_at hl 2 rfl) ?_
                      refine lv_iload_n hx hb dX3_build_56 rfl (lv_at hl 1 rfl) ?_
                      refine z_iadd hx hb dX3_build_57 ?_
                      refine lv_aload_n hx hb dX3_build_58 rfl (lv_at hl 0 rfl) ?_
                      refine va_get (D := D) (ci := 3) (v := .int (zI sz)) (C := RX3) (T := TX3) (N := 13) hx hb hts inX3_build_X3 hown hK.1 hP 0 rfl rfl 4 (by decide) (hts (.fieldLink RX3 32 "TextEndsModel" "size" "I") (List.mem_of_getElem? (i := 2) rfl)) (fun _ h9 => h9) rfl dX3_build_59 ?_
                      have jn75 : W p l e (headSpec wsX3_build ({ frames := 2, cells := 0, slots := 0, locals := 46 })).room s m ([.ref (d 0)] : List Value).toArray below meth c H locs 0 0 (MQ below (zQwi D A (fun (r : Int) (u : (Int → Int) × (Int → Int)) => r = sz ∧ (bt = 0 → sSa sz (zbf sz T) u.1) ∧ (bt ≠ 0 → u.1 = od)) (fun u : (Int → Int) × (Int → Int) => [(d 0, .inr (3, mo d rm sg pr sz 1 ps fi ht fo)), (d 1, .inl (cI, nT, .inl (zA T))), (d 2, .inl (cI, nO, .inl (zA u.1))), (d 3, .inl (cI, nQ, .inl (zA u.2)))])) ([.ref (d 0)] : List Value).toArray s 0 0 A) (F0 m 75 ls [.int (zI (zmin (fr + w) sz))]) := by
                        refine lv_istore_n (lv' := [(3, .int (zI (zmin (fr + w) sz))), (0, .ref (d 0)), (1, .int (zI w)), (2, .int (zI fr))]) hx hb dX3_build_75 rfl hl (by decide) rfl (fun ls hl => ?_)
                        refine lv_iload_n hx hb dX3_build_76 rfl (lv_at hl 3 rfl) ?_
                        refine lv_iconst (v := zI 2) hx hb dX3_build_77 (by first | rfl | decide) ?_
                        refine lv_iload_n hx hb dX3_build_78 rfl (lv_at hl 2 rfl) ?_
                        refine z_imul hx hb dX3_build_79 ?_
                        refine z_iadd hx hb dX3_build_80 ?_
                        refine lv_aload_n hx hb dX3_build_81 rfl (lv_at hl 1 rfl) ?_
                        refine va_get (D := D) (ci := 3) (v := .int (zI sz)) (C := RX3) (T := TX3) (N := 13) hx hb hts inX3_build_X3 hown hK.1 hP 0 rfl rfl 4 (by decide) (hts (.fieldLink RX3 32 "TextEndsModel" "size" "I") (List.mem_of_getElem? (i := 2) rfl)) (fun _ h9 => h9) rfl dX3_build_82 ?_
                        have jn100 : W p l e (headSpec wsX3_build ({ frames := 2, cells := 0, slots := 0, locals := 46 })).room s m ([.ref (d 0)] : List Value).toArray below meth c H locs 0 0 (MQ below (zQwi D A (fun (r : Int) (u : (Int → Int) × (Int → Int)) => r = sz ∧ (bt = 0 → sSa sz (zbf sz T) u.1) ∧ (bt ≠ 0 → u.1 = od)) (fun u : (Int → Int) × (Int → Int) => [(d 0, .inr (3, mo d rm sg pr sz 1 ps fi ht fo)), (d 1, .inl (cI, nT, .inl (zA T))), (d 2, .inl (cI, nO, .inl (zA u.1))), (d 3, .inl (cI, nQ, .inl (zA u.2)))])) ([.ref (d 0)] : List Value).toArray s 0 0 A) (F0 m 100 ls [.int (zI (zmin (fr + (2 * w)) sz))]) := by
                          refine lv_istore (lv' := [(4, .int (zI (zmin (fr + (2 * w)) sz))), (3, .int (zI (zmin (fr + w) sz))), (0, .ref (d 0)), (1, .int (zI w)), (2, .int (zI fr))]) hx hb dX3_build_100 hl (by decide) rfl (fun ls hl => ?_)
                          refine lv_iload_n hx hb dX3_build_102 rfl (lv_at hl 4 rfl) ?_
                          refine lv_istore (lv' := [(5, .int (zI fr)), (4, .int (zI (zmin (fr + (2 * w)) sz))), (3, .int (zI (zmin (fr + w) sz))), (0, .ref (d 0)), (1, .int (zI w)), (2, .int (zI fr))]) hx hb dX3_build_103 hl (by decide) rfl (fun ls hl => ?_)
                          refine lv_iload_n hx hb dX3_build_105 rfl (lv_at hl 2 rfl) ?_
                          refine lv_istore (lv' := [(6, .int (zI (zmin (fr + w) sz))), (5, .int (zI fr)), (4, .int (zI (zmin (fr + (2 * w)) sz))), (3, .int (zI (zmin (fr + w) sz))), (0, .ref (d 0)), (1, .int (zI w)), (2, .int (zI fr))]) hx hb dX3_build_106 hl (by decide) rfl (fun ls hl => ?_)
                          refine lv_iload_n hx hb dX3_build_108 rfl (lv_at hl 6 rfl) ?_
                          refine lv_istore (lv' := [(7, .int (zI fr)), (6, .int (zI (zmin (fr + w) sz))), (5, .int (zI fr)), (4, .int (zI (zmin (fr + (2 * w)) sz))), (3, .int (zI (zmin (fr + w) sz))), (0, .ref (d 0)), (1, .int (zI w)), (2, .int (zI fr))]) hx hb dX3_build_109 hl (by decide) rfl (fun ls hl => ?_)
                          have loop111 : ∀ (nn : Nat) (i : Int) (j : Int) (kk : Int) (tD : Int → Int) (H : Heap) (locs : List Loc) (ls : Array Slot), (mgI (zbf sz T) oB tD fr (zmin (fr + w) sz) (zmin (fr + (2 * w)) sz) i j kk) → (∀ x, 0 ≤ x → x < fr → tD x = tC x) → ((zmin (fr + (2 * w)) sz - kk).toNat) < nn → va_P D vwCl [(d 0, .inr (3, mo d rm sg pr sz bt ps fi ht fo)), (d 1, .inl (cI, nT, .inl (zA T))), (d 2, .inl (cI, nO, .inl (zA oB))), (d 3, .inl (cI, nQ, .inl (zA tD)))] H → va_D A [(d 0, .inr (3, mo d rm sg pr sz bt ps fi ht fo)), (d 1, .inl (cI, nT, .inl (zA T))), (d 2, .inl (cI, nO, .inl (zA oB))), (d 3, .inl (cI, nQ, .inl (zA tD)))] → va_S A s.heap H locs → lv_has ls 9 [(0, .ref (d 0)), (1, .int (zI w)), (2, .int (zI fr)), (3, .int (zI (zmin (fr + w) sz))), (4, .int (zI (zmin (fr + (2 * w)) sz))), (5, .int (zI i)), (6, .int (zI j)), (7, .int (zI kk))] → W p l e (headSpec wsX3_build ({ frames := 2, cells := 0, slots := 0, locals := 46 })).room s m ([.ref (d 0)] : List Value).toArray below meth c H locs 0 0 (MQ below (zQwi D A (fun (r : Int) (u : (Int → Int) × (Int → Int)) => r = sz ∧ (bt = 0 → sSa sz (zbf sz T) u.1) ∧ (bt ≠ 0 → u.1 = od)) (fun u : (Int → Int) × (Int → Int) => [(d 0, .inr (3, mo d rm sg pr sz 1 ps fi ht fo)), (d 1, .inl (cI, nT, .inl (zA T))), (d 2, .inl (cI, nO, .inl (zA u.1))), (d 3, .inl (cI, nQ, .inl (zA u.2)))])) ([.ref (d 0)] : List Value).toArray s 0 0 A) (F0 m 111 ls []) := by
                            intro nn
                            induction nn with
                            | zero =>
                              intros
                              exact absurd (by assumption : _ < 0) (Nat.not_lt_zero _)
                            | succ nn ih111 =>
                              intro i j kk tD H locs ls hI hsame hmu hP hD hS hl
                              have hIa := hI.1
                              have hIb := hI.2.1
                              have hIc := hI.2.2.1
                              have hId := hI.2.2.2.1
                              have hIe := hI.2.2.2.2.1
                              refine lv_iload hx hb dX3_build_111 (lv_at hl 7 rfl) ?_
                              refine lv_iload hx hb dX3_build_113 (lv_at hl 4 rfl) ?_
                              refine z_icmp_ge (tgt := 226) hx hb dX3_build_115 (by decide) (by omega) (by omega) (fun h_8 => ?_) (fun h_8 => ?_)
                              · skip
                                refine lv_iload_n hx hb dX3_build_226 rfl (lv_at hl 2 rfl) ?_
                                refine lv_iconst (v := zI 2) hx hb dX3_build_227 (by first | rfl | decide) ?_
                                refine lv_iload_n hx hb dX3_build_228 rfl (lv_at hl 1 rfl) ?_
                                refine z_imul hx hb dX3_build_229 ?_
                                refine z_iadd hx hb dX3_build_230 ?_
                                refine lv_istore_n (lv' := [(2, .int (zI (fr + (2 * w)))), (0, .ref (d 0)), (1, .int (zI w)), (3, .int (zI (zmin (fr + w) sz))), (4, .int (zI (zmin (fr + (2 * w)) sz))), (5, .int (zI i)), (6, .int (zI j)), (7, .int (zI kk))]) hx hb dX3_build_231 rfl hl (by decide) rfl (fun ls hl => ?_)
                                refine lv_goto (tgt := 47) hx hb dX3_build_232 (by decide) ?_
                                exact ih47 (fr + (2 * w)) tD _ _ ls (by omega) (⟨q + 1, by rw [Int.add_mul, ← hfr]; omega⟩) (mgC_s hC hfr hfr0.1 (by omega) hs.1 hen1 hen2 hI (by omega) hsame) (by omega) (hP) (hD) hS (lv_sub hl [1, 2, 0] rfl)
                              · skip
                                refine lv_iload hx hb dX3_build_118 (lv_at hl 6 rfl) ?_
                                refine lv_iload hx hb dX3_build_120 (lv_at hl 4 rfl) ?_
                                refine z_icmp_eq (tgt := 152) hx hb dX3_build_122 (by decide) (by omega) (by omega) (fun h_9 => ?_) (fun h_9 => ?_)
                                · skip
                                  have hlc : j = zmin (fr + (2 * w)) sz ∨ zbf sz T (oB i) (oB j) = true := Or.inl h_9
                                  have hje := h_9
                                  have hil : i < zmin (fr + w) sz := by omega
                                  refine lv_iconst (v := zI 1) hx hb dX3_build_152 (by first | rfl | decide) ?_
                                  refine lv_goto (tgt := 157) hx hb dX3_build_153 (by decide) ?_
                                  refine lv_istore (lv' := [(8, .int (zI 1)), (0, .ref (d 0)), (1, .int (zI w)), (2, .int (zI fr)), (3, .int (zI (zmin (fr + w) sz))), (4, .int (zI (zmin (fr + (2 * w)) sz))), (5, .int (zI i)), (6, .int (zI j)), (7, .int (zI kk))]) hx hb dX3_build_157 hl (by decide) rfl (fun ls hl => ?_)
                                  refine lv_aload_n hx hb dX3_build_159 rfl (lv_at hl 1 rfl) ?_
                                  refine va_get (D := D) (ci := 3) (v := .ref (d 3)) (C := RX3) (T := TX3) (N := 13) hx hb hts inX3_build_X3 hown hK.1 hP 0 rfl rfl 7 (by decide) (hts (.fieldLink RX3 16 "TextEndsModel" "other" "[I") (List.mem_of_getElem? (i := 4) rfl)) (fun _ h9 => h9) rfl dX3_build_160 ?_
                                  refine lv_iload hx hb dX3_build_163 (lv_at hl 8 rfl) ?_
                                  refine lv_iload hx hb dX3_build_165 (lv_at hl 0 rfl) ?_
                                  refine z_if_eq (tgt := 180) hx hb dX3_build_167 (by decide) (by omega) (fun h_10 => ?_) (fun h_10 => ?_)
                                  · skip
                                    exact absurd h_10 (by decide)
                                  · skip
                                    refine lv_aload_n hx hb dX3_build_170 rfl (lv_at hl 1 rfl) ?_
                                    refine va_get (D := D) (ci := 3) (v := .ref (d 2)) (C := RX3) (T := TX3) (N := 13) hx hb hts inX3_build_X3 hown hK.1 hP 0 rfl rfl 6 (by decide) (hts (.fieldLink RX3 13 "TextEndsModel" "order" "[I") (List.mem_of_getElem? (i := 3) rfl)) (fun _ h9 => h9) rfl dX3_build_171 ?_
                                    refine lv_iload hx hb dX3_build_174 (lv_at hl 6 rfl) ?_
                                    refine z_iald hx hb hK.1 hP 2 0 rfl rfl dX3_build_176 (by omega) (by omega) (by omega) ?_
                                    refine lv_goto (tgt := 187) hx hb dX3_build_177 (by decide) ?_
                                    refine z_iast hx hb hK.1 hP hD hS 3 0 rfl rfl dX3_build_187 (by omega) (by omega) (by omega) (fun H locs hP hD hS => ?_)
                                    have hP : va_P D vwCl [(d 0, .inr (3, mo d rm sg pr sz bt ps fi ht fo)), (d 1, .inl (cI, nT, .inl (zA T))), (d 2, .inl (cI, nO, .inl (zA oB))), (d 3, .inl (cI, nQ, .inl (zA (zup tD kk (oB i)))))] H := hP
                                    have hD : va_D A [(d 0, .inr (3, mo d rm sg pr sz bt ps fi ht fo)), (d 1, .inl (cI, nT, .inl (zA T))), (d 2, .inl (cI, nO, .inl (zA oB))), (d 3, .inl (cI, nQ, .inl (zA (zup tD kk (oB i)))))] := hD
                                    refine lv_iload hx hb dX3_build_188 (lv_at hl 0 rfl) ?_
                                    refine z_if_eq (tgt := 200) hx hb dX3_build_190 (by decide) (by omega) (fun h_11 => ?_) (fun h_11 => ?_)
                                    · skip
                                      exact absurd h_11 (by decide)
                                    · skip
                                      refine lv_iload hx hb dX3_build_193 (lv_at hl 6 rfl) ?_
                                      refine lv_iconst (v := zI 1) hx hb dX3_build_195 (by first | rfl | decide) ?_
                                      refine z_iadd hx hb dX3_build_196 ?_
                                      refine lv_goto (tgt := 202) hx hb dX3_build_197 (by decide) ?_
                                      refine lv_istore (lv' := [(5, .int (zI (i + 1))), (8, .int (zI 1)), (0, .ref (d 0)), (1, .int (zI w)), (2, .int (zI fr)), (3, .int (zI (zmin (fr + w) sz))), (4, .int (zI (zmin (fr + (2 * w)) sz))), (6, .int (zI j)), (7, .int (zI kk))]) hx hb dX3_build_202 hl (by decide) rfl (fun ls hl => ?_)
                                      refine lv_iload hx hb dX3_build_204 (lv_at hl 1 rfl) ?_
                                      refine z_if_eq (tgt := 214) hx hb dX3_build_206 (by decide) (by omega) (fun h_12 => ?_) (fun h_12 => ?_)
                                      · skip
                                        exact absurd h_12 (by decide)
                                      · skip
                                        refine lv_iload hx hb dX3_build_209 (lv_at hl 7 rfl) ?_
                                        refine lv_goto (tgt := 218) hx hb dX3_build_211 (by decide) ?_
                                        refine lv_istore (lv' := [(6, .int (zI j)), (5, .int (zI (i + 1))), (8, .int (zI 1)), (0, .ref (d 0)), (1, .int (zI w)), (2, .int (zI fr)), (3, .int (zI (zmin (fr + w) sz))), (4, .int (zI (zmin (fr + (2 * w)) sz))), (7, .int (zI kk))]) hx hb dX3_build_218 hl (by decide) rfl (fun ls hl => ?_)
                                        refine lv_iinc (v := zI (kk + 1)) (lv' := [(7, .int (zI (kk + 1))), (6, .int (zI j)), (5, .int (zI (i + 1))), (8, .int (zI 1)), (0, .ref (d 0)), (1, .int (zI w)), (2, .int (zI fr)), (3, .int (zI (zmin (fr + w) sz))), (4, .int (zI (zmin (fr + (2 * w)) sz)))]) hx hb dX3_build_220 hl (k := 8) rfl (zI_add _ _) (by decide) rfl (fun ls hl => ?_)
                                        refine lv_goto (tgt := 111) hx hb dX3_build_223 (by decide) ?_
                                        exact ih111 (i + 1) j (kk + 1) (zup tD kk (oB i)) _ _ ls (by first | exact mg_left hord hs.1 hfr0.1 hen2 hs1 hs2 hI (by omega) hil hlc | exact mg_right hord hs hfr0.1 hen2 hs1 hs2 hI (by omega) hjl hrc) (fun x a b => by rw [zup_ne (by have := hI.1; have := hI.2.2.1; have := hI.2.2.2.2.1; omega)]; exact hsame x a b) (by omega) (hP) (hD) hS (lv_sub hl [4, 5, 6, 7, 8, 2, 1, 0] rfl)
                                · skip
                                  have hjl : j < zmin (fr + (2 * w)) sz := by omega
                                  refine lv_iload hx hb dX3_build_125 (lv_at hl 5 rfl) ?_
                                  refine lv_iload_n hx hb dX3_build_127 rfl (lv_at hl 3 rfl) ?_
                                  refine z_icmp_ge (tgt := 156) hx hb dX3_build_128 (by decide) (by omega) (by omega) (fun h_13 => ?_) (fun h_13 => ?_)
                                  · skip
                                    have hrc : zmin (fr + w) sz ≤ i ∨ zbf sz T (oB i) (oB j) = false := Or.inl h_13
                                    refine lv_iconst (v := zI 0) hx hb dX3_build_156 (by first | rfl | decide) ?_
                                    refine lv_istore (lv' := [(8, .int (zI 0)), (0, .ref (d 0)), (1, .int (zI w)), (2, .int (zI fr)), (3, .int (zI (zmin (fr + w) sz))), (4, .int (zI (zmin (fr + (2 * w)) sz))), (5, .int (zI i)), (6, .int (zI j)), (7, .int (zI kk))]) hx hb dX3_build_157 hl (by decide) rfl (fun ls hl => ?_)
                                    refine lv_aload_n hx hb dX3_build_159 rfl (lv_at hl 1 rfl) ?_
                                    refine va_get (D := D) (ci := 3) (v := .ref (d 3)) (C := RX3) (T := TX3) (N := 13) hx hb hts inX3_build_X3 hown hK.1 hP 0 rfl rfl 7 (by decide) (hts (.fieldLink RX3 16 "TextEndsModel" "other" "[I") (List.mem_of_getElem? (i := 4) rfl)) (fun _ h9 => h9) rfl dX3_build_160 ?_
                                    refine lv_iload hx hb dX3_build_163 (lv_at hl 8 rfl) ?_
                                    refine lv_iload hx hb dX3_build_165 (lv_at hl 0 rfl) ?_
                                    refine z_if_eq (tgt := 180) hx hb dX3_build_167 (by decide) (by omega) (fun h_14 => ?_) (fun h_14 => ?_)
                                    · skip
                                      refine lv_aload_n hx hb dX3_build_180 rfl (lv_at hl 1 rfl) ?_
                                      refine va_get (D := D) (ci := 3) (v := .ref (d 2)) (C := RX3) (T := TX3) (N := 13) hx hb hts inX3_build_X3 hown hK.1 hP 0 rfl rfl 6 (by decide) (hts (.fieldLink RX3 13 "TextEndsModel" "order" "[I") (List.mem_of_getElem? (i := 3) rfl)) (fun _ h9 => h9) rfl dX3_build_181 ?_
                                      refine lv_iload hx hb dX3_build_184 (lv_at hl 7 rfl) ?_
                                      refine z_iald hx hb hK.1 hP 2 0 rfl rfl dX3_build_186 (by omega) (by omega) (by omega) ?_
                                      refine z_iast hx hb hK.1 hP hD hS 3 0 rfl rfl dX3_build_187 (by omega) (by omega) (by omega) (fun H locs hP hD hS => ?_)
                                      have hP : va_P D vwCl [(d 0, .inr (3, mo d rm sg pr sz bt ps fi ht fo)), (d 1, .inl (cI, nT, .inl (zA T))), (d 2, .inl (cI, nO, .inl (zA oB))), (d 3, .inl (cI, nQ, .inl (zA (zup tD kk (oB j)))))] H := hP
                                      have hD : va_D A [(d 0, .inr (3, mo d rm sg pr sz bt ps fi ht fo)), (d 1, .inl (cI, nT, .inl (zA T))), (d 2, .inl (cI, nO, .inl (zA oB))), (d 3, .inl (cI, nQ, .inl (zA (zup tD kk (oB j)))))] := hD
                                      refine lv_iload hx hb dX3_build_188 (lv_at hl 0 rfl) ?_
                                      refine z_if_eq (tgt := 200) hx hb dX3_build_190 (by decide) (by omega) (fun h_15 => ?_) (fun h_15 => ?_)
                                      · skip
                                        refine lv_iload hx hb dX3_build_200 (lv_at hl 6 rfl) ?_
                                        refine lv_istore (lv' := [(5, .int (zI i)), (8, .int (zI 0)), (0, .ref (d 0)), (1, .int (zI w)), (2, .int (zI fr)), (3, .int (zI (zmin (fr + w) sz))), (4, .int (zI (zmin (fr + (2 * w)) sz))), (6, .int (zI j)), (7, .int (zI kk))]) hx hb dX3_build_202 hl (by decide) rfl (fun ls hl => ?_)
                                        refine lv_iload hx hb dX3_build_204 (lv_at hl 1 rfl) ?_
                                        refine z_if_eq (tgt := 214) hx hb dX3_build_206 (by decide) (by omega) (fun h_16 => ?_) (fun h_16 => ?_)
                                        · skip
                                          refine lv_iload hx hb dX3_build_214 (lv_at hl 7 rfl) ?_
                                          refine lv_iconst (v := zI 1) hx hb dX3_build_216 (by first | rfl | decide) ?_
                                          refine z_iadd hx hb dX3_build_217 ?_
                                          refine lv_istore (lv' := [(6, .int (zI (j + 1))), (5, .int (zI i)), (8, .int (zI 0)), (0, .ref (d 0)), (1, .int (zI w)), (2, .int (zI fr)), (3, .int (zI (zmin (fr + w) sz))), (4, .int (zI (zmin (fr + (2 * w)) sz))), (7, .int (zI kk))]) hx hb dX3_build_218 hl (by decide) rfl (fun ls hl => ?_)
                                          refine lv_iinc (v := zI (kk + 1)) (lv' := [(7, .int (zI (kk + 1))), (6, .int (zI (j + 1))), (5, .int (zI i)), (8, .int (zI 0)), (0, .ref (d 0)), (1, .int (zI w)), (2, .int (zI fr)), (3, .int (zI (zmin (fr + w) sz))), (4, .int (zI (zmin (fr + (2 * w)) sz)))]) hx hb dX3_build_220 hl (k := 8) rfl (zI_add _ _) (by decide) rfl (fun ls hl => ?_)
                                          refine lv_goto (tgt := 111) hx hb dX3_build_223 (by decide) ?_
                                          exact ih111 i (j + 1) (kk + 1) (zup tD kk (oB j)) _ _ ls (by first | exact mg_left hord hs.1 hfr0.1 hen2 hs1 hs2 hI (by omega) hil hlc | exact mg_right hord hs hfr0.1 hen2 hs1 hs2 hI (by omega) hjl hrc) (fun x a b => by rw [zup_ne (by have := hI.1; have := hI.2.2.1; have := hI.2.2.2.2.1; omega)]; exact hsame x a b) (by omega) (hP) (hD) hS (lv_sub hl [4, 5, 6, 7, 8, 2, 1, 0] rfl)
                                        · skip
                                          exact absurd h_16 (by decide)
                                      · skip
                                        exact absurd h_15 (by decide)
                                    · skip
                                      exact absurd h_14 (by decide)
                                  · skip
                                    have hil : i < zmin (fr + w) sz := h_13
                                    have g1 := hs.1 i (by omega) (by omega)
                                    have g2 := hs.1 j (by omega) (by omega)
                                    refine lv_aload_n hx hb dX3_build_131 rfl (lv_at hl 0 rfl) ?_
                                    refine lv_aload_n hx hb dX3_build_132 rfl (lv_at hl 0 rfl) ?_
                                    refine va_get (D := D) (ci := 3) (v := .ref (d 2)) (C := RX3) (T := TX3) (N := 13) hx hb hts inX3_build_X3 hown hK.1 hP 0 rfl rfl 6 (by decide) (hts (.fieldLink RX3 13 "TextEndsModel" "order" "[I") (List.mem_of_getElem? (i := 3) rfl)) (fun _ h9 => h9) rfl dX3_build_133 ?_
                                    refine lv_iload hx hb dX3_build_136 (lv_at hl 5 rfl) ?_
                                    refine z_iald hx hb hK.1 hP 2 0 rfl rfl dX3_build_138 (by omega) (by omega) (by omega) ?_
                                    refine lv_aload_n hx hb dX3_build_139 rfl (lv_at hl 0 rfl) ?_
                                    refine va_get (D := D) (ci := 3) (v := .ref (d 2)) (C := RX3) (T := TX3) (N := 13) hx hb hts inX3_build_X3 hown hK.1 hP 0 rfl rfl 6 (by decide) (hts (.fieldLink RX3 13 "TextEndsModel" "order" "[I") (List.mem_of_getElem? (i := 3) rfl)) (fun _ h9 => h9) rfl dX3_build_140 ?_
                                    refine lv_iload hx hb dX3_build_143 (lv_at hl 6 rfl) ?_
                                    refine z_iald hx hb hK.1 hP 2 0 rfl rfl dX3_build_145 (by omega) (by omega) (by omega) ?_
                                    refine z_cr (va_runV (As := [.int (zI (oB i)), .int (zI (oB j))]) (rest := []) ⟨hx, hb, hml, hown, hts⟩ (kX3_isBefore l D cI cZ cL d rm sg pr sz bt ps fi ht fo nT T (oB i) (oB j) (by omega) (by omega) (by omega) (hT) (by omega) (by omega)) (cwV 2 hts gX3_build_X3_isBefore rfl rfl rfl (by decide +kernel) ⟨Nat.le_of_ble_eq_true rfl, Nat.le_of_ble_eq_true rfl⟩) (zPr_preV (ci := 3) (q0 := 0) hK (hP.sub (ws' := [(d 0, .inr (3, mo d rm sg pr sz bt ps fi ht fo)), (d 1, .inl (cI, nT, .inl (zA T)))]) [0, 1] rfl) rfl rfl) rfl rfl hl.1 rfl (lv_room (Nat.le_of_ble_eq_true rfl)) dX3_build_146 ⟨Nat.zero_le _, Nat.zero_le _⟩) (fun r hr_ => ?_)
                                    subst hr_
                                    refine z_if_eq (tgt := 156) hx hb dX3_build_149 (by decide) (bi_R _) (fun h_17 => ?_) (fun h_17 => ?_)
                                    · skip
                                      have hrc : zmin (fr + w) sz ≤ i ∨ zbf sz T (oB i) (oB j) = false := Or.inr (bi_eq h_17)
                                      refine lv_iconst (v := zI 0) hx hb dX3_build_156 (by first | rfl | decide) ?_
                                      refine lv_istore (lv' := [(8, .int (zI 0)), (0, .ref (d 0)), (1, .int (zI w)), (2, .int (zI fr)), (3, .int (zI (zmin (fr + w) sz))), (4, .int (zI (zmin (fr + (2 * w)) sz))), (5, .int (zI i)), (6, .int (zI j)), (7, .int (zI kk))]) hx hb dX3_build_157 hl (by decide) rfl (fun ls hl => ?_)
                                      refine lv_aload_n hx hb dX3_build_159 rfl (lv_at hl 1 rfl) ?_
                                      refine va_get (D := D) (ci := 3) (v := .ref (d 3)) (C := RX3) (T := TX3) (N := 13) hx hb hts inX3_build_X3 hown hK.1 hP 0 rfl rfl 7 (by decide) (hts (.fieldLink RX3 16 "TextEndsModel" "other" "[I") (List.mem_of_getElem? (i := 4) rfl)) (fun _ h9 => h9) rfl dX3_build_160 ?_
                                      refine lv_iload hx hb dX3_build_163 (lv_at hl 8 rfl) ?_
                                      refine lv_iload hx hb dX3_build_165 (lv_at hl 0 rfl) ?_
                                      refine z_if_eq (tgt := 180) hx hb dX3_build_167 (by decide) (by omega) (fun h_18 => ?_) (fun h_18 => ?_)
                                      · skip
                                        refine lv_aload_n hx hb dX3_build_180 rfl (lv_at hl 1 rfl) ?_
                                        refine va_get (D := D) (ci := 3) (v := .ref (d 2)) (C := RX3) (T := TX3) (N := 13) hx hb hts inX3_build_X3 hown hK.1 hP 0 rfl rfl 6 (by decide) (hts (.fieldLink RX3 13 "TextEndsModel" "order" "[I") (List.mem_of_getElem? (i := 3) rfl)) (fun _ h9 => h9) rfl dX3_build_181 ?_
                                        refine lv_iload hx hb dX3_build_184 (lv_at hl 7 rfl) ?_
                                        refine z_iald hx hb hK.1 hP 2 0 rfl rfl dX3_build_186 (by omega) (by omega) (by omega) ?_
                                        refine z_iast hx hb hK.1 hP hD hS 3 0 rfl rfl dX3_build_187 (by omega) (by omega) (by omega) (fun H locs hP hD hS => ?_)
                                        have hP : va_P D vwCl [(d 0, .inr (3, mo d rm sg pr sz bt ps fi ht fo)), (d 1, .inl (cI, nT, .inl (zA T))), (d 2, .inl (cI, nO, .inl (zA oB))), (d 3, .inl (cI, nQ, .inl (zA (zup tD kk (oB j)))))] H := hP
                                        have hD : va_D A [(d 0, .inr (3, mo d rm sg pr sz bt ps fi ht fo)), (d 1, .inl (cI, nT, .inl (zA T))), (d 2, .inl (cI, nO, .inl (zA oB))), (d 3, .inl (cI, nQ, .inl (zA (zup tD kk (oB j)))))] := hD
                                        refine lv_iload hx hb dX3_build_188 (lv_at hl 0 rfl) ?_
                                        refine z_if_eq (tgt := 200) hx hb dX3_build_190 (by decide) (by omega) (fun h_19 => ?_) (fun h_19 => ?_)
                                        · skip
                                          refine lv_iload hx hb dX3_build_200 (lv_at hl 6 rfl) ?_
                                          refine lv_istore (lv' := [(5, .int (zI i)), (8, .int (zI 0)), (0, .ref (d 0)), (1, .int (zI w)), (2, .int (zI fr)), (3, .int (zI (zmin (fr + w) sz))), (4, .int (zI (zmin (fr + (2 * w)) sz))), (6, .int (zI j)), (7, .int (zI kk))]) hx hb dX3_build_202 hl (by decide) rfl (fun ls hl => ?_)
                                          refine lv_iload hx hb dX3_build_204 (lv_at hl 1 rfl) ?_
                                          refine z_if_eq (tgt := 214) hx hb dX3_build_206 (by decide) (by omega) (fun h_20 => ?_) (fun h_20 => ?_)
                                          · skip
                                            refine lv_iload hx hb dX3_build_214 (lv_at hl 7 rfl) ?_
                                            refine lv_iconst (v := zI 1) hx hb dX3_build_216 (by first | rfl | decide) ?_
                                            refine z_iadd hx hb dX3_build_217 ?_
                                            refine lv_istore (lv' := [(6, .int (zI (j + 1))), (5, .int (zI i)), (8, .int (zI 0)), (0, .ref (d 0)), (1, .int (zI w)), (2, .int (zI fr)), (3, .int (zI (zmin (fr + w) sz))), (4, .int (zI (zmin (fr + (2 * w)) sz))), (7, .int (zI kk))]) hx hb dX3_build_218 hl (by decide) rfl (fun ls hl => ?_)
                                            refine lv_iinc (v := zI (kk + 1)) (lv' := [(7, .int (zI (kk + 1))), (6, .int (zI (j + 1))), (5, .int (zI i)), (8, .int (zI 0)), (0, .ref (d 0)), (1, .int (zI w)), (2, .int (zI fr)), (3, .int (zI (zmin (fr + w) sz))), (4, .int (zI (zmin (fr + (2 * w)) sz)))]) hx hb dX3_build_220 hl (k := 8) rfl (zI_add _ _) (by decide) rfl (fun ls hl => ?_)
                                            refine lv_goto (tgt := 111) hx hb dX3_build_223 (by decide) ?_
                                            exact ih111 i (j + 1) (kk + 1) (zup tD kk (oB j)) _ _ ls (by first | exact mg_left hord hs.1 hfr0.1 hen2 hs1 hs2 hI (by omega) hil hlc | exact mg_right hord hs hfr0.1 hen2 hs1 hs2 hI (by omega) hjl hrc) (fun x a b => by rw [zup_ne (by have := hI.1; have := hI.2.2.1; have := hI.2.2.2.2.1; omega)]; exact hsame x a b) (by omega) (hP) (hD) hS (lv_sub hl [4, 5, 6, 7, 8, 2, 1, 0] rfl)
                                          · skip
                                            exact absurd h_20 (by decide)
                                        · skip
                                          exact absurd h_19 (by decide)
                                      · skip
                                        exact absurd h_18 (by decide)
                                    · skip
                                      have hlc : j = zmin (fr + (2 * w)) sz ∨ zbf sz T (oB i) (oB j) = true := Or.inr (bi_ne h_17)
                                      refine lv_iconst (v := zI 1) hx hb dX3_build_152 (by first | rfl | decide) ?_
                                      refine lv_goto (tgt := 157) hx hb dX3_build_153 (by decide) ?_
                                      refine lv_istore (lv' := [(8, .int (zI 1)), (0, .ref (d 0)), (1, .int (zI w)), (2, .int (zI fr)), (3, .int (zI (zmin (fr + w) sz))), (4, .int (zI (zmin (fr + (2 * w)) sz))), (5, .int (zI i)), (6, .int (zI j)), (7, .int (zI kk))]) hx hb dX3_build_157 hl (by decide) rfl (fun ls hl => ?_)
                                      refine lv_aload_n hx hb dX3_build_159 rfl (lv_at hl 1 rfl) ?_
                                      refine va_get (D := D) (ci := 3) (v := .ref (d 3)) (C := RX3) (T := TX3) (N := 13) hx hb hts inX3_build_X3 hown hK.1 hP 0 rfl rfl 7 (by decide) (hts (.fieldLink RX3 16 "TextEndsModel" "other" "[I") (List.mem_of_getElem? (i := 4) rfl)) (fun _ h9 => h9) rfl dX3_build_160 ?_
                                      refine lv_iload hx hb dX3_build_163 (lv_at hl 8 rfl) ?_
                                      refine lv_iload hx hb dX3_build_165 (lv_at hl 0 rfl) ?_
                                      refine z_if_eq (tgt := 180) hx hb dX3_build_167 (by decide) (by omega) (fun h_21 => ?_) (fun h_21 => ?_)
                                      · skip
                                        exact absurd h_21 (by decide)
                                      · skip
                                        refine lv_aload_n hx hb dX3_build_170 rfl (lv_at hl 1 rfl) ?_
                                        refine va_get (D := D) (ci := 3) (v := .ref (d 2)) (C := RX3) (T := TX3) (N := 13) hx hb hts inX3_build_X3 hown hK.1 hP 0 rfl rfl 6 (by decide) (hts (.fieldLink RX3 13 "TextEndsModel" "order" "[I") (List.mem_of_getElem? (i := 3) rfl)) (fun _ h9 => h9) rfl dX3_build_171 ?_
                                        refine lv_iload hx hb dX3_build_174 (lv_at hl 6 rfl) ?_
                                        refine z_iald hx hb hK.1 hP 2 0 rfl rfl dX3_build_176 (by omega) (by omega) (by omega) ?_
                                        refine lv_goto (tgt := 187) hx hb dX3_build_177 (by decide) ?_
                                        refine z_iast hx hb hK.1 hP hD hS 3 0 rfl rfl dX3_build_187 (by omega) (by omega) (by omega) (fun H locs hP hD hS => ?_)
                                        have hP : va_P D vwCl [(d 0, .inr (3, mo d rm sg pr sz bt ps fi ht fo)), (d 1, .inl (cI, nT, .inl (zA T))), (d 2, .inl (cI, nO, .inl (zA oB))), (d 3, .inl (cI, nQ, .inl (zA (zup tD kk (oB i)))))] H := hP
                                        have hD : va_D A [(d 0, .inr (3, mo d rm sg pr sz bt ps fi ht fo)), (d 1, .inl (cI, nT, .inl (zA T))), (d 2, .inl (cI, nO, .inl (zA oB))), (d 3, .inl (cI, nQ, .inl (zA (zup tD kk (oB i)))))] := hD
                                        refine lv_iload hx hb dX3_build_188 (lv_at hl 0 rfl) ?_
                                        refine z_if_eq (tgt := 200) hx hb dX3_build_190 (by decide) (by omega) (fun h_22 => ?_) (fun h_22 => ?_)
                                        · skip
                                          exact absurd h_22 (by decide)
                                        · skip
                                          refine lv_iload hx hb dX3_build_193 (lv_at hl 6 rfl) ?_
                                          refine lv_iconst (v := zI 1) hx hb dX3_build_195 (by first | rfl | decide) ?_
                                          refine z_iadd hx hb dX3_build_196 ?_
                                          refine lv_goto (tgt := 202) hx hb dX3_build_197 (by decide) ?_
                                          refine lv_istore (lv' := [(5, .int (zI (i + 1))), (8, .int (zI 1)), (0, .ref (d 0)), (1, .int (zI w)), (2, .int (zI fr)), (3, .int (zI (zmin (fr + w) sz))), (4, .int (zI (zmin (fr + (2 * w)) sz))), (6, .int (zI j)), (7, .int (zI kk))]) hx hb dX3_build_202 hl (by decide) rfl (fun ls hl => ?_)
                                          refine lv_iload hx hb dX3_build_204 (lv_at hl 1 rfl) ?_
                                          refine z_if_eq (tgt := 214) hx hb dX3_build_206 (by decide) (by omega) (fun h_23 => ?_) (fun h_23 => ?_)
                                          · skip
                                            exact absurd h_23 (by decide)
                                          · skip
                                            refine lv_iload hx hb dX3_build_209 (lv_at hl 7 rfl) ?_
                                            refine lv_goto (tgt := 218) hx hb dX3_build_211 (by decide) ?_
                                            refine lv_istore (lv' := [(6, .int (zI j)), (5, .int (zI (i + 1))), (8, .int (zI 1)), (0, .ref (d 0)), (1, .int (zI w)), (2, .int (zI fr)), (3, .int (zI (zmin (fr + w) sz))), (4, .int (zI (zmin (fr + (2 * w)) sz))), (7, .int (zI kk))]) hx hb dX3_build_218 hl (by decide) rfl (fun ls hl => ?_)
                                            refine lv_iinc (v := zI (kk + 1)) (lv' := [(7, .int (zI (kk + 1))), (6, .int (zI j)), (5, .int (zI (i + 1))), (8, .int (zI 1)), (0, .ref (d 0)), (1, .int (zI w)), (2, .int (zI fr)), (3, .int (zI (zmin (fr + w) sz))), (4, .int (zI (zmin (fr + (2 * w)) sz)))]) hx hb dX3_build_220 hl (k := 8) rfl (zI_add _ _) (by decide) rfl (fun ls hl => ?_)
                                            refine lv_goto (tgt := 111) hx hb dX3_build_223 (by decide) ?_
                                            exact ih111 (i + 1) j (kk + 1) (zup tD kk (oB i)) _ _ ls (by first | exact mg_left hord hs.1 hfr0.1 hen2 hs1 hs2 hI (by omega) hil hlc | exact mg_right hord hs hfr0.1 hen2 hs1 hs2 hI (by omega) hjl hrc) (fun x a b => by rw [zup_ne (by have := hI.1; have := hI.2.2.1; have := hI.2.2.2.2.1; omega)]; exact hsame x a b) (by omega) (hP) (hD) hS (lv_sub hl [4, 5, 6, 7, 8, 2, 1, 0] rfl)
                          exact loop111 _ fr (zmin (fr + w) sz) fr tC _ _ ls (mg_0 (by omega) (by omega)) (fun x _ _ => rfl) (Nat.lt_succ_self _) hP hD hS (lv_sub hl [5, 6, 7, 4, 3, 2, 1, 0] rfl)
                        refine z_icmp_ge (tgt := 96) hx hb dX3_build_85 (by decide) (by omega) (by omega) (fun h_24 => ?_) (fun h_24 => ?_)
                        · skip
                          refine lv_aload_n hx hb dX3_build_96 rfl (lv_at hl 1 rfl) ?_
                          refine va_get (D := D) (ci := 3) (v := .int (zI sz)) (C := RX3) (T := TX3) (N := 13) hx hb hts inX3_build_X3 hown hK.1 hP 0 rfl rfl 4 (by decide) (hts (.fieldLink RX3 32 "TextEndsModel" "size" "I") (List.mem_of_getElem? (i := 2) rfl)) (fun _ h9 => h9) rfl dX3_build_97 ?_
                          refine z_top (b := zmin (fr + (2 * w)) sz) (by unfold zmin; first | rw [if_neg (by omega)] | (split <;> omega)) ?_
                          exact jn100
                        · skip
                          refine lv_iload_n hx hb dX3_build_88 rfl (lv_at hl 3 rfl) ?_
                          refine lv_iconst (v := zI 2) hx hb dX3_build_89 (by first | rfl | decide) ?_
                          refine lv_iload_n hx hb dX3_build_90 rfl (lv_at hl 2 rfl) ?_
                          refine z_imul hx hb dX3_build_91 ?_
                          refine z_iadd hx hb dX3_build_92 ?_
                          refine lv_goto (tgt := 100) hx hb dX3_build_93 (by decide) ?_
                          refine z_top (b := zmin (fr + (2 * w)) sz) (by unfold zmin; first | rw [if_neg (by omega)] | (split <;> omega)) ?_
                          exact jn100
                      refine z_icmp_ge (tgt := 71) hx hb dX3_build_62 (by decide) (by omega) (by omega) (fun h_25 => ?_) (fun h_25 => ?_)
                      · skip
                        refine lv_aload_n hx hb dX3_build_71 rfl (lv_at hl 0 rfl) ?_
                        refine va_get (D := D) (ci := 3) (v := .int (zI sz)) (C := RX3) (T := TX3) (N := 13) hx hb hts inX3_build_X3 hown hK.1 hP 0 rfl rfl 4 (by decide) (hts (.fieldLink RX3 32 "TextEndsModel" "size" "I") (List.mem_of_getElem? (i := 2) rfl)) (fun _ h9 => h9) rfl dX3_build_72 ?_
                        refine z_top (b := zmin (fr + w) sz) (by unfold zmin; first | rw [if_neg (by omega)] | (split <;> omega)) ?_
                        exact jn75
                      · skip
                        refine lv_iload_n hx hb dX3_build_65 rfl (lv_at hl 2 rfl) ?_
                        refine lv_iload_n hx hb dX3_build_66 rfl (lv_at hl 1 rfl) ?_
                        refine z_iadd hx hb dX3_build_67 ?_
                        refine lv_goto (tgt := 75) hx hb dX3_build_68 (by decide) ?_
                        refine z_top (b := zmin (fr + w) sz) (by unfold zmin; first | rw [if_neg (by omega)] | (split <;> omega)) ?_
                        exact jn75
                exact loop47 _ 0 tB _ _ ls (by omega) (⟨0, by omega⟩) (mgC_0) (Nat.lt_succ_self _) hP hD hS (lv_sub hl [1, 2, 0] rfl)
          exact loop37 _ 1 oA ot _ _ ls (by omega) (mgB_1) (hsr) (Nat.lt_succ_self _) hP hD hS (lv_sub hl [1, 0] rfl)
        · skip
          refine lv_aload_n hx hb dX3_build_22 rfl (lv_at hl 0 rfl) ?_
          refine va_get (D := D) (ci := 3) (v := .ref (d 2)) (C := RX3) (T := TX3) (N := 13) hx hb hts inX3_build_X3 hown hK.1 hP 0 rfl rfl 6 (by decide) (hts (.fieldLink RX3 13 "TextEndsModel" "order" "[I") (List.mem_of_getElem? (i := 3) rfl)) (fun _ h9 => h9) rfl dX3_build_23 ?_
          refine lv_iload_n hx hb dX3_build_26 rfl (lv_at hl 1 rfl) ?_
          refine lv_iload_n hx hb dX3_build_27 rfl (lv_at hl 1 rfl) ?_
          refine z_iast hx hb hK.1 hP hD hS 2 0 rfl rfl dX3_build_28 (by omega) (by omega) (by omega) (fun H locs hP hD hS => ?_)
          have hP : va_P D vwCl [(d 0, .inr (3, mo d rm sg pr sz bt ps fi ht fo)), (d 1, .inl (cI, nT, .inl (zA T))), (d 2, .inl (cI, nO, .inl (zA (zup oA k k)))), (d 3, .inl (cI, nQ, .inl (zA ot)))] H := hP
          have hD : va_D A [(d 0, .inr (3, mo d rm sg pr sz bt ps fi ht fo)), (d 1, .inl (cI, nT, .inl (zA T))), (d 2, .inl (cI, nO, .inl (zA (zup oA k k)))), (d 3, .inl (cI, nQ, .inl (zA ot)))] := hD
          refine lv_iinc (v := zI (k + 1)) (lv' := [(1, .int (zI (k + 1))), (0, .ref (d 0))]) hx hb dX3_build_29 hl (k := 1) rfl (zI_add _ _) (by decide) rfl (fun ls hl => ?_)
          refine lv_goto (tgt := 14) hx hb dX3_build_32 (by decide) ?_
          exact ih14 (k + 1) (zup oA k k) _ _ ls (by omega) (by rw [hoA]; exact zfill_up (f := fun j => j) h0.1) (by omega) (hP) (hD) hS (lv_sub hl [1, 0] rfl)
    exact loop14 _ 0 od _ _ ls (by omega) (zfill_0 _ _ _) (Nat.lt_succ_self _) hP hD hS (lv_sub hl [1, 0] rfl)
  · skip
    have hz := h_1
    have hb1 : bt = 1 := by omega
    refine lv_aload_n hx hb dX3_build_7 rfl (lv_at hl 0 rfl) ?_
    refine va_get (D := D) (ci := 3) (v := .int (zI sz)) (C := RX3) (T := TX3) (N := 13) hx hb hts inX3_build_X3 hown hK.1 hP 0 rfl rfl 4 (by decide) (hts (.fieldLink RX3 32 "TextEndsModel" "size" "I") (List.mem_of_getElem? (i := 2) rfl)) (fun _ h9 => h9) rfl dX3_build_8 ?_
    have hwe : bt = 1 := hb1
    rw [hwe] at hP hD
    clear hwe
    exact W.iret (v := zI sz) hx hb hr (fun t ht_ hW_ => ⟨⟨sz, (od, ot), rfl, ⟨rfl, fun q => absurd q hz, fun _ => rfl⟩, by rw [ht_]; exact hP, hD⟩, hS.F ht_⟩) hS.2.2 dX3_build_11
