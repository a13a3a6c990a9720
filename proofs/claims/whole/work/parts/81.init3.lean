set_option maxRecDepth 20000 in
theorem inX3_init_X3 : ∀ w ∈ wsX30, w ∈ wsX3_init := by decide +kernel
set_option maxHeartbeats 4000000 in
set_option maxRecDepth 100000 in
/-- TextEndsModel(..) -/
theorem kX3_init (l : Launch) (D : va_G) (cI cZ cL : ClassId) (h : Nat) (x y z : Int) (szz : Nat) (hx1 : zR x) (hy1 : zR y) (hz1 : zR z) : Met l yX3_init wsX3_init ({ frames := 1, cells := 4, slots := 3064, locals := 30 }) (zPn D cI cZ cL szz [.ref h, .int (zI x), .int (zI y), .int (zI z)] [(h, .inr (3, [.int (zI 0), .int (zI 0), .int (zI 0), .null, .int (zI 0), .int (zI 0), .null, .null, .null, .int (zI 0), .int (zI 0), .int (zI 0), .int (zI 0)]))]) (zQw D (va_A [(h, .inr (3, [.int (zI 0), .int (zI 0), .int (zI 0), .null, .int (zI 0), .int (zI 0), .null, .null, .null, .int (zI 0), .int (zI 0), .int (zI 0), .int (zI 0)]))] szz) (fun u : (Nat → Nat) => u 0 = h) (fun u : (Nat → Nat) => [(u 0, .inr (3, mo u (zmax 1 (zmin x 1000)) (zmax 1 (zmin y 256)) (zmax 1 (zmin z 64)) 0 0 0 0 0 0)), (u 1, .inl (cI, 1000, .inl (zA (fun _ => 0)))), (u 2, .inl (cI, 1000, .inl (zA (fun _ => 0)))), (u 3, .inl (cI, 1000, .inl (zA (fun _ => 0)))), (u 4, .inl (cI, 64, .inl (zA (fun _ => 0))))])) 4 3064 (va_A [(h, .inr (3, [.int (zI 0), .int (zI 0), .int (zI 0), .null, .int (zI 0), .int (zI 0), .null, .null, .null, .int (zI 0), .int (zI 0), .int (zI 0), .int (zI 0)]))] szz) := by
  refine Met.ofW (cc := cX3_init) (maxL := 4) (ret := none) (by decide) rfl ?_
  intro p e s m args below meth c s₁ B hml hv
  obtain ⟨rfl, hsz, hP, hK, hD0, hO⟩ := hv
  have hx := B.exec
  have hb := B.bytes
  have hr := B.returns
  have hts := atoms_spec (ws := wsX3_init) B.pre
  have hown : s.vm.findClass RX3 = some m.cls := findClass_of_methodNamed B.named
  have hlocks := B.notSynchronized
  have hin : meth.name = "<init>" := (name_of_methodNamed B.named B.method).1
  subst hsz
  have hD := hD0.self (sz := s.heap.size)
  generalize hAe : va_A [(h, .inr (3, [.int (zI 0), .int (zI 0), .int (zI 0), .null, .int (zI 0), .int (zI 0), .null, .null, .null, .int (zI 0), .int (zI 0), .int (zI 0), .int (zI 0)]))] s.heap.size = A at hD ⊢
  have hA : ∀ q : Nat, s.heap.size ≤ q → A q := fun q h => by rw [← hAe]; exact Or.inr h
  have hS : va_S A s.heap s.heap [] := va_S.rf
  clear hD0
  have hP : va_P D vwCl [(h, .inr (3, [.int (zI 0), .int (zI 0), .int (zI 0), .null, .int (zI 0), .int (zI 0), .null, .null, .null, .int (zI 0), .int (zI 0), .int (zI 0), .int (zI 0)]))] s.heap := hP
  have hl := lv_entry ([.ref h, .int (zI x), .int (zI y), .int (zI z)]) (n := 4) (Nat.le_of_ble_eq_true rfl)
  rw [lg_entry_eq]
  generalize (lg_sl ([.ref h, .int (zI x), .int (zI y), .int (zI z)]) ++ List.replicate (4 - (lg_sl ([.ref h, .int (zI x), .int (zI y), .int (zI z)])).length) Slot.unset).toArray = ls at hl ⊢
  have hl : lv_has ls 4 [(0, .ref h), (1, .int (zI x)), (2, .int (zI y)), (3, .int (zI z))] := hl
  refine lv_aload_n hx hb dX3_init_0 rfl (lv_at hl 0 rfl) ?_
  refine W.objInit hx hb hown (hts (.methodLink RX3 1 objectInit) (List.mem_of_getElem? (i := 1) rfl)) (hts (.instanceMethod objectInit) (List.mem_of_getElem? (i := 2) rfl)) (hts (.code objectInit ⟨#[0xb1]⟩ 1 none) (List.mem_of_getElem? (i := 3) rfl)) rfl (by rw [hml]; exact hl.1) rfl dX3_init_1 (Nat.le_of_ble_eq_true rfl) (Nat.le_of_ble_eq_true rfl) ?_
  refine W.eq (g2 := F0 m 4 ls []) rfl ?_
  refine lv_aload_n hx hb dX3_init_4 rfl (lv_at hl 0 rfl) ?_
  refine lv_sipush (v := zI 1000) hx hb dX3_init_5 (by first | rfl | decide) ?_
  refine z_newI hx hb (hts (.arrayClass .int) (List.mem_of_getElem? (i := 4) rfl)) hK.1 hP hD hS hA (1000) (rfl) (by decide) (show _ + 1 ≤ 4 by omega) (show _ + 1000 ≤ 3064 by omega) dX3_init_8 (fun e1 H hP hD hS => ?_)
  have hP : va_P D vwCl [(e1, .inl (cI, 1000, .inl (zA (fun _ => 0)))), (h, .inr (3, [.int (zI 0), .int (zI 0), .int (zI 0), .null, .int (zI 0), .int (zI 0), .null, .null, .null, .int (zI 0), .int (zI 0), .int (zI 0), .int (zI 0)]))] H := hP
  have hD : va_D A [(e1, .inl (cI, 1000, .inl (zA (fun _ => 0)))), (h, .inr (3, [.int (zI 0), .int (zI 0), .int (zI 0), .null, .int (zI 0), .int (zI 0), .null, .null, .null, .int (zI 0), .int (zI 0), .int (zI 0), .int (zI 0)]))] := hD
  refine va_putF (D := D) (ci := 3) (v := .ref e1) (ty := .array .int) (C := RX3) (T := TX3) (N := 13) hx hb hts inX3_init_X3 tyX3 tyX3_ok nmX3 hown hK.1 hP hD hS 1 rfl rfl 3 (by decide) (hts (.fieldLink RX3 7 "TextEndsModel" "text" "[I") (List.mem_of_getElem? (i := 5) rfl)) (fun _ h9 => h9) rfl hin rfl (by decide +kernel) rfl rfl (Nat.le_of_ble_eq_true rfl) dX3_init_10 (fun H locs hP hD hS => ?_)
  have hP : va_P D vwCl [(e1, .inl (cI, 1000, .inl (zA (fun _ => 0)))), (h, .inr (3, [.int (zI 0), .int (zI 0), .int (zI 0), .ref e1, .int (zI 0), .int (zI 0), .null, .null, .null, .int (zI 0), .int (zI 0), .int (zI 0), .int (zI 0)]))] H := hP
  have hD : va_D A [(e1, .inl (cI, 1000, .inl (zA (fun _ => 0)))), (h, .inr (3, [.int (zI 0), .int (zI 0), .int (zI 0), .ref e1, .int (zI 0), .int (zI 0), .null, .null, .null, .int (zI 0), .int (zI 0), .int (zI 0), .int (zI 0)]))] := hD
  refine lv_aload_n hx hb dX3_init_13 rfl (lv_at hl 0 rfl) ?_
  refine lv_sipush (v := zI 1000) hx hb dX3_init_14 (by first | rfl | decide) ?_
  refine z_newI hx hb (hts (.arrayClass .int) (List.mem_of_getElem? (i := 4) rfl)) hK.1 hP hD hS hA (1000) (rfl) (by decide) (show _ + 1 ≤ 4 by omega) (show _ + 1000 ≤ 3064 by omega) dX3_init_17 (fun e2 H hP hD hS => ?_)
  have hP : va_P D vwCl [(e2, .inl (cI, 1000, .inl (zA (fun _ => 0)))), (e1, .inl (cI, 1000, .inl (zA (fun _ => 0)))), (h, .inr (3, [.int (zI 0), .int (zI 0), .int (zI 0), .ref e1, .int (zI 0), .int (zI 0), .null, .null, .null, .int (zI 0), .int (zI 0), .int (zI 0), .int (zI 0)]))] H := hP
  have hD : va_D A [(e2, .inl (cI, 1000, .inl (zA (fun _ => 0)))), (e1, .inl (cI, 1000, .inl (zA (fun _ => 0)))), (h, .inr (3, [.int (zI 0), .int (zI 0), .int (zI 0), .ref e1, .int (zI 0), .int (zI 0), .null, .null, .null, .int (zI 0), .int (zI 0), .int (zI 0), .int (zI 0)]))] := hD
  refine va_putF (D := D) (ci := 3) (v := .ref e2) (ty := .array .int) (C := RX3) (T := TX3) (N := 13) hx hb hts inX3_init_X3 tyX3 tyX3_ok nmX3 hown hK.1 hP hD hS 2 rfl rfl 6 (by decide) (hts (.fieldLink RX3 13 "TextEndsModel" "order" "[I") (List.mem_of_getElem? (i := 6) rfl)) (fun _ h9 => h9) rfl hin rfl (by decide +kernel) rfl rfl (Nat.le_of_ble_eq_true rfl) dX3_init_19 (fun H locs hP hD hS => ?_)
  have hP : va_P D vwCl [(e2, .inl (cI, 1000, .inl (zA (fun _ => 0)))), (e1, .inl (cI, 1000, .inl (zA (fun _ => 0)))), (h, .inr (3, [.int (zI 0), .int (zI 0), .int (zI 0), .ref e1, .int (zI 0), .int (zI 0), .ref e2, .null, .null, .int (zI 0), .int (zI 0), .int (zI 0), .int (zI 0)]))] H := hP
  have hD : va_D A [(e2, .inl (cI, 1000, .inl (zA (fun _ => 0)))), (e1, .inl (cI, 1000, .inl (zA (fun _ => 0)))), (h, .inr (3, [.int (zI 0), .int (zI 0), .int (zI 0), .ref e1, .int (zI 0), .int (zI 0), .ref e2, .null, .null, .int (zI 0), .int (zI 0), .int (zI 0), .int (zI 0)]))] := hD
  refine lv_aload_n hx hb dX3_init_22 rfl (lv_at hl 0 rfl) ?_
  refine lv_sipush (v := zI 1000) hx hb dX3_init_23 (by first | rfl | decide) ?_
  refine z_newI hx hb (hts (.arrayClass .int) (List.mem_of_getElem? (i := 4) rfl)) hK.1 hP hD hS hA (1000) (rfl) (by decide) (show _ + 1 ≤ 4 by omega) (show _ + 1000 ≤ 3064 by omega) dX3_init_26 (fun e3 H hP hD hS => ?_)
  have hP : va_P D vwCl [(e3, .inl (cI, 1000, .inl (zA (fun _ => 0)))), (e2, .inl (cI, 1000, .inl (zA (fun _ => 0)))), (e1, .inl (cI, 1000, .inl (zA (fun _ => 0)))), (h, .inr (3, [.int (zI 0), .int (zI 0), .int (zI 0), .ref e1, .int (zI 0), .int (zI 0), .ref e2, .null, .null, .int (zI 0), .int (zI 0), .int (zI 0), .int (zI 0)]))] H := hP
  have hD : va_D A [(e3, .inl (cI, 1000, .inl (zA (fun _ => 0)))), (e2, .inl (cI, 1000, .inl (zA (fun _ => 0)))), (e1, .inl (cI, 1000, .inl (zA (fun _ => 0)))), (h, .inr (3, [.int (zI 0), .int (zI 0), .int (zI 0), .ref e1, .int (zI 0), .int (zI 0), .ref e2, .null, .null, .int (zI 0), .int (zI 0), .int (zI 0), .int (zI 0)]))] := hD
  refine va_putF (D := D) (ci := 3) (v := .ref e3) (ty := .array .int) (C := RX3) (T := TX3) (N := 13) hx hb hts inX3_init_X3 tyX3 tyX3_ok nmX3 hown hK.1 hP hD hS 3 rfl rfl 7 (by decide) (hts (.fieldLink RX3 16 "TextEndsModel" "other" "[I") (List.mem_of_getElem? (i := 7) rfl)) (fun _ h9 => h9) rfl hin rfl (by decide +kernel) rfl rfl (Nat.le_of_ble_eq_true rfl) dX3_init_28 (fun H locs hP hD hS => ?_)
  have hP : va_P D vwCl [(e3, .inl (cI, 1000, .inl (zA (fun _ => 0)))), (e2, .inl (cI, 1000, .inl (zA (fun _ => 0)))), (e1, .inl (cI, 1000, .inl (zA (fun _ => 0)))), (h, .inr (3, [.int (zI 0), .int (zI 0), .int (zI 0), .ref e1, .int (zI 0), .int (zI 0), .ref e2, .ref e3, .null, .int (zI 0), .int (zI 0), .int (zI 0), .int (zI 0)]))] H := hP
  have hD : va_D A [(e3, .inl (cI, 1000, .inl (zA (fun _ => 0)))), (e2, .inl (cI, 1000, .inl (zA (fun _ => 0)))), (e1, .inl (cI, 1000, .inl (zA (fun _ => 0)))), (h, .inr (3, [.int (zI 0), .int (zI 0), .int (zI 0), .ref e1, .int (zI 0), .int (zI 0), .ref e2, .ref e3, .null, .int (zI 0), .int (zI 0), .int (zI 0), .int (zI 0)]))] := hD
  refine lv_aload_n hx hb dX3_init_31 rfl (lv_at hl 0 rfl) ?_
  refine lv_bipush (v := zI 64) hx hb dX3_init_32 (by first | rfl | decide) ?_
  refine z_newI hx hb (hts (.arrayClass .int) (List.mem_of_getElem? (i := 4) rfl)) hK.1 hP hD hS hA (64) (rfl) (by decide) (show _ + 1 ≤ 4 by omega) (show _ + 64 ≤ 3064 by omega) dX3_init_34 (fun e4 H hP hD hS => ?_)
  have hP : va_P D vwCl [(e4, .inl (cI, 64, .inl (zA (fun _ => 0)))), (e3, .inl (cI, 1000, .inl (zA (fun _ => 0)))), (e2, .inl (cI, 1000, .inl (zA (fun _ => 0)))), (e1, .inl (cI, 1000, .inl (zA (fun _ => 0)))), (h, .inr (3, [.int (zI 0), .int (zI 0), .int (zI 0), .ref e1, .int (zI 0), .int (zI 0), .ref e2, .ref e3, .null, .int (zI 0), .int (zI 0), .int (zI 0), .int (zI 0)]))] H := hP
  have hD : va_D A [(e4, .inl (cI, 64, .inl (zA (fun _ => 0)))), (e3, .inl (cI, 1000, .inl (zA (fun _ => 0)))), (e2, .inl (cI, 1000, .inl (zA (fun _ => 0)))), (e1, .inl (cI, 1000, .inl (zA (fun _ => 0)))), (h, .inr (3, [.int (zI 0), .int (zI 0), .int (zI 0), .ref e1, .int (zI 0), .int (zI 0), .ref e2, .ref e3, .null, .int (zI 0), .int (zI 0), .int (zI 0), .int (zI 0)]))] := hD
  refine va_putF (D := D) (ci := 3) (v := .ref e4) (ty := .array .int) (C := RX3) (T := TX3) (N := 13) hx hb hts inX3_init_X3 tyX3 tyX3_ok nmX3 hown hK.1 hP hD hS 4 rfl rfl 8 (by decide) (hts (.fieldLink RX3 19 "TextEndsModel" "pattern" "[I") (List.mem_of_getElem? (i := 8) rfl)) (fun _ h9 => h9) rfl hin rfl (by decide +kernel) rfl rfl (Nat.le_of_ble_eq_true rfl) dX3_init_36 (fun H locs hP hD hS => ?_)
  have hP : va_P D vwCl [(e4, .inl (cI, 64, .inl (zA (fun _ => 0)))), (e3, .inl (cI, 1000, .inl (zA (fun _ => 0)))), (e2, .inl (cI, 1000, .inl (zA (fun _ => 0)))), (e1, .inl (cI, 1000, .inl (zA (fun _ => 0)))), (h, .inr (3, [.int (zI 0), .int (zI 0), .int (zI 0), .ref e1, .int (zI 0), .int (zI 0), .ref e2, .ref e3, .ref e4, .int (zI 0), .int (zI 0), .int (zI 0), .int (zI 0)]))] H := hP
  have hD : va_D A [(e4, .inl (cI, 64, .inl (zA (fun _ => 0)))), (e3, .inl (cI, 1000, .inl (zA (fun _ => 0)))), (e2, .inl (cI, 1000, .inl (zA (fun _ => 0)))), (e1, .inl (cI, 1000, .inl (zA (fun _ => 0)))), (h, .inr (3, [.int (zI 0), .int (zI 0), .int (zI 0), .ref e1, .int (zI 0), .int (zI 0), .ref e2, .ref e3, .ref e4, .int (zI 0), .int (zI 0), .int (zI 0), .int (zI 0)]))] := hD
  refine lv_aload_n hx hb dX3_init_39 rfl (lv_at hl 0 rfl) ?_
  refine lv_iload_n hx hb dX3_init_40 rfl (lv_at hl 1 rfl) ?_
  refine lv_iconst (v := zI 1) hx hb dX3_init_41 (by first | rfl | decide) ?_
  have jn63 : W p l e (headSpec wsX3_init ({ frames := 1, cells := 4, slots := 3064, locals := 30 })).room s m ([.ref h, .int (zI x), .int (zI y), .int (zI z)] : List Value).toArray below meth c H locs (0 + 1 + 1 + 1 + 1) (0 + 1000 + 1000 + 1000 + 64) (MQ below (zQw D A (fun u : (Nat → Nat) => u 0 = h) (fun u : (Nat → Nat) => [(u 0, .inr (3, mo u (zmax 1 (zmin x 1000)) (zmax 1 (zmin y 256)) (zmax 1 (zmin z 64)) 0 0 0 0 0 0)), (u 1, .inl (cI, 1000, .inl (zA (fun _ => 0)))), (u 2, .inl (cI, 1000, .inl (zA (fun _ => 0)))), (u 3, .inl (cI, 1000, .inl (zA (fun _ => 0)))), (u 4, .inl (cI, 64, .inl (zA (fun _ => 0))))])) ([.ref h, .int (zI x), .int (zI y), .int (zI z)] : List Value).toArray s 4 3064 A) (F0 m 63 ls [.int (zI (zmax 1 (zmin x 1000))), .ref h]) := by
    refine va_putF (D := D) (ci := 3) (v := .int (zI (zmax 1 (zmin x 1000)))) (ty := .int) (C := RX3) (T := TX3) (N := 13) hx hb hts inX3_init_X3 tyX3 tyX3_ok nmX3 hown hK.1 hP hD hS 4 rfl rfl 0 (by decide) (hts (.fieldLink RX3 22 "TextEndsModel" "room" "I") (List.mem_of_getElem? (i := 9) rfl)) (fun _ h9 => h9) rfl hin rfl (by decide +kernel) rfl rfl (Nat.le_of_ble_eq_true rfl) dX3_init_63 (fun H locs hP hD hS => ?_)
    have hP : va_P D vwCl [(e4, .inl (cI, 64, .inl (zA (fun _ => 0)))), (e3, .inl (cI, 1000, .inl (zA (fun _ => 0)))), (e2, .inl (cI, 1000, .inl (zA (fun _ => 0)))), (e1, .inl (cI, 1000, .inl (zA (fun _ => 0)))), (h, .inr (3, [.int (zI (zmax 1 (zmin x 1000))), .int (zI 0), .int (zI 0), .ref e1, .int (zI 0), .int (zI 0), .ref e2, .ref e3, .ref e4, .int (zI 0), .int (zI 0), .int (zI 0), .int (zI 0)]))] H := hP
    have hD : va_D A [(e4, .inl (cI, 64, .inl (zA (fun _ => 0)))), (e3, .inl (cI, 1000, .inl (zA (fun _ => 0)))), (e2, .inl (cI, 1000, .inl (zA (fun _ => 0)))), (e1, .inl (cI, 1000, .inl (zA (fun _ => 0)))), (h, .inr (3, [.int (zI (zmax 1 (zmin x 1000))), .int (zI 0), .int (zI 0), .ref e1, .int (zI 0), .int (zI 0), .ref e2, .ref e3, .ref e4, .int (zI 0), .int (zI 0), .int (zI 0), .int (zI 0)]))] := hD
    refine lv_aload_n hx hb dX3_init_66 rfl (lv_at hl 0 rfl) ?_
    refine lv_iload_n hx hb dX3_init_67 rfl (lv_at hl 2 rfl) ?_
    refine lv_iconst (v := zI 1) hx hb dX3_init_68 (by first | rfl | decide) ?_
    have jn90 : W p l e (headSpec wsX3_init ({ frames := 1, cells := 4, slots := 3064, locals := 30 })).room s m ([.ref h, .int (zI x), .int (zI y), .int (zI z)] : List Value).toArray below meth c H locs (0 + 1 + 1 + 1 + 1) (0 + 1000 + 1000 + 1000 + 64) (MQ below (zQw D A (fun u : (Nat → Nat) => u 0 = h) (fun u : (Nat → Nat) => [(u 0, .inr (3, mo u (zmax 1 (zmin x 1000)) (zmax 1 (zmin y 256)) (zmax 1 (zmin z 64)) 0 0 0 0 0 0)), (u 1, .inl (cI, 1000, .inl (zA (fun _ => 0)))), (u 2, .inl (cI, 1000, .inl (zA (fun _ => 0)))), (u 3, .inl (cI, 1000, .inl (zA (fun _ => 0)))), (u 4, .inl (cI, 64, .inl (zA (fun _ => 0))))])) ([.ref h, .int (zI x), .int (zI y), .int (zI z)] : List Value).toArray s 4 3064 A) (F0 m 90 ls [.int (zI (zmax 1 (zmin y 256))), .ref h]) := by
      refine va_putF (D := D) (ci := 3) (v := .int (zI (zmax 1 (zmin y 256)))) (ty := .int) (C := RX3) (T := TX3) (N := 13) hx hb hts inX3_init_X3 tyX3 tyX3_ok nmX3 hown hK.1 hP hD hS 4 rfl rfl 1 (by decide) (hts (.fieldLink RX3 26 "TextEndsModel" "sigma" "I") (List.mem_of_getElem? (i := 10) rfl)) (fun _ h9 => h9) rfl hin rfl (by decide +kernel) rfl rfl (Nat.le_of_ble_eq_true rfl) dX3_init_90 (fun H locs hP hD hS => ?_)
      have hP : va_P D vwCl [(e4, .inl (cI, 64, .inl (zA (fun _ => 0)))), (e3, .inl (cI, 1000, .inl (zA (fun _ => 0)))), (e2, .inl (cI, 1000, .inl (zA (fun _ => 0)))), (e1, .inl (cI, 1000, .inl (zA (fun _ => 0)))), (h, .inr (3, [.int (zI (zmax 1 (zmin x 1000))), .int (zI (zmax 1 (zmin y 256))), .int (zI 0), .ref e1, .int (zI 0), .int (zI 0), .ref e2, .ref e3, .ref e4, .int (zI 0), .int (zI 0), .int (zI 0), .int (zI 0)]))] H := hP
      have hD : va_D A [(e4, .inl (cI, 64, .inl (zA (fun _ => 0)))), (e3, .inl (cI, 1000, .inl (zA (fun _ => 0)))), (e2, .inl (cI, 1000, .inl (zA (fun _ => 0)))), (e1, .inl (cI, 1000, .inl (zA (fun _ => 0)))), (h, .inr (3, [.int (zI (zmax 1 (zmin x 1000))), .int (zI (zmax 1 (zmin y 256))), .int (zI 0), .ref e1, .int (zI 0), .int (zI 0), .ref e2, .ref e3, .ref e4, .int (zI 0), .int (zI 0), .int (zI 0), .int (zI 0)]))] := hD
      refine lv_aload_n hx hb dX3_init_93 rfl (lv_at hl 0 rfl) ?_
      refine lv_iload_n hx hb dX3_init_94 rfl (lv_at hl 3 rfl) ?_
      refine lv_iconst (v := zI 1) hx hb dX3_init_95 (by first | rfl | decide) ?_
      have jn115 : W p l e (headSpec wsX3_init ({ frames := 1, cells := 4, slots := 3064, locals := 30 })).room s m ([.ref h, .int (zI x), .int (zI y), .int (zI z)] : List Value).toArray below meth c H locs (0 + 1 + 1 + 1 + 1) (0 + 1000 + 1000 + 1000 + 64) (MQ below (zQw D A (fun u : (Nat → Nat) => u 0 = h) (fun u : (Nat → Nat) => [(u 0, .inr (3, mo u (zmax 1 (zmin x 1000)) (zmax 1 (zmin y 256)) (zmax 1 (zmin z 64)) 0 0 0 0 0 0)), (u 1, .inl (cI, 1000, .inl (zA (fun _ => 0)))), (u 2, .inl (cI, 1000, .inl (zA (fun _ => 0)))), (u 3, .inl (cI, 1000, .inl (zA (fun _ => 0)))), (u 4, .inl (cI, 64, .inl (zA (fun _ => 0))))])) ([.ref h, .int (zI x), .int (zI y), .int (zI z)] : List Value).toArray s 4 3064 A) (F0 m 115 ls [.int (zI (zmax 1 (zmin z 64))), .ref h]) := by
        refine va_putF (D := D) (ci := 3) (v := .int (zI (zmax 1 (zmin z 64)))) (ty := .int) (C := RX3) (T := TX3) (N := 13) hx hb hts inX3_init_X3 tyX3 tyX3_ok nmX3 hown hK.1 hP hD hS 4 rfl rfl 2 (by decide) (hts (.fieldLink RX3 29 "TextEndsModel" "patternRoom" "I") (List.mem_of_getElem? (i := 11) rfl)) (fun _ h9 => h9) rfl hin rfl (by decide +kernel) rfl rfl (Nat.le_of_ble_eq_true rfl) dX3_init_115 (fun H locs hP hD hS => ?_)
        have hP : va_P D vwCl [(e4, .inl (cI, 64, .inl (zA (fun _ => 0)))), (e3, .inl (cI, 1000, .inl (zA (fun _ => 0)))), (e2, .inl (cI, 1000, .inl (zA (fun _ => 0)))), (e1, .inl (cI, 1000, .inl (zA (fun _ => 0)))), (h, .inr (3, [.int (zI (zmax 1 (zmin x 1000))), .int (zI (zmax 1 (zmin y 256))), .int (zI (zmax 1 (zmin z 64))), .ref e1, .int (zI 0), .int (zI 0), .ref e2, .ref e3, .ref e4, .int (zI 0), .int (zI 0), .int (zI 0), .int (zI 0)]))] H := hP
        have hD : va_D A [(e4, .inl (cI, 64, .inl (zA (fun _ => 0)))), (e3, .inl (cI, 1000, .inl (zA (fun _ => 0)))), (e2, .inl (cI, 1000, .inl (zA (fun _ => 0)))), (e1, .inl (cI, 1000, .inl (zA (fun _ => 0)))), (h, .inr (3, [.int (zI (zmax 1 (zmin x 1000))), .int (zI (zmax 1 (zmin y 256))), .int (zI (zmax 1 (zmin z 64))), .ref e1, .int (zI 0), .int (zI 0), .ref e2, .ref e3, .ref e4, .int (zI 0), .int (zI 0), .int (zI 0), .int (zI 0)]))] := hD
        have hP : va_P D vwCl [(h, .inr (3, [.int (zI (zmax 1 (zmin x 1000))), .int (zI (zmax 1 (zmin y 256))), .int (zI (zmax 1 (zmin z 64))), .ref e1, .int (zI 0), .int (zI 0), .ref e2, .ref e3, .ref e4, .int (zI 0), .int (zI 0), .int (zI 0), .int (zI 0)])), (e1, .inl (cI, 1000, .inl (zA (fun _ => 0)))), (e2, .inl (cI, 1000, .inl (zA (fun _ => 0)))), (e3, .inl (cI, 1000, .inl (zA (fun _ => 0)))), (e4, .inl (cI, 64, .inl (zA (fun _ => 0))))] H := hP.sub [4, 3, 2, 1, 0] rfl
        have hD : va_D A [(h, .inr (3, [.int (zI (zmax 1 (zmin x 1000))), .int (zI (zmax 1 (zmin y 256))), .int (zI (zmax 1 (zmin z 64))), .ref e1, .int (zI 0), .int (zI 0), .ref e2, .ref e3, .ref e4, .int (zI 0), .int (zI 0), .int (zI 0), .int (zI 0)])), (e1, .inl (cI, 1000, .inl (zA (fun _ => 0)))), (e2, .inl (cI, 1000, .inl (zA (fun _ => 0)))), (e3, .inl (cI, 1000, .inl (zA (fun _ => 0)))), (e4, .inl (cI, 64, .inl (zA (fun _ => 0))))] := hD.sub [4, 3, 2, 1, 0] (by decide) rfl
        refine W.widen (k := 4) (n := 3064) (by omega) (by omega) ?_
        exact W.vret hx hb hr (fun t ht_ hW_ => ⟨⟨(fn5 h e1 e2 e3 e4), rfl, rfl, by rw [ht_]; exact hP, hD⟩, hS.F ht_⟩) hS.2.2 dX3_init_118
      refine z_icmp_ge (tgt := 103) hx hb dX3_init_96 (by decide) (by omega) (by omega) (fun h_4 => ?_) (fun h_4 => ?_)
      · skip
        refine lv_iload_n hx hb dX3_init_103 rfl (lv_at hl 3 rfl) ?_
        refine lv_bipush (v := zI 64) hx hb dX3_init_104 (by first | rfl | decide) ?_
        refine z_icmp_le (tgt := 114) hx hb dX3_init_106 (by decide) (by omega) (by omega) (fun h_5 => ?_) (fun h_5 => ?_)
        · skip
          refine lv_iload_n hx hb dX3_init_114 rfl (lv_at hl 3 rfl) ?_
          refine z_top (b := zmax 1 (zmin z 64)) (by unfold zmax zmin; (repeat' split) <;> omega) ?_
          exact jn115
        · skip
          refine lv_bipush (v := zI 64) hx hb dX3_init_109 (by first | rfl | decide) ?_
          refine lv_goto (tgt := 115) hx hb dX3_init_111 (by decide) ?_
          refine z_top (b := zmax 1 (zmin z 64)) (by unfold zmax zmin; (repeat' split) <;> omega) ?_
          exact jn115
      · skip
        refine lv_iconst (v := zI 1) hx hb dX3_init_99 (by first | rfl | decide) ?_
        refine lv_goto (tgt := 115) hx hb dX3_init_100 (by decide) ?_
        refine z_top (b := zmax 1 (zmin z 64)) (by unfold zmax zmin; (repeat' split) <;> omega) ?_
        exact jn115
    refine z_icmp_ge (tgt := 76) hx hb dX3_init_69 (by decide) (by omega) (by omega) (fun h_6 => ?_) (fun h_6 => ?_)
    · skip
      refine lv_iload_n hx hb dX3_init_76 rfl (lv_at hl 2 rfl) ?_
      refine lv_sipush (v := zI 256) hx hb dX3_init_77 (by first | rfl | decide) ?_
      refine z_icmp_le (tgt := 89) hx hb dX3_init_80 (by decide) (by omega) (by omega) (fun h_7 => ?_) (fun h_7 => ?_)
      · skip
        refine lv_iload_n hx hb dX3_init_89 rfl (lv_at hl 2 rfl) ?_
        refine z_top (b := zmax 1 (zmin y 256)) (by unfold zmax zmin; (repeat' split) <;> omega) ?_
        exact jn90
      · skip
        refine lv_sipush (v := zI 256) hx hb dX3_init_83 (by first | rfl | decide) ?_
        refine lv_goto (tgt := 90) hx hb dX3_init_86 (by decide) ?_
        refine z_top (b := zmax 1 (zmin y 256)) (by unfold zmax zmin; (repeat' split) <;> omega) ?_
        exact jn90
    · skip
      refine lv_iconst (v := zI 1) hx hb dX3_init_72 (by first | rfl | decide) ?_
      refine lv_goto (tgt := 90) hx hb dX3_init_73 (by decide) ?_
      refine z_top (b := zmax 1 (zmin y 256)) (by unfold zmax zmin; (repeat' split) <;> omega) ?_
      exact jn90
  refine z_icmp_ge (tgt := 49) hx hb dX3_init_42 (by decide) (by omega) (by omega) (fun h_8 => ?_) (fun h_8 => ?_)
  · skip
    refine lv_iload_n hx hb dX3_init_49 rfl (lv_at hl 1 rfl) ?_
    refine lv_sipush (v := zI 1000) hx hb dX3_init_50 (by first | rfl | decide) ?_
    refine z_icmp_le (tgt := 62) hx hb dX3_init_53 (by decide) (by omega) (by omega) (fun h_9 => ?_) (fun h_9 => ?_)
    · skip
      refine lv_iload_n hx hb dX3_init_62 rfl (lv_at hl 1 rfl) ?_
      refine z_top (b := zmax 1 (zmin x 1000)) (by unfold zmax zmin; (repeat' split) <;> omega) ?_
      exact jn63
    · skip
      refine lv_sipush (v := zI 1000) hx hb dX3_init_56 (by first | rfl | decide) ?_
      refine lv_goto (tgt := 63) hx hb dX3_init_59 (by decide) ?_
      refine z_top (b := zmax 1 (zmin x 1000)) (by unfold zmax zmin; (repeat' split) <;> omega) ?_
      exact jn63
  · skip
    refine lv_iconst (v := zI 1) hx hb dX3_init_45 (by first | rfl | decide) ?_
    refine lv_goto (tgt := 63) hx hb dX3_init_46 (by decide) ?_
    refine z_top (b := zmax 1 (zmin x 1000)) (by unfold zmax zmin; (repeat' split) <;> omega) ?_
    exact jn63
