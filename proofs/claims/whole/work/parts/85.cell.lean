/-! the script -/
def zX (xs : Nat → Int32) (i : Int) : Int := (xs i.toNat).toInt
theorem zX_R (xs : Nat → Int32) (i : Int) : zR (zX xs i) := (zI_of _).2
theorem zX_I {xs : Nat → Int32} {a : Int} (hr : zR a) : xs (zI a).toNatClampNeg = zI (zX xs a) := by
  rw [zI_clamp hr]; exact (zI_of _).1
def zcl (n : Nat) (xs : Nat → Int32) (k : Int) : Int := if k < (n : Int) then zX xs k else 0
theorem zcl_R (n : Nat) (xs : Nat → Int32) (k : Int) : zR (zcl n xs k) := by
  unfold zcl
  split
  · exact zX_R _ _
  · decide
section ZL
variable {p : Program} {l : Launch} {e : Env} {R : Room} {s : State} {m : MethodId} {args : Array Value} {below : List Frame} {meth : Method} {c : Code} {H : Heap} {locs : List Loc} {cells slots : Nat} {Q : State → Prop}
variable {cc : ByteArray} {pc : Nat} {ls : Array Slot} {rest : List Value} {a : Int} {A : Nat → Prop} {H0 : Heap} {sb n : Nat} {xs : Nat → Int32}
theorem z_sld (hx : p.tables.exec = Jvm.exec) (hb : c.code = cc) (hX : va_X sb n xs s H0) (hbl : sb < H0.size) (hbA : ¬ A sb) (hS : va_S A H0 H locs) (hdg : decode cc pc = .ok (.iaload, 1)) (hr : zR a) (h0 : 0 ≤ a) (h1 : a < (n : Int))
    (kk : W p l e R s m args below meth c H locs cells slots Q (F0 m (pc + 1) ls (.int (zI (zX xs a)) :: rest))) : W p l e R s m args below meth c H locs cells slots Q (F0 m pc ls (.int (zI a) :: .ref sb :: rest)) :=
  va_sld hx hb hX hbl hbA hS (zI_in hr h0 h1) hdg (by rw [zX_I (xs := xs) hr]; exact kk)
theorem z_slen (hx : p.tables.exec = Jvm.exec) (hb : c.code = cc) (hX : va_X sb n xs s H0) (hbl : sb < H0.size) (hbA : ¬ A sb) (hS : va_S A H0 H locs) (hdg : decode cc pc = .ok (.arraylength, 1))
    (kk : W p l e R s m args below meth c H locs cells slots Q (F0 m (pc + 1) ls (.int (zI (n : Int)) :: rest))) : W p l e R s m args below meth c H locs cells slots Q (F0 m pc ls (.ref sb :: rest)) :=
  va_slen hx hb hX hbl hbA hS hdg (by rw [← zI_nat]; exact kk)
theorem z_eqq (hx : p.tables.exec = Jvm.exec) (hb : c.code = cc) {off : Int} {tgt : Nat} {x : Int32} (hdg : decode cc pc = .ok (.if_icmp .eq off, 3)) (ht : (pc : Int) + off = (tgt : Int))
    (kt : W p l e R s m args below meth c H locs cells slots Q (F0 m tgt ls rest)) : W p l e R s m args below meth c H locs cells slots Q (F0 m pc ls (.int x :: .int x :: rest)) :=
  lv_icmp_eq hx hb hdg ht (fun _ => kt) (fun h => absurd rfl h)
end ZL
theorem zX_pre {s : State} {H H0 : Heap} {sb n : Nat} {xs : Nat → Int32} {av : List Value} (hX : va_X sb n xs s H0) (hq : H[sb]? = H0[sb]?) : PreS s H (va_Pc av (fun U => va_X sb n xs U U.heap)) av :=
  ⟨fun a U g mk q => ⟨q.1, va_X.moved (u := U) (U := U.calling g mk a) (Vm.Alike.refl U.vm) q.2⟩, fun U hU hW => ⟨rfl, by show va_X sb n xs U U.heap; rw [hU]; exact (hX.kept hq).moved hW.alike⟩⟩
set_option maxHeartbeats 4000000 in
set_option maxRecDepth 100000 in
/-- cell(script, k) -/
theorem kL_cell (l : Launch) (sb n : Nat) (xs : Nat → Int32) (k : Int) (hk : 0 ≤ k ∧ k ≤ 10) (hn : n ≤ 3075) : Met l yL_cell wsL_cell ({ frames := 0, cells := 0, slots := 0, locals := 0 }) (va_Pc [.ref sb, .int (zI k)] (fun U => va_X sb n xs U U.heap)) (zQi (fun r => r = zcl n xs k)) 0 0 (fun _ => False) := by
  refine Met.ofW (cc := cL_cell) (maxL := 2) (ret := (some .int)) (by decide) rfl ?_
  intro p e s m args below meth c s₁ B hml hv
  obtain ⟨rfl, hX⟩ := hv
  have hx := B.exec
  have hb := B.bytes
  have hr := B.returns
  have hS : va_S (fun _ => False) s.heap s.heap [] := va_S.rf
  have hbl : sb < s.heap.size := by
    obtain ⟨scr, h1, -⟩ := hX
    exact (Array.getElem?_eq_some_iff.mp h1).1
  have hbA : ¬ (fun _ : Nat => False) sb := fun h => h
  have hl := lv_entry ([.ref sb, .int (zI k)]) (n := 2) (Nat.le_of_ble_eq_true rfl)
  rw [lg_entry_eq]
  generalize (lg_sl ([.ref sb, .int (zI k)]) ++ List.replicate (2 - (lg_sl ([.ref sb, .int (zI k)])).length) Slot.unset).toArray = ls at hl ⊢
  have hl : lv_has ls 2 [(0, .ref sb), (1, .int (zI k))] := hl
  refine lv_iload_n hx hb dL_cell_0 rfl (lv_at hl 1 rfl) ?_
  refine lv_aload_n hx hb dL_cell_1 rfl (lv_at hl 0 rfl) ?_
  refine z_slen hx hb hX hbl hbA hS dL_cell_2 ?_
  refine z_icmp_ge (tgt := 12) hx hb dL_cell_3 (by decide) (by omega) (by omega) (fun h => ?_) (fun h => ?_)
  · refine lv_iconst (v := zI 0) hx hb dL_cell_12 (by first | rfl | decide) ?_
    exact W.iret (v := zI 0) hx hb hr (fun t ht_ hW_ => ⟨0, rfl, by rw [zcl, if_neg (by omega)], ht_⟩) (fun q h => by cases h) dL_cell_13
  · refine lv_aload_n hx hb dL_cell_6 rfl (lv_at hl 0 rfl) ?_
    refine lv_iload_n hx hb dL_cell_7 rfl (lv_at hl 1 rfl) ?_
    refine z_sld hx hb hX hbl hbA hS dL_cell_8 (by omega) (by omega) (by omega) ?_
    refine lv_goto (tgt := 13) hx hb dL_cell_9 (by decide) ?_
    exact W.iret (v := zI (zX xs k)) hx hb hr (fun t ht_ hW_ => ⟨_, rfl, by rw [zcl, if_pos (by omega)], ht_⟩) (fun q h => by cases h) dL_cell_13
