/-! making things -/
theorem newI_cell (cA : ClassId) (N : Nat) : vp_cell cA (N, .inl (zA (fun _ => 0))) = arrV cA N (fun _ => defaultValue .int) := by
  rw [vp_cell_i]
  rfl
theorem newZ_cell (cA : ClassId) (N : Nat) : vp_cell cA (N, .inl (zA (zB (fun _ => false)))) = arrV cA N (fun _ => defaultValue .boolean) := by
  rw [vp_cell_i]
  rfl
section ZN
variable {p : Program} {l : Launch} {e : Env} {R : Room} {s : State} {m : MethodId} {args : Array Value} {below : List Frame} {meth : Method} {c : Code} {H : Heap} {locs : List Loc} {cells slots : Nat} {Q : State → Prop}
variable {cc : ByteArray} {pc : Nat} {ls : Array Slot} {rest : List Value} {a : Int} {D : va_G} {cI cZ cL : ClassId} {ws : va_W} {A : Nat → Prop} {H0 : Heap}
theorem zT_I {cA : ClassId} (h : va_K D vwCl (zT cI cZ cL ++ [(cA, .int)]) s) : cA = cI := by
  have h1 : s.vm.findClass ("[" ++ FieldType.int.toString) = some cI := (h.2 0 _ rfl).2
  have h2 : s.vm.findClass ("[" ++ FieldType.int.toString) = some cA := (h.2 3 _ rfl).2
  rw [h1] at h2
  exact (Option.some.inj h2).symm
theorem zT_Z {cA : ClassId} (h : va_K D vwCl (zT cI cZ cL ++ [(cA, .boolean)]) s) : cA = cZ := by
  have h1 : s.vm.findClass ("[" ++ FieldType.boolean.toString) = some cZ := (h.2 1 _ rfl).2
  have h2 : s.vm.findClass ("[" ++ FieldType.boolean.toString) = some cA := (h.2 3 _ rfl).2
  rw [h1] at h2
  exact (Option.some.inj h2).symm
theorem zT_L {cA : ClassId} (h : va_K D vwCl (zT cI cZ cL ++ [(cA, .object RX1)]) s) : cA = cL := by
  obtain ⟨k1, p1, -, -, -, h1⟩ : va_RA s cL (.object RX1) := (h.2 2 _ rfl).2
  obtain ⟨k2, p2, -, -, -, h2⟩ : va_RA s cA (.object RX1) := (h.2 3 _ rfl).2
  rw [h1] at h2
  exact (Option.some.inj h2).symm
theorem z_newI (hx : p.tables.exec = Jvm.exec) (hb : c.code = cc) (harr : (Cond.arrayClass .int).before args s = true) (hK : va_K D vwCl (zT cI cZ cL) s) (hP : va_P D vwCl ws H) (hD : va_D A ws) (hS : va_S A H0 H locs) (hA : ∀ q, H0.size ≤ q → A q) (N : Nat) (hN : a = (N : Int)) (hN2 : N < 1000000) (hcells : cells + 1 ≤ R.cells) (hslots : slots + N ≤ R.slots) (hdg : decode cc pc = .ok (.newarray .int, 2))
    (kk : ∀ (q : Nat) (H1 : Heap), va_P D vwCl ((q, .inl (cI, N, .inl (zA (fun _ => 0)))) :: ws) H1 → va_D A ((q, .inl (cI, N, .inl (zA (fun _ => 0)))) :: ws) → va_S A H0 H1 locs → W p l e R s m args below meth c H1 locs (cells + 1) (slots + N) Q (F0 m (pc + 2) ls (.ref q :: rest))) : W p l e R s m args below meth c H locs cells slots Q (F0 m pc ls (.int (zI a) :: rest)) := by
  have hr : zR a := by omega
  refine va_newa (atype := .int) (ty := .int) (N' := N) (a0 := (N, .inl (zA (fun _ => 0)))) hx hb harr rfl hK hP hD hS hA (fun cA => newI_cell cA N) ?_ ?_ ?_ hcells hslots hdg (fun q cA H1 k1 hP1 hD1 hS1 => ?_)
  · intro h
    have := (zI_lt (b := 0) hr (by omega)).mp h
    omega
  · rw [zI_clamp hr]; omega
  · rw [show componentBytes FieldType.int = 4 from rfl]; omega
  · have e := zT_I k1
    subst e
    exact kk q H1 (va_P_perm (List.perm_append_singleton _ _) hP1) (va_D_perm (List.perm_append_singleton _ _) hD1) hS1
theorem z_newZ (hx : p.tables.exec = Jvm.exec) (hb : c.code = cc) (harr : (Cond.arrayClass .boolean).before args s = true) (hK : va_K D vwCl (zT cI cZ cL) s) (hP : va_P D vwCl ws H) (hD : va_D A ws) (hS : va_S A H0 H locs) (hA : ∀ q, H0.size ≤ q → A q) (N : Nat) (hN : a = (N : Int)) (hN2 : N < 1000000) (hcells : cells + 1 ≤ R.cells) (hslots : slots + N ≤ R.slots) (hdg : decode cc pc = .ok (.newarray .boolean, 2))
    (kk : ∀ (q : Nat) (H1 : Heap), va_P D vwCl ((q, .inl (cZ, N, .inl (zA (zB (fun _ => false))))) :: ws) H1 → va_D A ((q, .inl (cZ, N, .inl (zA (zB (fun _ => false))))) :: ws) → va_S A H0 H1 locs → W p l e R s m args below meth c H1 locs (cells + 1) (slots + N) Q (F0 m (pc + 2) ls (.ref q :: rest))) : W p l e R s m args below meth c H locs cells slots Q (F0 m pc ls (.int (zI a) :: rest)) := by
  have hr : zR a := by omega
  refine va_newa (atype := .boolean) (ty := .boolean) (N' := N) (a0 := (N, .inl (zA (zB (fun _ => false))))) hx hb harr rfl hK hP hD hS hA (fun cA => newZ_cell cA N) ?_ ?_ ?_ hcells hslots hdg (fun q cA H1 k1 hP1 hD1 hS1 => ?_)
  · intro h
    have := (zI_lt (b := 0) hr (by omega)).mp h
    omega
  · rw [zI_clamp hr]; omega
  · rw [show componentBytes FieldType.boolean = 1 from rfl]; omega
  · have e := zT_Z k1
    subst e
    exact kk q H1 (va_P_perm (List.perm_append_singleton _ _) hP1) (va_D_perm (List.perm_append_singleton _ _) hD1) hS1
theorem z_newL (hx : p.tables.exec = Jvm.exec) (hb : c.code = cc) {own : String} {index : Nat} (hown : s.vm.findClass own = some m.cls) (hclink : (Cond.classLink own index RX1).before args s = true) (hover : va_AO RX1 s) (hK : va_K D vwCl (zT cI cZ cL) s) (hP : va_P D vwCl ws H) (hD : va_D A ws) (hS : va_S A H0 H locs) (hA : ∀ q, H0.size ≤ q → A q) (N : Nat) (hN : a = (N : Int)) (hN2 : N < 1000000) (hcells : cells + 1 ≤ R.cells) (hslots : slots + N ≤ R.slots) (hdg : decode cc pc = .ok (.anewarray index, 3))
    (kk : ∀ (q : Nat) (H1 : Heap), va_P D vwCl ((q, .inl (cL, N, .inr (.inr (.inr (.inr (fun _ => none)))))) :: ws) H1 → va_D A ((q, .inl (cL, N, .inr (.inr (.inr (.inr (fun _ => none)))))) :: ws) → va_S A H0 H1 locs → W p l e R s m args below meth c H1 locs (cells + 1) (slots + N) Q (F0 m (pc + 3) ls (.ref q :: rest))) : W p l e R s m args below meth c H locs cells slots Q (F0 m pc ls (.int (zI a) :: rest)) := by
  have hr : zR a := by omega
  refine va_newq (N' := N) hx hb hown hclink hover hK hP hD hS hA ?_ ?_ ?_ hcells hslots hdg (fun q cA H1 k1 hP1 hD1 hS1 => ?_)
  · intro h
    have := (zI_lt (b := 0) hr (by omega)).mp h
    omega
  · rw [zI_clamp hr]; omega
  · omega
  · have e := zT_L k1
    subst e
    exact kk q H1 (va_P_perm (List.perm_append_singleton _ _) hP1) (va_D_perm (List.perm_append_singleton _ _) hD1) hS1
end ZN
/-- a row of references is what it holds within its room -/
theorem va_P_refs {D : va_G} {cl : List vw_C} {H : Heap} {h : Nat} {cA : ClassId} {n : Nat} {f g : Nat → Option Nat} {ws : va_W} (e : ∀ k, k < n → f k = g k) (hP : va_P D cl ((h, .inl (cA, n, .inr (.inr (.inr (.inr f))))) :: ws) H) : va_P D cl ((h, .inl (cA, n, .inr (.inr (.inr (.inr g))))) :: ws) H := by
  rw [va_P_mem] at hP ⊢
  intro q hq
  rcases List.mem_cons.mp hq with r | r
  · have h1 := hP _ (List.mem_cons_self)
    have h1 : H[h]? = some (vp_cell cA (n, .inr (.inr (.inr (.inr f))))) := h1
    rw [r]
    show H[h]? = some (vp_cell cA (n, .inr (.inr (.inr (.inr g)))))
    rw [h1]
    congr 1
    show arrV cA n (fun j => va_rf (f j)) = arrV cA n (fun j => va_rf (g j))
    unfold arrV
    congr 1
    apply Array.ext
    · simp
    · intro i h1 h2
      simp at h1 ⊢
      rw [e i h1]
  · exact hP q (List.mem_cons_of_mem _ r)
theorem va_D_same {A : Nat → Prop} {ws ws' : va_W} (e : ws.map (fun q => q.1) = ws'.map (fun q => q.1)) (hD : va_D A ws) : va_D A ws' := by
  obtain ⟨h1, h2⟩ := va_D_mem.mp hD
  refine va_D_mem.mpr ⟨by rw [← e]; exact h1, fun q hq => ?_⟩
  have : q.1 ∈ ws'.map (fun q => q.1) := List.mem_map.mpr ⟨q, hq, rfl⟩
  rw [← e] at this
  obtain ⟨q', hq', e'⟩ := List.mem_map.mp this
  rw [← e']; exact h2 q' hq'
/-- the start of a constructor -/
def zPn (D : va_G) (cI cZ cL : ClassId) (sz : Nat) (av : List Value) (ws : va_W) : Array Value → State → Prop := va_Pc av (fun U => U.heap.size = sz ∧ va_P D vwCl ws U.heap ∧ zK D cI cZ cL U ∧ va_D (fun _ => True) ws ∧ va_AO RX1 U)
theorem zPn_pre {D : va_G} {cI cZ cL : ClassId} {s : State} {H : Heap} {ws : va_W} {av : List Value} (hK : zK D cI cZ cL s) (hO : va_AO RX1 s) (hP : va_P D vwCl ws H) (hD : va_D (fun _ => True) ws) : PreS s H (zPn D cI cZ cL H.size av ws) av :=
  ⟨fun a U g mk q => ⟨q.1, q.2.1, q.2.2.1, q.2.2.2.1.calling, q.2.2.2.2.1, q.2.2.2.2.2⟩, fun U hU hW => ⟨rfl, by rw [hU], by rw [hU]; exact hP, hK.moved hW, hD, hO.moved hW.alike⟩⟩
