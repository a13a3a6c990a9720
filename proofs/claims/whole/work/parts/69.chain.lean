theorem perm_pick {α : Type} {w w' : List α} (is : List Nat) (n : Nat) (hn : w.length = n) (h : is.Perm (List.range n)) (hp : is.map (fun i => w[i]?) = w'.map some) : w.Perm w' := by
  rw [← hn] at h
  have h1 : (is.map (fun i => w[i]?)).Perm ((List.range w.length).map (fun i => w[i]?)) := h.map _
  have h2 : (List.range w.length).map (fun i => w[i]?) = w.map some := by
    have := rg_app w []
    rw [List.append_nil] at this
    exact this
  rw [hp, h2] at h1
  have h3 := h1.filterMap id
  simp at h3
  exact h3.symm
section ZA
variable {p : Program} {l : Launch} {e : Env} {R : Room} {s : State} {m : MethodId} {args : Array Value} {below : List Frame} {meth : Method} {c : Code} {H : Heap} {locs : List Loc} {cells slots : Nat} {Q : State → Prop}
variable {cc : ByteArray} {pc : Nat} {ls : Array Slot} {rest : List Value} {a : Int} {D : va_G} {cl : List vw_C} {tys : List (ClassId × FieldType)} {ws : va_W} {ad : Nat}
theorem z_aald (hx : p.tables.exec = Jvm.exec) (hb : c.code = cc) (hK : va_K D cl tys s) (hP : va_P D cl ws H) (q0 t0 : Nat) {cA : ClassId} {C : String} {n : Nat} {g : Nat → Nat} (ha : ws[q0]? = some (ad, .inl (cA, n, .inr (.inr (.inr (.inr (fun k => some (g k)))))))) (ht : tys[t0]? = some (cA, .object C)) (hdg : decode cc pc = .ok (.aaload, 1)) (hr : zR a) (h0 : 0 ≤ a) (h1 : a < n)
    (kk : W p l e R s m args below meth c H locs cells slots Q (F0 m (pc + 1) ls (.ref (g a.toNat) :: rest))) : W p l e R s m args below meth c H locs cells slots Q (F0 m pc ls (.int (zI a) :: .ref ad :: rest)) :=
  va_aldq hx hb hK hP q0 t0 ha ht (zI_in hr h0 h1) hdg (by rw [zI_clamp hr]; exact kk)
end ZA
/-! the chain of texts, from the text down -/
abbrev GvT : Type := Int × Int × (Int → Int)
def lvOk (nlj : Nat) (K : Int) (g : GvT) : Prop := (1 ≤ g.1 ∧ g.1 ≤ 1000000) ∧ g.1 ≤ (nlj : Int) ∧ (0 ≤ g.2.1 ∧ g.2.1 ≤ K) ∧ (∀ i, 0 ≤ i → i < g.1 → 0 ≤ g.2.2 i ∧ g.2.2 i < g.2.1) ∧ zS g.2.2
def lvM (g : GvT) : Nat := te_ct (sx_val g.1.toNat (zt g.2.2)) g.1.toNat
def lvRed (g h : GvT) : Prop := h.1 = (lvM g : Nat) ∧ ∀ v w, sx_val g.1.toNat (zt g.2.2) v = true → sx_val g.1.toNat (zt g.2.2) w = true → sx_lt (lvM g) (zt h.2.2) (te_ct (sx_val g.1.toNat (zt g.2.2)) v) (te_ct (sx_val g.1.toNat (zt g.2.2)) w) → sx_lt g.1.toNat (zt g.2.2) v w
/-- the levels 0 .. d are texts, each the names of the one above -/
def lvCh (nl : Nat → Nat) (K : Int) (G : Nat → GvT) (d : Nat) : Prop := (∀ j, j ≤ d → lvOk (nl j) K (G j)) ∧ ∀ j, j < d → lvRed (G j) (G (j + 1))
/-- the seeds in their order -/
def lvSd (g : GvT) (sv : Int → Int) : Prop := ∃ S : Nat → Nat, (∀ k : Nat, k < lvM g → sv k = (S k : Int)) ∧ sdS g.1.toNat (zt g.2.2) S (lvM g) ∧ ∀ k l, k < l → l < lvM g → sx_lt g.1.toNat (zt g.2.2) (S k) (S l)
/-- the ends of a text in their order -/
def lvSa (g : GvT) (od : Int → Int) : Prop := (∀ x, x < g.1.toNat → ∃ s : Nat, s < g.1.toNat ∧ od s = (x : Int)) ∧ (∀ s : Nat, s < g.1.toNat → ∃ x : Nat, x < g.1.toNat ∧ od s = (x : Int)) ∧ (∀ s s' x y : Nat, s < s' → s' < g.1.toNat → od s = (x : Int) → od s' = (y : Int) → sx_lt g.1.toNat (zt g.2.2) x y)
theorem lvM_half (g : GvT) : 2 * (lvM g : Int) ≤ g.1 ∨ g.1 < 0 := by
  have := sx_val_half g.1.toNat (zt g.2.2) g.1.toNat
  unfold lvM
  omega
theorem lvSa_of {g : GvT} {S : Nat → Nat} {od : Int → Int} (hS : sdS g.1.toNat (zt g.2.2) S (lvM g)) (hs : ∀ k l, k < l → l < lvM g → sx_lt g.1.toNat (zt g.2.2) (S k) (S l)) (I : ipI g.1.toNat (zt g.2.2) S (lvM g) od) : lvSa g od := by
  obtain ⟨i1, i2, i3, i4, -, -⟩ := id I
  refine ⟨i1, i3, ?_⟩
  intro s s' x y h1 h2 ex ey
  have hx := (i2 s x (by omega) ex).1
  have hy := (i2 s' y h2 ey).1
  have hne : x ≠ y := fun e => by
    rw [← e] at ey
    have := i4 s s' x (by omega) h2 ex ey
    omega
  rcases sx_lt_tot (t := zt g.2.2) (Nat.le_of_lt hx) (Nat.le_of_lt hy) hne with q | q
  · exact q
  · have := ipI_sorted hS I hs h2 (by omega) ey ex q
    omega
theorem zS_takes {nO nV nW : Nat} {od vl sv : Int → Int} (hvl : zS vl) (hsv : zS sv) (k : Nat) : zS (zit (stT nO nV nW od vl) k sv) := by
  induction k with
  | zero => exact hsv
  | succ k ih => rw [zit, stT]; exact zS_put ih (zat_S hvl _ _)
theorem take_at {nO nV nW : Nat} {od vl sv : Int → Int} {m : Nat} (hW : (m : Int) ≤ nW) : ∀ k : Nat, k ≤ m → ∀ i : Nat, i < k → zit (stT nO nV nW od vl) k sv i = zat nV vl (zat nO od i) := by
  intro k
  induction k with
  | zero => intro _ i hi; omega
  | succ k ih =>
    intro hk i hi
    rw [zit, stT, zput_in (by omega) (by omega)]
    by_cases e : i = k
    · rw [e, zup_eq]
    · rw [zup_ne (by omega)]; exact ih (by omega) i (by omega)
/-- from the order of the names to the seeds of the text above -/
theorem lvSd_take {g h : GvT} {rs : Int → Bool} {vl vn ff rf od sv : Int → Int} {vc sg : Int} {nO nV nW : Nat} (E : zEn g.1 sg g.2.2 rs vl vn vc ff rf) (hr : lvRed g h) (hsa : lvSa h od) (hO : (lvM g : Int) ≤ nO) (hV : (lvM g : Int) ≤ nV) (hW : (lvM g : Int) ≤ nW) : lvSd g (zit (stT nO nV nW od vl) vc.toNat sv) := by
  have hm : vc = (lvM g : Nat) := E.2.1
  obtain ⟨va, vb, vd, ve⟩ := zEn_V2 E hm
  obtain ⟨r1, r2⟩ := hr
  obtain ⟨a1, a2, a3⟩ := hsa
  have hn : h.1.toNat = lvM g := by omega
  rw [hn] at a1 a2 a3
  have hat : ∀ i : Nat, i < lvM g → zit (stT nO nV nW od vl) vc.toNat sv i = (((vl (((od (i : Int)).toNat : Nat) : Int)).toNat : Nat) : Int) ∧ (od (i : Int)).toNat < lvM g ∧ od i = ((od (i : Int)).toNat : Int) := by
    intro i hi
    obtain ⟨x, x1, x2⟩ := a2 i hi
    obtain ⟨v, v1, v2, v3⟩ := zEn_V E x x1
    rw [show vc.toNat = lvM g by omega, take_at hW _ (Nat.le_refl _) i hi, zat_in (g := od) (by omega) (by omega), x2, Int.toNat_natCast, zat_in (by omega) (by omega), v1, Int.toNat_natCast]
    exact ⟨rfl, x1, rfl⟩
  refine ⟨fun k => (vl (((od (k : Int)).toNat : Nat) : Int)).toNat, fun k hk => (hat k hk).1, ⟨fun k hk => va _ (hat k hk).2.1, ?_, ?_⟩, ?_⟩
  · intro k l hk hl e
    have e' : (vl (((od (k : Int)).toNat : Nat) : Int)).toNat = (vl (((od (l : Int)).toNat : Nat) : Int)).toNat := e
    have e1 := ve _ (hat k hk).2.1
    have e2 := ve _ (hat l hl).2.1
    rw [e', e2] at e1
    rcases Nat.lt_trichotomy k l with q | q | q
    · have := a3 k l _ _ q hl (hat k hk).2.2 (hat l hl).2.2
      rw [e1] at this
      exact absurd this sx_lt_ir
    · exact q
    · have := a3 l k _ _ q hk (hat l hl).2.2 (hat k hk).2.2
      rw [e1] at this
      exact absurd this sx_lt_ir
  · intro v hv
    obtain ⟨d1, d2⟩ := vd v hv
    obtain ⟨s, s1, s2⟩ := a1 _ d1
    refine ⟨s, s1, ?_⟩
    show (vl (((od (s : Int)).toNat : Nat) : Int)).toNat = v
    rw [s2, Int.toNat_natCast]; exact d2
  · intro k l hkl hl
    have h1 := hat k (by omega)
    have h2 := hat l hl
    have := a3 k l _ _ hkl hl h1.2.2 h2.2.2
    refine r2 _ _ (va _ h1.2.1) (va _ h2.2.1) ?_
    rw [ve _ h1.2.1, ve _ h2.2.1]; exact this
/-- a level, entered and its valleys sorted as far as their names: the next level is a text, or the seeds are in order -/
theorem lv_step {g : GvT} {nlj : Nat} {K : Int} {rs : Int → Bool} {vl vn ff rf od sv nm : Int → Int} {vc : Int} {nM nV nW nP : Nat} (ok : lvOk nlj K g) (E : zEn g.1 g.2.1 g.2.2 rs vl vn vc ff rf) (hM : g.1 ≤ (nM : Int)) (hV : (lvM g : Int) ≤ nV) (hW : (lvM g : Int) ≤ nW) (hP : (lvM g : Int) ≤ nP) (hsv : zS sv) (hnm : zS nm) (I : ipI g.1.toNat (zt g.2.2) (fun j => (vl (j : Nat)).toNat) (lvM g) od) (hK : (lvM g : Int) ≤ K) :
    zS (zit (stG nM nW vn od) g.1.toNat (0, sv)).2 ∧
    zR (zit (stN nM nV nW nP g.1 vc g.2.2 vn vl (zit (stG nM nW vn od) g.1.toNat (0, sv)).2) vc.toNat (0, -1, nm)).1 ∧
    ((zit (stN nM nV nW nP g.1 vc g.2.2 vn vl (zit (stG nM nW vn od) g.1.toNat (0, sv)).2) vc.toNat (0, -1, nm)).1 = vc → lvSd g (zit (stG nM nW vn od) g.1.toNat (0, sv)).2) ∧
    ((zit (stN nM nV nW nP g.1 vc g.2.2 vn vl (zit (stG nM nW vn od) g.1.toNat (0, sv)).2) vc.toNat (0, -1, nm)).1 ≠ vc → lvOk nP K (vc, (zit (stN nM nV nW nP g.1 vc g.2.2 vn vl (zit (stG nM nW vn od) g.1.toNat (0, sv)).2) vc.toNat (0, -1, nm)).1, (zit (stN nM nV nW nP g.1 vc g.2.2 vn vl (zit (stG nM nW vn od) g.1.toNat (0, sv)).2) vc.toNat (0, -1, nm)).2.2) ∧ lvRed g (vc, (zit (stN nM nV nW nP g.1 vc g.2.2 vn vl (zit (stG nM nW vn od) g.1.toNat (0, sv)).2) vc.toNat (0, -1, nm)).1, (zit (stN nM nV nW nP g.1 vc g.2.2 vn vl (zit (stG nM nW vn od) g.1.toNat (0, sv)).2) vc.toNat (0, -1, nm)).2.2)) ∧
    zS (zit (stN nM nV nW nP g.1 vc g.2.2 vn vl (zit (stG nM nW vn od) g.1.toNat (0, sv)).2) vc.toNat (0, -1, nm)).2.2 := by
  obtain ⟨o1, o2, o3, o4, o5⟩ := ok
  have hm : vc = (lvM g : Nat) := E.2.1
  have hS := zEn_sd E hm
  obtain ⟨g1, SV, g2, g3⟩ := gat_all ⟨by omega, o1.2⟩ hM E hm hW hS I hsv
  obtain ⟨n1, n2, n3, n4, n5, n6, n7⟩ := nam_all (nP := nP) ⟨by omega, o1.2⟩ (fun i a b => (o4 i a b).1) hM E hm hV hW hP g2 g3 hnm
  have hmn : vc.toNat = lvM g := by omega
  have hhalf := lvM_half g
  obtain ⟨va, vb, vd, ve⟩ := zEn_V2 E hm
  rw [hmn]
  refine ⟨g1, by omega, ?_, ?_, n1⟩
  · intro h
    exact ⟨SV, g2, g3.1, n7 (by omega)⟩
  · intro h
    have hm1 : 1 ≤ lvM g := by
      rcases Nat.eq_zero_or_pos (lvM g) with z | z
      · exfalso; apply h; rw [z] at n3 n2 ⊢; omega
      · exact z
    refine ⟨⟨by show 1 ≤ vc ∧ vc ≤ 1000000; omega, by show vc ≤ (nP : Int); omega, ?_, ?_, n1⟩, hm, ?_⟩
    · have := n4 hm1
      exact ⟨n2, Int.le_trans n3 hK⟩
    · intro i i0 i1
      have i1' : i < vc := i1
      have := n5 i.toNat (by omega)
      rw [Int.toNat_of_nonneg i0] at this
      exact this
    · intro v w hv hw hlt
      have := n6 _ _ (vd v hv).1 (vd w hw).1 hlt
      rw [(vd v hv).2, (vd w hw).2] at this
      exact this
/-- the last level: one valley at most -/
theorem lv_last {g : GvT} {nlj : Nat} {K : Int} {rs : Int → Bool} {vl vn ff rf od sv : Int → Int} {vc : Int} {nM nW : Nat} (ok : lvOk nlj K g) (E : zEn g.1 g.2.1 g.2.2 rs vl vn vc ff rf) (hM : g.1 ≤ (nM : Int)) (hW : (lvM g : Int) ≤ nW) (hsv : zS sv) (I : ipI g.1.toNat (zt g.2.2) (fun j => (vl (j : Nat)).toNat) (lvM g) od) (h3 : nlj ≤ 3) : zS (zit (stG nM nW vn od) g.1.toNat (0, sv)).2 ∧ lvSd g (zit (stG nM nW vn od) g.1.toNat (0, sv)).2 := by
  obtain ⟨o1, o2, o3, o4, o5⟩ := ok
  have hm : vc = (lvM g : Nat) := E.2.1
  have hS := zEn_sd E hm
  obtain ⟨g1, SV, g2, g3⟩ := gat_all ⟨by omega, o1.2⟩ hM E hm hW hS I hsv
  have hhalf := lvM_half g
  exact ⟨g1, SV, g2, g3.1, fun k l h1 h2 => by omega⟩
theorem lv_in1 {cI : ClassId} {L : Nat} {la lb nl : Nat → Nat} {G : Nat → GvT} {i : Nat} (hi : i < L) (fx : va_W) : (fx ++ (lvC cI (la i, lb i, nl i, G i) ++ lvR cI L (fun k => (la k, lb k, nl k, G k)) i)).Perm (fx ++ lvP cI L (fun k => (la k, lb k, nl k, G k))) :=
  List.Perm.append_left fx (lv_out (F := fun k => (la k, lb k, nl k, G k)) hi).symm
theorem lv_in2 {cI : ClassId} {L : Nat} {la lb nl : Nat → Nat} {G : Nat → GvT} {i j : Nat} {x : GvT} (hi : i < L) (hj : j < L) (hij : i ≠ j) (fx : va_W) : (fx ++ (lvC cI (la i, lb i, nl i, G i) ++ (lvC cI (la j, lb j, nl j, x) ++ lvR2 cI L (fun k => (la k, lb k, nl k, G k)) i j))).Perm (fx ++ lvP cI L (fun k => (la k, lb k, nl k, te_fu G j x k))) := by
  refine List.Perm.append_left fx ?_
  have h1 := lv_out (cI := cI) (F := fun k => (la k, lb k, nl k, te_fu G j x k)) hi
  have h2 := lv_out2 (cI := cI) (F := fun k => (la k, lb k, nl k, te_fu G j x k)) hj hij
  have e1 : te_fu G j x i = G i := te_fu_ne hij
  have e2 : te_fu G j x j = x := te_fu_eq _ _ _
  have e3 : lvR2 cI L (fun k => (la k, lb k, nl k, te_fu G j x k)) i j = lvR2 cI L (fun k => (la k, lb k, nl k, G k)) i j := lvR2_cg (fun k _ hk => by rw [te_fu_ne hk])
  have h3 := h1.trans (List.Perm.append_left _ h2)
  rw [e3] at h3
  simp only [e1, e2] at h3
  exact h3.symm
theorem lv_in1u {cI : ClassId} {L : Nat} {la lb nl : Nat → Nat} {G : Nat → GvT} {i : Nat} {x : GvT} (hi : i < L) (fx : va_W) : (fx ++ (lvC cI (la i, lb i, nl i, x) ++ lvR cI L (fun k => (la k, lb k, nl k, G k)) i)).Perm (fx ++ lvP cI L (fun k => (la k, lb k, nl k, te_fu G i x k))) := by
  refine List.Perm.append_left fx ?_
  have h1 := lv_out (cI := cI) (F := fun k => (la k, lb k, nl k, te_fu G i x k)) hi
  have e2 : te_fu G i x i = x := te_fu_eq _ _ _
  have e3 : lvR cI L (fun k => (la k, lb k, nl k, te_fu G i x k)) i = lvR cI L (fun k => (la k, lb k, nl k, G k)) i := lvR_cg (fun k hk => by rw [te_fu_ne hk])
  rw [e3] at h1
  simp only [e2] at h1
  exact h1.symm
theorem zmin_l {a b : Int} (h : a ≤ b) : zmin a b = a := by unfold zmin; rw [if_neg (by omega)]
/-- the rows' rooms: nO places of the order, half as many valleys, K letters, levels of half the room each -/
def lvCap (L : Nat) (nl : Nat → Nat) (nO nr nV nM nW nF nR nN : Nat) : Prop := (nr = nO ∧ nM = nO ∧ (nO : Int) ≤ 2 * (nV : Int) + 1 ∧ (nO : Int) ≤ 2 * (nW : Int) + 1 ∧ nF = nN + 1 ∧ nR = nN ∧ (nO : Int) ≤ 2 * (nN : Int) + 1 ∧ nO ≤ 1000000 ∧ nV ≤ 1000000 ∧ nW ≤ 1000000 ∧ nN ≤ 1000000) ∧ (∀ j, nl j ≤ nO) ∧ (∀ j, j + 1 < L → nl j ≤ 2 * nl (j + 1) + 1) ∧ (∀ j, L ≤ j + 1 → nl j ≤ 3) ∧ 1 ≤ L ∧ L ≤ 1000000
