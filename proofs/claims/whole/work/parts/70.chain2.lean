theorem lvCh_cg {nl : Nat → Nat} {K : Int} {G G' : Nat → GvT} {d : Nat} (h : lvCh nl K G d) (e : ∀ j, j ≤ d → G' j = G j) : lvCh nl K G' d :=
  ⟨fun j hj => by rw [e j hj]; exact h.1 j hj, fun j hj => by rw [e j (by omega), e (j + 1) (by omega)]; exact h.2 j hj⟩
theorem lvCh_s {nl : Nat → Nat} {K : Int} {G G' : Nat → GvT} {d : Nat} {x : GvT} (h : lvCh nl K G d) (hx : lvOk (nl (d + 1)) K x) (hr : lvRed (G d) x) (e : ∀ j, j ≤ d → G' j = G j) (e2 : G' (d + 1) = x) : lvCh nl K G' (d + 1) := by
  refine ⟨fun j hj => ?_, fun j hj => ?_⟩
  · rcases Nat.lt_or_ge d j with l | l
    · rw [show j = d + 1 by omega, e2]; exact hx
    · rw [e j l]; exact h.1 j l
  · rcases Nat.lt_or_ge j d with l | l
    · rw [e j (by omega), e (j + 1) (by omega)]; exact h.2 j l
    · rw [show j = d by omega, e d (Nat.le_refl d), e2]; exact hr
theorem zEn_vl {len sg : Int} {lt : Int → Int} {rs : Int → Bool} {vl vn ff rf : Int → Int} {vc : Int} (E : zEn len sg lt rs vl vn vc ff rf) : ∀ k : Nat, k < te_ct (sx_val len.toNat (zt lt)) len.toNat → vl k = (((fun j : Nat => (vl (j : Nat)).toNat) k : Nat) : Int) := by
  intro k hk
  obtain ⟨v, a, -, -⟩ := zEn_V E k hk
  show vl k = (((vl (k : Int)).toNat : Nat) : Int)
  rw [a]; rfl
theorem zS_G {G : Nat → GvT} {j : Nat} {x : GvT} (h : ∀ j, zS (G j).2.2) (hx : zS x.2.2) : ∀ k, zS (te_fu G j x k).2.2 := by
  intro k
  by_cases e : k = j
  · rw [e, te_fu_eq]; exact hx
  · rw [te_fu_ne e]; exact h k
