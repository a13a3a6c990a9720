/-! how many levels; shifts and halves -/
def zlf : Nat → Int → Int → Int
  | 0, k, _ => k
  | f + 1, k, v => if v ≤ 1 then k else zlf f (k + 1) (v / 2)
def zlv (room : Int) : Int := zlf (room / 2).toNat 1 (room / 2)
theorem zlf_m : ∀ (f f' : Nat) (k v : Int), 0 ≤ v → v.toNat ≤ f → v.toNat ≤ f' → zlf f k v = zlf f' k v := by
  intro f
  induction f with
  | zero =>
    intro f' k v h0 h1 h2
    cases f' with
    | zero => rfl
    | succ f' => rw [zlf, zlf, if_pos (by omega)]
  | succ f ih =>
    intro f' k v h0 h1 h2
    cases f' with
    | zero => rw [zlf, zlf, if_pos (by omega)]
    | succ f' =>
      rw [zlf, zlf]
      split
      · rfl
      · exact ih f' _ _ (by omega) (by omega) (by omega)
theorem zlf_s {k v : Int} (h : ¬ v ≤ 1) : zlf (v / 2).toNat (k + 1) (v / 2) = zlf v.toNat k v := by
  rw [show v.toNat = (v.toNat - 1) + 1 by omega, zlf, if_neg h]
  exact zlf_m _ _ _ _ (by omega) (Nat.le_refl _) (by omega)
theorem zlf_e {f : Nat} {k v : Int} (h : v ≤ 1) : zlf f k v = k := by
  cases f with
  | zero => rfl
  | succ f => rw [zlf, if_pos h]
set_option maxRecDepth 100000 in
theorem zlv_all : ∀ r : Fin 1001, 1 ≤ r.val → 1 ≤ zlv r.val ∧ zlv r.val ≤ 10 ∧ r.val / 2 ^ ((zlv r.val).toNat) ≤ 1 := by decide +kernel
theorem zlv_ok {room : Nat} (h1 : 1 ≤ room) (h2 : room ≤ 1000) : 1 ≤ zlv room ∧ zlv room ≤ 10 ∧ room / 2 ^ ((zlv room).toNat) ≤ 1 := zlv_all ⟨room, by omega⟩ h1
theorem z_half {a : Int} (h0 : 0 ≤ a) (h1 : a < 2147483648) : zI a / zI 2 = zI (a / 2) := by
  have e : zI a = nI a.toNat := by rw [show a = (a.toNat : Int) by omega, zI_nat, Int.toNat_natCast]; rfl
  rw [e, show zI 2 = nI 2 from rfl, pk_div (by omega) (by omega) (by omega), show nI (a.toNat / 2) = zI ((a.toNat / 2 : Nat) : Int) from (zI_nat _).symm]
  congr 1; omega
theorem z_shk : ∀ k : Fin 32, ((zI (k.val : Int) &&& 31).toBitVec.smod 32).toNat = k.val := by decide +kernel
theorem z_shrI {a i : Int} (h0 : 0 ≤ a) (h1 : a < 2147483648) (i0 : 0 ≤ i) (i1 : i < 32) : zI a >>> (zI i &&& 31) = zI ((a.toNat / 2 ^ i.toNat : Nat) : Int) := by
  have e : zI a = nI a.toNat := by rw [show a = (a.toNat : Int) by omega, zI_nat, Int.toNat_natCast]; rfl
  have hs := z_shk ⟨i.toNat, by omega⟩
  have hs : ((zI ((i.toNat : Nat) : Int) &&& 31).toBitVec.smod 32).toNat = i.toNat := hs
  rw [Int.toNat_of_nonneg i0] at hs
  rw [e, pk_shrN (by omega) _ i.toNat hs, zI_nat]; rfl
