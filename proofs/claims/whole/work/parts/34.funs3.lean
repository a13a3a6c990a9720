/-- gatherValleys -/
def stG (nM nW : Nat) (vn od : Int → Int) (k : Nat) (q : Int × (Int → Int)) : Int × (Int → Int) :=
  if zat nM vn (od k) = -1 then q else (q.1 + 1, zput nW q.2 q.1 (od k))
theorem stG_t {nM nW : Nat} {vn od sv : Int → Int} {g i : Int} {q : Int × (Int → Int)} (h : (g, sv) = zit (stG nM nW vn od) i.toNat q) (h0 : 0 ≤ i) (hc : zat nM vn (od i) ≠ -1) : (g + 1, zput nW sv g (od i)) = zit (stG nM nW vn od) (i + 1).toNat q := by
  rw [zit_n h0, ← h, stG, Int.toNat_of_nonneg h0, if_neg hc]
theorem stG_f {nM nW : Nat} {vn od sv : Int → Int} {g i : Int} {q : Int × (Int → Int)} (h : (g, sv) = zit (stG nM nW vn od) i.toNat q) (h0 : 0 ≤ i) (hc : zat nM vn (od i) = -1) : (g, sv) = zit (stG nM nW vn od) (i + 1).toNat q := by
  rw [zit_n h0, ← h, stG, Int.toNat_of_nonneg h0, if_pos hc]
/-- stepsToNext -/
def zst (nM nV : Nat) (len vc : Int) (vn vl : Int → Int) (v : Int) : Int := (if zat nM vn v + 1 < vc then zat nV vl (zat nM vn v + 1) else len) - v
theorem zst_S {nM nV : Nat} {len vc : Int} {vn vl : Int → Int} {v : Int} (hl : 0 ≤ len ∧ len ≤ 1000000) (hvl : zS vl) (hv : -1000000 ≤ v ∧ v ≤ 1000000) : -2000000 ≤ zst nM nV len vc vn vl v ∧ zst nM nV len vc vn vl v ≤ 2000000 := by
  unfold zst
  have := zat_S hvl nV (zat nM vn v + 1)
  split <;> omega
/-- areAlike -/
noncomputable def zal (nM nV : Nat) (len vc : Int) (lt vn vl : Int → Int) (x y : Int) : Bool := @decide (zst nM nV len vc vn vl x = zst nM nV len vc vn vl y ∧ ∀ i, 0 ≤ i → i ≤ zst nM nV len vc vn vl x → zla len lt (x + i) = zla len lt (y + i)) (Classical.propDecidable _)
theorem zal_iff {nM nV : Nat} {len vc : Int} {lt vn vl : Int → Int} {x y : Int} : zal nM nV len vc lt vn vl x y = true ↔ (zst nM nV len vc vn vl x = zst nM nV len vc vn vl y ∧ ∀ i, 0 ≤ i → i ≤ zst nM nV len vc vn vl x → zla len lt (x + i) = zla len lt (y + i)) := by
  unfold zal; exact @decide_eq_true_iff _ (Classical.propDecidable _)
theorem zal_t {nM nV : Nat} {len vc : Int} {lt vn vl : Int → Int} {x y : Int} (h1 : zst nM nV len vc vn vl x = zst nM nV len vc vn vl y) (h2 : ∀ i, 0 ≤ i → i ≤ zst nM nV len vc vn vl x → zla len lt (x + i) = zla len lt (y + i)) : 1 = bi (zal nM nV len vc lt vn vl x y) := by
  rw [zal_iff.mpr ⟨h1, h2⟩]; rfl
theorem zal_f {nM nV : Nat} {len vc : Int} {lt vn vl : Int → Int} {x y : Int} (h : ¬ (zst nM nV len vc vn vl x = zst nM nV len vc vn vl y ∧ ∀ i, 0 ≤ i → i ≤ zst nM nV len vc vn vl x → zla len lt (x + i) = zla len lt (y + i))) : 0 = bi (zal nM nV len vc lt vn vl x y) := by
  have : zal nM nV len vc lt vn vl x y = false := by
    cases q : zal nM nV len vc lt vn vl x y with
    | true => exact absurd (zal_iff.mp q) h
    | false => rfl
  rw [this]; rfl
/-- nameValleys -/
noncomputable def stN (nM nV nW nP : Nat) (len vc : Int) (lt vn vl sv : Int → Int) (k : Nat) (q : Int × Int × (Int → Int)) : Int × Int × (Int → Int) :=
  if (k : Int) ≠ 0 ∧ zal nM nV len vc lt vn vl q.2.1 (zat nW sv k) = true then (q.1, zat nW sv k, zput nP q.2.2 (zat nM vn (zat nW sv k)) (q.1 - 1)) else (q.1 + 1, zat nW sv k, zput nP q.2.2 (zat nM vn (zat nW sv k)) (q.1 + 1 - 1))
section
variable {nM nV nW nP : Nat} {len vc : Int} {lt vn vl sv nm : Int → Int} {ct fo i : Int} {q : Int × Int × (Int → Int)}
theorem stN_a (h : (ct, fo, nm) = zit (stN nM nV nW nP len vc lt vn vl sv) i.toNat q) (h0 : 0 ≤ i) (hn : i ≠ 0) (hc : zal nM nV len vc lt vn vl fo (zat nW sv i) = true) : (ct, zat nW sv i, zput nP nm (zat nM vn (zat nW sv i)) (ct - 1)) = zit (stN nM nV nW nP len vc lt vn vl sv) (i + 1).toNat q := by
  rw [zit_n h0, ← h, stN, Int.toNat_of_nonneg h0, if_pos ⟨hn, hc⟩]
theorem stN_b (h : (ct, fo, nm) = zit (stN nM nV nW nP len vc lt vn vl sv) i.toNat q) (h0 : 0 ≤ i) (hc : zal nM nV len vc lt vn vl fo (zat nW sv i) = false) : (ct + 1, zat nW sv i, zput nP nm (zat nM vn (zat nW sv i)) (ct + 1 - 1)) = zit (stN nM nV nW nP len vc lt vn vl sv) (i + 1).toNat q := by
  rw [zit_n h0, ← h, stN, Int.toNat_of_nonneg h0, if_neg (fun z => by rw [hc] at z; exact absurd z.2 (by decide))]
theorem stN_c (h : (ct, fo, nm) = zit (stN nM nV nW nP len vc lt vn vl sv) i.toNat q) (h0 : 0 ≤ i) (hn : i = 0) : (ct + 1, zat nW sv i, zput nP nm (zat nM vn (zat nW sv i)) (ct + 1 - 1)) = zit (stN nM nV nW nP len vc lt vn vl sv) (i + 1).toNat q := by
  rw [zit_n h0, ← h, stN, Int.toNat_of_nonneg h0, if_neg (fun z => z.1 hn)]
end
/-- takeOrderFromBelow -/
def stT (nO nV nW : Nat) (od vl : Int → Int) (k : Nat) (sv : Int → Int) : Int → Int := zput nW sv k (zat nV vl (zat nO od k))
theorem stT_s {nO nV nW : Nat} {od vl sv q : Int → Int} {i : Int} (h : sv = zit (stT nO nV nW od vl) i.toNat q) (h0 : 0 ≤ i) : zput nW sv i (zat nV vl (zat nO od i)) = zit (stT nO nV nW od vl) (i + 1).toNat q := by
  rw [zit_n h0, ← h, stT, Int.toNat_of_nonneg h0]
