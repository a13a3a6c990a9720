/-! what the sorter's methods compute, as functions -/
def zS (f : Int → Int) : Prop := ∀ i, -1000000 ≤ f i ∧ f i ≤ 1000000
def zfill {α : Type} (lo hi : Int) (f g : Int → α) : Int → α := fun j => if lo ≤ j ∧ j < hi then f j else g j
theorem zfill_in {α : Type} {lo hi j : Int} {f g : Int → α} (h : lo ≤ j) (h2 : j < hi) : zfill lo hi f g j = f j := if_pos ⟨h, h2⟩
theorem zfill_out {α : Type} {lo hi j : Int} {f g : Int → α} (h : j < lo ∨ hi ≤ j) : zfill lo hi f g j = g j := if_neg (by omega)
theorem zfill_0 {α : Type} (lo : Int) (f g : Int → α) : g = zfill lo lo f g := by
  funext j; rw [zfill_out (by omega)]
theorem zfill_up {lo hi : Int} {f g : Int → Int} (h : lo ≤ hi) : zup (zfill lo hi f g) hi (f hi) = zfill lo (hi + 1) f g := by
  funext j
  by_cases e : j = hi
  · rw [e, zup_eq, zfill_in h (by omega)]
  · rw [zup_ne e]
    by_cases q : lo ≤ j ∧ j < hi
    · rw [zfill_in q.1 q.2, zfill_in q.1 (by omega)]
    · rw [zfill_out (by omega), zfill_out (by omega)]
def zupb (rs : Int → Bool) (k : Int) (b : Bool) : Int → Bool := fun j => if j = k then b else rs j
theorem zB_up (rs : Int → Bool) (k : Int) (b : Bool) : zup (zB rs) k (bi b) = zB (zupb rs k b) := by
  funext j
  by_cases e : j = k
  · rw [e, zup_eq]; simp [zB, zupb]
  · rw [zup_ne e]; simp [zB, zupb, e]
theorem zfill_dn {lo hi : Int} {f g : Int → Bool} (h : lo < hi) : zupb (zfill (lo + 1) hi f g) lo (f lo) = zfill lo hi f g := by
  funext j
  unfold zupb
  by_cases e : j = lo
  · rw [if_pos e, e, zfill_in (by omega) h]
  · rw [if_neg e]
    by_cases q : lo ≤ j ∧ j < hi
    · rw [zfill_in (by omega) q.2, zfill_in q.1 q.2]
    · rw [zfill_out (by omega), zfill_out (by omega)]
def zit {σ : Type} (f : Nat → σ → σ) : Nat → σ → σ
  | 0, s => s
  | k + 1, s => f k (zit f k s)
theorem zla_S {lt : Int → Int} (h : zS lt) (len i : Int) : -1000000 ≤ zla len lt i ∧ zla len lt i ≤ 1000000 := by
  unfold zla; split
  · exact h i
  · omega
theorem zat_S {g : Int → Int} (h : zS g) (n : Nat) (i : Int) : -1000000 ≤ zat n g i ∧ zat n g i ≤ 1000000 := by
  unfold zat; split
  · exact h i
  · omega
/-- placeFront, placeBack -/
def pfO (nO nN : Nat) (len : Int) (lt od ns : Int → Int) (x : Int) : Int → Int := zput nO od (zat nN ns (zla len lt x)) x
def pfN (nN : Nat) (len : Int) (lt ns : Int → Int) (x : Int) : Int → Int := zput nN ns (zla len lt x) (zat nN ns (zla len lt x) + 1)
def pbO (nO nN : Nat) (len : Int) (lt od ns : Int → Int) (x : Int) : Int → Int := zput nO od (zat nN ns (zla len lt x) - 1) x
def pbN (nN : Nat) (len : Int) (lt ns : Int → Int) (x : Int) : Int → Int := zput nN ns (zla len lt x) (zat nN ns (zla len lt x) - 1)
/-- startBuckets -/
def sbN (sg : Int) (nf : Nat) (fr : Int → Int) (on : Int) (ns : Int → Int) : Int → Int := zfill 0 sg (fun j => zat nf fr (j + on)) ns
/-- the rising ends, from the letters -/
def zris (len : Int) (lt : Int → Int) (i : Int) : Bool := sx_ris len.toNat (fun j => (lt (j : Int)).toNat) i.toNat
theorem zla_le {len : Int} {lt : Int → Int} (h : ∀ i, 0 ≤ i → i < len → 0 ≤ lt i) {i : Int} (h0 : 0 ≤ i) : zla len lt i = sx_le len.toNat (fun j => (lt (j : Int)).toNat) i.toNat := by
  unfold zla sx_le
  by_cases q : i < len
  · rw [if_pos ⟨h0, q⟩, if_pos (by omega)]
    have := h i h0 q
    show lt i = ((lt (i.toNat : Int)).toNat : Int)
    rw [Int.toNat_of_nonneg h0]; omega
  · rw [if_neg (by omega), if_neg (by omega)]
theorem zris_eq {len : Int} {lt : Int → Int} (h : ∀ i, 0 ≤ i → i < len → 0 ≤ lt i) {i : Int} (h0 : 0 ≤ i) (h1 : i < len) : zris len lt i = if zla len lt i = zla len lt (i + 1) then zris len lt (i + 1) else decide (zla len lt i < zla len lt (i + 1)) := by
  rw [zris, sx_ris_eq (by omega), zla_le h h0, zla_le h (i := i + 1) (by omega), zris, show (i + 1).toNat = i.toNat + 1 by omega]
theorem zris_ge {len : Int} {lt : Int → Int} {i : Int} (h : len ≤ i) : zris len lt i = false := sx_ris_ge (by omega)
/-- a step of markRising -/
theorem mr_same {len : Int} {lt : Int → Int} {rs0 : Int → Bool} (h : ∀ i, 0 ≤ i → i < len → 0 ≤ lt i) {i : Int} (h0 : 0 ≤ i) (h1 : i < len) (e : zla len lt i = zla len lt (i + 1)) : zir len (zfill (i + 1) len (zris len lt) rs0) (i + 1) = zris len lt i := by
  rw [zris_eq h h0 h1, if_pos e]
  by_cases q : i + 1 < len
  · rw [zir_in (by omega) q, zfill_in (by omega) q]
  · rw [zir_out (by omega), zris_ge (by omega)]
theorem mr_lt {len : Int} {lt : Int → Int} (h : ∀ i, 0 ≤ i → i < len → 0 ≤ lt i) {i : Int} (h0 : 0 ≤ i) (h1 : i < len) (e : zla len lt i < zla len lt (i + 1)) : zris len lt i = true := by
  rw [zris_eq h h0 h1, if_neg (by omega)]; exact decide_eq_true e
theorem mr_gt {len : Int} {lt : Int → Int} (h : ∀ i, 0 ≤ i → i < len → 0 ≤ lt i) {i : Int} (h0 : 0 ≤ i) (h1 : i < len) (n : zla len lt i ≠ zla len lt (i + 1)) (e : zla len lt (i + 1) ≤ zla len lt i) : zris len lt i = false := by
  rw [zris_eq h h0 h1, if_neg n]; exact decide_eq_false (by omega)
/-- findValleys -/
def zvl (len : Int) (rs : Int → Bool) (i : Int) : Bool := zir len rs i && zif len rs (i - 1)
def stV (nV : Nat) (len : Int) (rs : Int → Bool) (k : Nat) (q : (Int → Int) × (Int → Int) × Int) : (Int → Int) × (Int → Int) × Int :=
  if zvl len rs k = true then (zup q.1 k q.2.2, zput nV q.2.1 q.2.2 k, q.2.2 + 1) else (zup q.1 k (-1), q.2.1, q.2.2)
/-- findBuckets -/
def stC (nF nR : Nat) (len : Int) (lt : Int → Int) (rs : Int → Bool) (k : Nat) (q : (Int → Int) × (Int → Int)) : (Int → Int) × (Int → Int) :=
  if rs k = true then (q.1, zput nR q.2 (zla len lt k) (zat nR q.2 (zla len lt k) + 1)) else (zput nF q.1 (zla len lt k) (zat nF q.1 (zla len lt k) + 1), q.2)
def stB (k : Nat) (q : Int × (Int → Int) × (Int → Int)) : Int × (Int → Int) × (Int → Int) :=
  (q.1 + q.2.1 k + q.2.2 k, zup q.2.1 k q.1, zup q.2.2 k (q.1 + q.2.1 k))
/-- induceFalling, induceRising, the seeds -/
def stF (nO nN : Nat) (len : Int) (lt : Int → Int) (rs : Int → Bool) (k : Nat) (q : (Int → Int) × (Int → Int)) : (Int → Int) × (Int → Int) :=
  if zif len rs (q.1 k - 1) = true then (pfO nO nN len lt q.1 q.2 (q.1 k - 1), pfN nN len lt q.2 (q.1 k - 1)) else q
def stR (nO nN : Nat) (len : Int) (lt : Int → Int) (rs : Int → Bool) (k : Nat) (q : (Int → Int) × (Int → Int)) : (Int → Int) × (Int → Int) :=
  if zir len rs (q.1 (len - 1 - k) - 1) = true then (pbO nO nN len lt q.1 q.2 (q.1 (len - 1 - k) - 1), pbN nN len lt q.2 (q.1 (len - 1 - k) - 1)) else q
def stS (nO nN nS : Nat) (len : Int) (lt sd : Int → Int) (k : Nat) (q : (Int → Int) × (Int → Int)) : (Int → Int) × (Int → Int) :=
  (pfO nO nN len lt q.1 q.2 (zat nS sd k), pfN nN len lt q.2 (zat nS sd k))
section
variable {σ : Type} {f : Nat → σ → σ} {q s : σ} {i : Int}
theorem zit_n (h0 : 0 ≤ i) : zit f (i + 1).toNat q = f i.toNat (zit f i.toNat q) := by
  rw [show (i + 1).toNat = i.toNat + 1 by omega, zit]
theorem zit_0 : zit f (0 : Int).toNat q = q := rfl
end
theorem stF_t {nO nN : Nat} {len : Int} {lt : Int → Int} {rs : Int → Bool} {q : (Int → Int) × (Int → Int)} {od ns : Int → Int} {i : Int} (h : (od, ns) = zit (stF nO nN len lt rs) i.toNat q) (h0 : 0 ≤ i) (hc : zif len rs (od i - 1) = true) : (pfO nO nN len lt od ns (od i - 1), pfN nN len lt ns (od i - 1)) = zit (stF nO nN len lt rs) (i + 1).toNat q := by
  rw [zit_n h0, ← h, stF, Int.toNat_of_nonneg h0, if_pos hc]
theorem stF_f {nO nN : Nat} {len : Int} {lt : Int → Int} {rs : Int → Bool} {q : (Int → Int) × (Int → Int)} {od ns : Int → Int} {i : Int} (h : (od, ns) = zit (stF nO nN len lt rs) i.toNat q) (h0 : 0 ≤ i) (hc : zif len rs (od i - 1) = false) : (od, ns) = zit (stF nO nN len lt rs) (i + 1).toNat q := by
  rw [zit_n h0, ← h, stF, Int.toNat_of_nonneg h0, if_neg (by rw [hc]; decide)]
theorem stR_t {nO nN : Nat} {len : Int} {lt : Int → Int} {rs : Int → Bool} {q : (Int → Int) × (Int → Int)} {od ns : Int → Int} {i : Int} (h : (od, ns) = zit (stR nO nN len lt rs) (len - 1 - i).toNat q) (h0 : i ≤ len - 1) (hc : zir len rs (od i - 1) = true) : (pbO nO nN len lt od ns (od i - 1), pbN nN len lt ns (od i - 1)) = zit (stR nO nN len lt rs) (len - 1 - (i + (-1))).toNat q := by
  rw [show len - 1 - (i + (-1)) = (len - 1 - i) + 1 by omega, zit_n (by omega), ← h, stR, Int.toNat_of_nonneg (by omega), show len - 1 - (len - 1 - i) = i by omega, if_pos hc]
theorem stR_f {nO nN : Nat} {len : Int} {lt : Int → Int} {rs : Int → Bool} {q : (Int → Int) × (Int → Int)} {od ns : Int → Int} {i : Int} (h : (od, ns) = zit (stR nO nN len lt rs) (len - 1 - i).toNat q) (h0 : i ≤ len - 1) (hc : zir len rs (od i - 1) = false) : (od, ns) = zit (stR nO nN len lt rs) (len - 1 - (i + (-1))).toNat q := by
  rw [show len - 1 - (i + (-1)) = (len - 1 - i) + 1 by omega, zit_n (by omega), ← h, stR, Int.toNat_of_nonneg (by omega), show len - 1 - (len - 1 - i) = i by omega, if_neg (by rw [hc]; decide)]
theorem stS_s {nO nN nS : Nat} {len : Int} {lt sd : Int → Int} {q : (Int → Int) × (Int → Int)} {od ns : Int → Int} {i : Int} (h : (od, ns) = zit (stS nO nN nS len lt sd) i.toNat q) (h0 : 0 ≤ i) : (pfO nO nN len lt od ns (zat nS sd i), pfN nN len lt ns (zat nS sd i)) = zit (stS nO nN nS len lt sd) (i + 1).toNat q := by
  rw [zit_n h0, ← h, stS, Int.toNat_of_nonneg h0]
theorem stV_t {nV : Nat} {len : Int} {rs : Int → Bool} {q : (Int → Int) × (Int → Int) × Int} {vn vl : Int → Int} {vc i : Int} (h : (vn, vl, vc) = zit (stV nV len rs) i.toNat q) (h0 : 0 ≤ i) (hc : zvl len rs i = true) : (zup vn i vc, zput nV vl vc i, vc + 1) = zit (stV nV len rs) (i + 1).toNat q := by
  rw [zit_n h0, ← h, stV, Int.toNat_of_nonneg h0, if_pos hc]
theorem stV_f {nV : Nat} {len : Int} {rs : Int → Bool} {q : (Int → Int) × (Int → Int) × Int} {vn vl : Int → Int} {vc i : Int} (h : (vn, vl, vc) = zit (stV nV len rs) i.toNat q) (h0 : 0 ≤ i) (hc : zvl len rs i = false) : (zup vn i (-1), vl, vc) = zit (stV nV len rs) (i + 1).toNat q := by
  rw [zit_n h0, ← h, stV, Int.toNat_of_nonneg h0, if_neg (by rw [hc]; decide)]
theorem stC_t {nF nR : Nat} {len : Int} {lt : Int → Int} {rs : Int → Bool} {q : (Int → Int) × (Int → Int)} {ff rf : Int → Int} {i : Int} (h : (ff, rf) = zit (stC nF nR len lt rs) i.toNat q) (h0 : 0 ≤ i) (hc : rs i = true) : (ff, zput nR rf (zla len lt i) (zat nR rf (zla len lt i) + 1)) = zit (stC nF nR len lt rs) (i + 1).toNat q := by
  rw [zit_n h0, ← h, stC, Int.toNat_of_nonneg h0, if_pos hc]
theorem stC_f {nF nR : Nat} {len : Int} {lt : Int → Int} {rs : Int → Bool} {q : (Int → Int) × (Int → Int)} {ff rf : Int → Int} {i : Int} (h : (ff, rf) = zit (stC nF nR len lt rs) i.toNat q) (h0 : 0 ≤ i) (hc : rs i = false) : (zput nF ff (zla len lt i) (zat nF ff (zla len lt i) + 1), rf) = zit (stC nF nR len lt rs) (i + 1).toNat q := by
  rw [zit_n h0, ← h, stC, Int.toNat_of_nonneg h0, if_neg (by rw [hc]; decide)]
theorem stB_s {q : Int × (Int → Int) × (Int → Int)} {ff rf : Int → Int} {sl i : Int} (h : (sl, ff, rf) = zit stB i.toNat q) (h0 : 0 ≤ i) : (sl + ff i + rf i, zup ff i sl, zup rf i (sl + ff i)) = zit stB (i + 1).toNat q := by
  rw [zit_n h0, ← h, stB, Int.toNat_of_nonneg h0]
