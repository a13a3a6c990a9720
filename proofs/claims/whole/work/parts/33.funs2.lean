theorem mr_step {len : Int} {lt : Int → Int} {rs rr : Int → Bool} {i v : Int} (hrr : rr = zfill (i + 1) len (zris len lt) rs) (h1 : i < len) (hv : v = bi (zris len lt i)) : zup (zB rr) i v = zB (zfill i len (zris len lt) rs) := by
  rw [hv, hrr, zB_up]
  exact congrArg zB (zfill_dn h1)
theorem zvl_t {len : Int} {rs : Int → Bool} {i : Int} (ha : bi (zir len rs i) ≠ 0) (hb : bi (zif len rs (i - 1)) ≠ 0) : zvl len rs i = true := by
  rw [zvl, bi_ne ha, bi_ne hb]; rfl
theorem zvl_f1 {len : Int} {rs : Int → Bool} {i : Int} (ha : bi (zir len rs i) = 0) : zvl len rs i = false := by
  rw [zvl, bi_eq ha]; rfl
theorem zvl_f2 {len : Int} {rs : Int → Bool} {i : Int} (ha : bi (zif len rs (i - 1)) = 0) : zvl len rs i = false := by
  rw [zvl, bi_eq ha, Bool.and_false]
def fvq (nV : Nat) (len : Int) (rs : Int → Bool) (vn vl : Int → Int) : (Int → Int) × (Int → Int) × Int := zit (stV nV len rs) len.toNat (vn, vl, 0)
def fbC (nF nR : Nat) (len sg : Int) (lt : Int → Int) (rs : Int → Bool) (ff rf : Int → Int) : (Int → Int) × (Int → Int) := zit (stC nF nR len lt rs) len.toNat (zfill 0 sg (fun _ => 0) ff, zfill 0 sg (fun _ => 0) rf)
def fbB (nF nR : Nat) (len sg : Int) (lt : Int → Int) (rs : Int → Bool) (ff rf : Int → Int) : Int × (Int → Int) × (Int → Int) := zit stB sg.toNat (0, (fbC nF nR len sg lt rs ff rf).1, (fbC nF nR len sg lt rs ff rf).2)
def ifq0 (nO nN nF : Nat) (len sg : Int) (lt ff od ns : Int → Int) : (Int → Int) × (Int → Int) := (pfO nO nN len lt od (sbN sg nF ff 0 ns) (len - 1), pfN nN len lt (sbN sg nF ff 0 ns) (len - 1))
def inS (nO nN nS nR : Nat) (len sg vc : Int) (lt rf od ns sd : Int → Int) : (Int → Int) × (Int → Int) := zit (stS nO nN nS len lt sd) vc.toNat (zfill 0 len (fun _ => -1) od, sbN sg nR rf 0 ns)
def inF (nO nN nS nF nR : Nat) (len sg vc : Int) (lt : Int → Int) (rs : Int → Bool) (ff rf od ns sd : Int → Int) : (Int → Int) × (Int → Int) := zit (stF nO nN len lt rs) len.toNat (ifq0 nO nN nF len sg lt ff (inS nO nN nS nR len sg vc lt rf od ns sd).1 (inS nO nN nS nR len sg vc lt rf od ns sd).2)
def inR (nO nN nS nF nR : Nat) (len sg vc : Int) (lt : Int → Int) (rs : Int → Bool) (ff rf od ns sd : Int → Int) : (Int → Int) × (Int → Int) := zit (stR nO nN len lt rs) len.toNat ((inF nO nN nS nF nR len sg vc lt rs ff rf od ns sd).1, sbN sg nF ff 1 (inF nO nN nS nF nR len sg vc lt rs ff rf od ns sd).2)
theorem sbN_S {sg : Int} {nf : Nat} {fr ns : Int → Int} {on : Int} (hf : zS fr) (hn : zS ns) : zS (sbN sg nf fr on ns) := by
  intro i
  unfold sbN
  by_cases q : 0 ≤ i ∧ i < sg
  · rw [zfill_in q.1 q.2]; exact zat_S hf _ _
  · rw [zfill_out (by omega)]; exact hn i
