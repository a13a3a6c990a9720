/-! what the methods of TextEnds compute -/
theorem zcf_S {T : Int → Int} {a b : Int} (f : Nat) (k : Int) : k ≤ zcf T a b f k ∧ zcf T a b f k ≤ k + f := zcf_le f k
theorem zcm_S {len : Int} {T : Int → Int} {a b k : Int} (ha : 0 ≤ a) (hb : 0 ≤ b) (hk : 0 ≤ k) (hl : k ≤ len) : k ≤ zcm len T a b k ∧ zcm len T a b k ≤ len := by
  have h1 := zcf_le (T := T) (a := a) (b := b) (len - zmax a b - k).toNat k
  have h2 := zmax_ge (a := a) (b := b)
  unfold zcm
  omega
def zcw (len : Int) (T pt : Int → Int) (pl : Int) : Nat → Int → Int
  | 0, _ => 0
  | f + 1, i => if len ≤ pl + i then -1 else if T (pl + i) - pt i = 0 then zcw len T pt pl f (i + 1) else T (pl + i) - pt i
theorem zcw_S {len : Int} {T pt : Int → Int} {pl : Int} (hT : zS T) (hp : zS pt) (f : Nat) : ∀ i, -2000000 ≤ zcw len T pt pl f i ∧ zcw len T pt pl f i ≤ 2000000 := by
  induction f with
  | zero => intro i; rw [zcw]; omega
  | succ f ih =>
    intro i
    rw [zcw]
    have := hT (pl + i)
    have := hp i
    split
    · omega
    · split
      · exact ih _
      · omega
def zbs (f : Int → Bool) : Nat → Int → Int → Int
  | 0, lo, _ => lo
  | n + 1, lo, hi => if lo < hi then (if f ((lo + hi) / 2) = true then zbs f n ((lo + hi) / 2 + 1) hi else zbs f n lo ((lo + hi) / 2)) else lo
theorem zbs_t {f : Int → Bool} {n : Nat} {lo hi : Int} (h : lo < hi) (hf : f ((lo + hi) / 2) = true) : zbs f n ((lo + hi) / 2 + 1) hi = zbs f (n + 1) lo hi := by rw [zbs, if_pos h, if_pos hf]
theorem zbs_f {f : Int → Bool} {n : Nat} {lo hi : Int} (h : lo < hi) (hf : f ((lo + hi) / 2) = false) : zbs f n lo ((lo + hi) / 2) = zbs f (n + 1) lo hi := by rw [zbs, if_pos h, if_neg (by rw [hf]; decide)]
theorem zbs_e {f : Int → Bool} {n : Nat} {lo hi : Int} (h : hi ≤ lo) : zbs f n lo hi = lo := by
  cases n with
  | zero => rfl
  | succ n => rw [zbs, if_neg (by omega)]
theorem zbs_m {f : Int → Bool} : ∀ (n m : Nat) (lo hi : Int), (hi - lo).toNat ≤ n → (hi - lo).toNat ≤ m → zbs f n lo hi = zbs f m lo hi := by
  intro n
  induction n with
  | zero => intro m lo hi h1 h2; rw [zbs_e (by omega), zbs_e (by omega)]
  | succ n ih =>
    intro m lo hi h1 h2
    by_cases h : lo < hi
    · cases m with
      | zero => omega
      | succ m =>
        rw [zbs, zbs, if_pos h, if_pos h]
        split
        · exact ih m _ _ (by omega) (by omega)
        · exact ih m _ _ (by omega) (by omega)
    · rw [zbs_e (by omega), zbs_e (by omega)]
def zff (len : Int) (T pt od : Int → Int) (ps : Int) (least : Int) : Int := zbs (fun m => decide (zcw len T pt (od m) ps.toNat 0 < least)) len.toNat 0 len
def zfn (c : Int → Int) (m : Int) : Nat → Int → Int
  | 0, k => k
  | f + 1, k => if c k = m then k else zfn c m f (k + 1)
theorem zfn_at {c : Int → Int} {m k : Int} {f : Nat} (h : c k = m) : zfn c m f k = k := by
  cases f with
  | zero => rfl
  | succ f => rw [zfn, if_pos h]
theorem zfn_nx {c : Int → Int} {m k : Int} {f : Nat} (h : c k ≠ m) : zfn c m (f + 1) k = zfn c m f (k + 1) := by rw [zfn, if_neg h]
theorem zls_nx {c od : Int → Int} {m k x : Int} {f : Nat} (h : c k = m) : zls c od m (f + 1) k x = zls c od m f (k + 1) (zmin x (od k)) := by rw [zls, if_pos h]; rfl
theorem zls_at {c od : Int → Int} {m k x : Int} {f : Nat} (h : c k ≠ m) : zls c od m f k x = x := by
  cases f with
  | zero => rfl
  | succ f => rw [zls, if_neg h]
theorem zls_0 {c od : Int → Int} {m k x len : Int} (h : len ≤ k) : zls c od m (len - k).toNat k x = x := by rw [show (len - k).toNat = 0 by omega]; rfl
theorem zfn_0 {c : Int → Int} {m k len : Int} (h : len ≤ k) : zfn c m (len - k).toNat k = k := by rw [show (len - k).toNat = 0 by omega]; rfl
def zlp (len : Int) (nO : Nat) (c od : Int → Int) (m : Int) : Int := zls c od m (len - zfn c m (len - 1).toNat 1).toNat (zfn c m (len - 1).toNat 1) (zat nO od (zfn c m (len - 1).toNat 1 - 1))
def zra2 (bt len : Int) (nO : Nat) (c od : Int → Int) : Int := if bt = 0 ∨ zmx c len ≤ 0 then -1 else zlp len nO c od (zmx c len)
def zhc (ht : Int) (nO : Nat) (od : Int → Int) (fh k : Int) : Int := if 0 ≤ k ∧ k < ht then zat nO od (fh + k) else -1
def stK (nS : Nat) (od : Int → Int) (k : Nat) (sd : Int → Int) : Int → Int := zput nS sd (od k) k
theorem stK_s {nS : Nat} {od sd q : Int → Int} {i : Int} (h : sd = zit (stK nS od) i.toNat q) (h0 : 0 ≤ i) : zput nS sd (od i) i = zit (stK nS od) (i + 1).toNat q := by
  rw [zit_n h0, ← h, stK, Int.toNat_of_nonneg h0]
def mnk (nO : Nat) (len : Int) (T od sd : Int → Int) (k kn : Int) : Int := if 0 < sd k then zcm len T (zat nO od (sd k - 1)) k kn else 0
def stMN (nO nA : Nat) (len : Int) (T od sd : Int → Int) (k : Nat) (q : Int × (Int → Int)) : Int × (Int → Int) := (zmax 0 (mnk nO len T od sd k q.1 - 1), zput nA q.2 (sd k) (mnk nO len T od sd k q.1))
theorem stMN_s {nO nA : Nat} {len : Int} {T od sd al : Int → Int} {kn i v : Int} {q : Int × (Int → Int)} (h : (kn, al) = zit (stMN nO nA len T od sd) i.toNat q) (h0 : 0 ≤ i) (hv : v = mnk nO len T od sd i kn) : (zmax 0 (v - 1), zput nA al (sd i) v) = zit (stMN nO nA len T od sd) (i + 1).toNat q := by
  rw [zit_n h0, ← h, stMN, Int.toNat_of_nonneg h0, hv]
theorem z_ush1 {a : Int} (h0 : 0 ≤ a) (h1 : a < 2147483648) : ((zI a).toUInt32 >>> ((zI 1).toUInt32 &&& Int32.toUInt32 31)).toInt32 = zI (a / 2) := by
  have e : zI a = nI a.toNat := by rw [show a = (a.toNat : Int) by omega, zI_nat, Int.toNat_natCast]; rfl
  rw [e, pk_ushrN (by omega) (zI 1) 1 (by decide), show a / 2 = ((a.toNat / 2 ^ 1 : Nat) : Int) by omega, zI_nat]; rfl
theorem zlc_t {bt sz : Int} {g : Int → Int} {i : Int} (h1 : zie bt sz i = true) (h2 : 0 < i) : g i = zlc bt sz g i := (if_pos ⟨h1, h2⟩).symm
theorem zlc_a {bt sz : Int} {g : Int → Int} {i : Int} (h1 : i ≤ 0) : -1 = zlc bt sz g i := (if_neg (by omega)).symm
theorem zlc_b {bt sz : Int} {g : Int → Int} {i : Int} (h1 : zie bt sz i = false) : -1 = zlc bt sz g i := (if_neg (fun z => by rw [h1] at z; exact absurd z.1 (by decide))).symm
