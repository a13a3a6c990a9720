theorem mnk_S {nO : Nat} {len : Int} {T od sd : Int → Int} {k kn : Int} (hlO : len ≤ (nO : Int)) (hod : ∀ i, 0 ≤ i → i < len → 0 ≤ od i ∧ od i < len) (hs : 0 ≤ sd k ∧ sd k < len) (hk : 0 ≤ k) (hn : 0 ≤ kn ∧ kn ≤ len) : 0 ≤ mnk nO len T od sd k kn ∧ mnk nO len T od sd k kn ≤ len := by
  unfold mnk
  split
  · have h1 := hod (sd k - 1) (by omega) (by omega)
    rw [zat_in (by omega) (by omega)]
    have := zcm_S (len := len) (T := T) (a := od (sd k - 1)) (b := k) (k := kn) h1.1 hk hn.1 hn.2
    omega
  · omega
/-! bytes of ints -/
theorem zI_tn (v : Int) : (zI v).toBitVec.toNat = (v % 4294967296).toNat := by
  show (BitVec.ofInt 32 v).toNat = _
  rw [BitVec.toNat_ofInt]; rfl
theorem z_and255 (v : Int) : zI v &&& zI 255 = zI (v % 256) := by
  rw [pk_and (zI v) 8 (by decide), zI_tn]
  have : ((v % 4294967296).toNat % 2 ^ 8 : Nat) = (v % 256).toNat := by omega
  rw [this, show nI (v % 256).toNat = zI ((v % 256).toNat : Int) from (zI_nat _).symm, Int.toNat_of_nonneg (by omega)]
theorem z_and3 {v : Int} : zI v &&& zI 3 = zI (v % 4) := by
  rw [pk_and (zI v) 2 (by decide), zI_tn]
  have : ((v % 4294967296).toNat % 2 ^ 2 : Nat) = (v % 4).toNat := by omega
  rw [this, show nI (v % 4).toNat = zI ((v % 4).toNat : Int) from (zI_nat _).symm, Int.toNat_of_nonneg (by omega)]
def zwd (w1 w2 w3 w4 i : Int) : Int := if i < 4 then w1 else if i < 8 then w2 else if i < 12 then w3 else w4
def zpk (w1 w2 w3 w4 i : Int) : Int := (zwd w1 w2 w3 w4 i % 4294967296) / 2 ^ (24 - 8 * (i % 4)).toNat % 256
theorem zpk_S (w1 w2 w3 w4 i : Int) : 0 ≤ zpk w1 w2 w3 w4 i ∧ zpk w1 w2 w3 w4 i < 256 := by unfold zpk; omega
theorem zI_ext {x : Int32} {v : Int} (h : x.toBitVec.toNat = (v % 4294967296).toNat) : x = zI v := by
  apply Int32.toBitVec_inj.mp
  apply BitVec.eq_of_toNat_eq
  rw [h, zI_tn]
theorem z_ushr {v t : Int} (ht : t = 24 ∨ t = 16 ∨ t = 8 ∨ t = 0) : ((zI v).toUInt32 >>> ((zI t).toUInt32 &&& Int32.toUInt32 31)).toInt32 = zI ((v % 4294967296) / 2 ^ t.toNat) := by
  rcases ht with h | h | h | h <;> subst h
  · refine zI_ext ?_
    rw [pk_ushr (zI v) (zI 24) 24 (by decide), zI_tn]
    simp; omega
  · refine zI_ext ?_
    rw [pk_ushr (zI v) (zI 16) 16 (by decide), zI_tn]
    simp; omega
  · refine zI_ext ?_
    rw [pk_ushr (zI v) (zI 8) 8 (by decide), zI_tn]
    simp; omega
  · refine zI_ext ?_
    rw [pk_ushr (zI v) (zI 0) 0 (by decide), zI_tn]
    simp
theorem z_shr {v t : Int} (hv : zR v) (ht : t = 24 ∨ t = 16 ∨ t = 8 ∨ t = 0) : (zI v) >>> ((zI t) &&& 31) = zI (v / 2 ^ t.toNat) := by
  have key : ∀ k : Nat, k < 32 → ((zI (k : Int) &&& 31).toBitVec.smod 32).toNat = k → zI v >>> (zI (k : Int) &&& 31) = zI (v / 2 ^ k) := by
    intro k hk hs
    have h1 := pk_shr (zI v) (zI (k : Int) &&& 31) k hs
    rw [zI_toInt hv, Int.shiftRight_eq_div_pow] at h1
    have h2 := zI_of (zI v >>> (zI (k : Int) &&& 31))
    rw [h2.1, h1]
    rfl
  rcases ht with h | h | h | h <;> subst h
  · exact key 24 (by decide) (by decide)
  · exact key 16 (by decide) (by decide)
  · exact key 8 (by decide) (by decide)
  · exact key 0 (by decide) (by decide)
theorem zpk_sh {w1 w2 w3 w4 i : Int} (t : Int) (ht : t = 24 - 8 * (i % 4)) (h : t = 24 ∨ t = 16 ∨ t = 8 ∨ t = 0) : zwd w1 w2 w3 w4 i / 2 ^ t.toNat % 256 = zpk w1 w2 w3 w4 i := by
  unfold zpk
  rw [← ht]
  generalize zwd w1 w2 w3 w4 i = v
  rcases h with h | h | h | h <;> subst h
  · show v / 16777216 % 256 = v % 4294967296 / 16777216 % 256; omega
  · show v / 65536 % 256 = v % 4294967296 / 65536 % 256; omega
  · show v / 256 % 256 = v % 4294967296 / 256 % 256; omega
  · show v / 1 % 256 = v % 4294967296 / 1 % 256; omega
theorem z_rem4 {k : Int} (h0 : 0 ≤ k) (h1 : k < 2147483648) : zI k - zI k / zI 4 * zI 4 = zI (k % 4) := by
  have e : zI k = nI k.toNat := by rw [show k = (k.toNat : Int) by omega, zI_nat, Int.toNat_natCast]; rfl
  rw [e, show zI 4 = nI 4 from rfl, pk_rem (by omega) (by omega) (by omega), show nI (k.toNat % 4) = zI ((k.toNat % 4 : Nat) : Int) from (zI_nat _).symm]
  congr 1; omega
/-- letters that come one by one, as far as each is one: the text, its length, built, hits, how many came, whether none was refused -/
def stA (sg rm : Int) (w : Int → Int) (k : Nat) (q : (Int → Int) × Int × Int × Int × Int × Bool) : (Int → Int) × Int × Int × Int × Int × Bool :=
  if q.2.2.2.2.2 = true ∧ fok sg rm q.2.1 (w k) = true then (zup q.1 q.2.1 (w k), q.2.1 + 1, 0, 0, q.2.2.2.2.1 + 1, true) else (q.1, q.2.1, q.2.2.1, q.2.2.2.1, q.2.2.2.2.1, false)
def fdA (sg rm : Int) (w : Int → Int) (n : Int) (T : Int → Int) (len bt h : Int) : (Int → Int) × Int × Int × Int × Int × Bool := if 1 ≤ n ∧ n ≤ 16 then zit (stA sg rm w) n.toNat (T, len, bt, h, 0, true) else (T, len, bt, h, 0, false)
section
variable {sg rm : Int} {w T T0 : Int → Int} {len bt h len0 bt0 h0 ct i n : Int} {q : (Int → Int) × Int × Int × Int × Int × Bool}
theorem stA_t (e : (T, len, bt, h, ct, true) = zit (stA sg rm w) i.toNat q) (hi : 0 ≤ i) (hf : fok sg rm len (w i) = true) : (zup T len (w i), len + 1, 0, 0, ct + 1, true) = zit (stA sg rm w) (i + 1).toNat q := by
  rw [zit_n hi, ← e, stA, Int.toNat_of_nonneg hi, if_pos ⟨rfl, hf⟩]
theorem stA_f (e : (T, len, bt, h, ct, true) = zit (stA sg rm w) i.toNat q) (hi : 0 ≤ i) (hf : fok sg rm len (w i) = false) : (T, len, bt, h, ct, false) = zit (stA sg rm w) (i + 1).toNat q := by
  rw [zit_n hi, ← e, stA, Int.toNat_of_nonneg hi, if_neg (fun z => by rw [hf] at z; exact absurd z.2 (by decide))]
theorem stA_n {j m : Nat} (e : (T, len, bt, h, ct, false) = zit (stA sg rm w) j q) : (T, len, bt, h, ct, false) = zit (stA sg rm w) (j + m) q := by
  induction m with
  | zero => exact e
  | succ m ih => rw [Nat.add_succ, zit, ← ih, stA, if_neg (fun z => Bool.noConfusion (show false = true from z.1))]
theorem fdA_end (hn : 1 ≤ n ∧ n ≤ 16) (e : (T, len, bt, h, ct, true) = zit (stA sg rm w) n.toNat (T0, len0, bt0, h0, 0, true)) : (T, len, bt, h, ct, true) = fdA sg rm w n T0 len0 bt0 h0 := by
  rw [fdA, if_pos hn]; exact e
theorem fdA_stop (hn : 1 ≤ n ∧ n ≤ 16) (hi : 0 ≤ i ∧ i ≤ n) (e : (T, len, bt, h, ct, false) = zit (stA sg rm w) i.toNat (T0, len0, bt0, h0, 0, true)) : (T, len, bt, h, ct, false) = fdA sg rm w n T0 len0 bt0 h0 := by
  rw [fdA, if_pos hn, show n.toNat = i.toNat + (n.toNat - i.toNat) by omega]; exact stA_n e
theorem fdA_no (hn : ¬ (1 ≤ n ∧ n ≤ 16)) : (T, len, bt, h, 0, false) = fdA sg rm w n T len bt h := by rw [fdA, if_neg hn]
end
theorem zfk_at {c : Int → Int} {m k : Int} {f : Nat} (h : ¬ c k < m) : zfk c m f k = k := by
  cases f with
  | zero => rfl
  | succ f => rw [zfk, if_neg h]
theorem zfk_nx {c : Int → Int} {m k : Int} {f : Nat} (h : c k < m) : zfk c m (f + 1) k = zfk c m f (k + 1) := by rw [zfk, if_pos h]
/-- the greatest is one of them, or 0 -/
theorem zmx_ex {c : Int → Int} (n : Nat) : zit (stM c) n 0 = 0 ∨ ∃ k : Int, 1 ≤ k ∧ k ≤ n ∧ c k = zit (stM c) n 0 := by
  induction n with
  | zero => exact Or.inl rfl
  | succ n ih =>
    rw [zit]
    generalize zit (stM c) n 0 = m at ih
    unfold stM
    split
    · exact Or.inr ⟨n + 1, by omega, by omega, rfl⟩
    · rcases ih with h | ⟨k, a, b, e⟩
      · exact Or.inl h
      · exact Or.inr ⟨k, a, by omega, e⟩
theorem zrp_ex {bt sz : Int} {c : Int → Int} (h : 1 ≤ zrp bt sz c) : bt ≠ 0 ∧ ∃ k, 1 ≤ k ∧ k < sz ∧ c k = zrp bt sz c := by
  unfold zrp at h ⊢
  by_cases e : bt = 0
  · rw [if_pos e] at h; omega
  · rw [if_neg e] at h ⊢
    refine ⟨e, ?_⟩
    unfold zmx at h ⊢
    rcases zmx_ex (c := c) (sz - 1).toNat with q | ⟨k, a, b, q⟩
    · omega
    · exact ⟨k, a, by omega, q⟩
theorem zrp_S {bt sz : Int} {c : Int → Int} (h0 : 0 ≤ sz) (h : bt ≠ 0 → ∀ k, 1 ≤ k → k < sz → c k ≤ sz) : -1 ≤ zrp bt sz c ∧ zrp bt sz c ≤ sz := by
  unfold zrp
  by_cases e : bt = 0
  · rw [if_pos e]; omega
  · rw [if_neg e]
    have hm : ∀ n : Nat, 0 ≤ zit (stM c) n 0 := by
      intro n
      induction n with
      | zero => exact Int.le_refl 0
      | succ n ih => rw [zit, stM]; split <;> omega
    have := hm (sz - 1).toNat
    unfold zmx
    rcases zmx_ex (c := c) (sz - 1).toNat with q | ⟨k, a, b, q⟩
    · omega
    · have := h e k a (by omega)
      omega
