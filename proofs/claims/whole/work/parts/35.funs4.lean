/-! what the reference's methods compute -/
/-- letters in common of the ends a and b, from k on -/
def zcf (T : Int → Int) (a b : Int) : Nat → Int → Int
  | 0, k => k
  | f + 1, k => if T (a + k) = T (b + k) then zcf T a b f (k + 1) else k
def zcm (len : Int) (T : Int → Int) (a b k : Int) : Int := zcf T a b (len - zmax a b - k).toNat k
section
variable {len : Int} {T : Int → Int} {a b k : Int}
theorem zmax_le {a b c : Int} (h1 : a ≤ c) (h2 : b ≤ c) : zmax a b ≤ c := by unfold zmax; split <;> omega
theorem zmax_ge {a b : Int} : a ≤ zmax a b ∧ b ≤ zmax a b := by unfold zmax; split <;> omega
theorem zmax_or {a b : Int} : zmax a b = a ∨ zmax a b = b := by unfold zmax; split <;> simp
theorem zmin_ge {a b : Int} : zmin a b ≤ a ∧ zmin a b ≤ b := by unfold zmin; split <;> omega
theorem zmin_or {a b : Int} : zmin a b = a ∨ zmin a b = b := by unfold zmin; split <;> simp
theorem zcm_stop (h : len ≤ zmax a b + k) : zcm len T a b k = k := by
  rw [zcm, show (len - zmax a b - k).toNat = 0 by omega, zcf]
theorem zcm_ne (h : T (a + k) ≠ T (b + k)) : zcm len T a b k = k := by
  unfold zcm
  cases (len - zmax a b - k).toNat with
  | zero => rfl
  | succ f => rw [zcf, if_neg h]
theorem zcm_eq (h : zmax a b + k < len) (e : T (a + k) = T (b + k)) : zcm len T a b (k + 1) = zcm len T a b k := by
  rw [zcm, zcm, show (len - zmax a b - k).toNat = (len - zmax a b - (k + 1)).toNat + 1 by omega, zcf, if_pos e]
theorem zcf_le (f : Nat) : ∀ k, k ≤ zcf T a b f k ∧ zcf T a b f k ≤ k + f := by
  induction f with
  | zero => intro k; rw [zcf]; omega
  | succ f ih =>
    intro k
    rw [zcf]
    split
    · have := ih (k + 1); omega
    · omega
theorem zcm_le (h1 : a + k ≤ len) (h2 : b + k ≤ len) : k ≤ zcm len T a b k ∧ a + zcm len T a b k ≤ len ∧ b + zcm len T a b k ≤ len := by
  have := zcf_le (T := T) (a := a) (b := b) (len - zmax a b - k).toNat k
  have h3 := zmax_le (a := a) (b := b) (c := len - k) (by omega) (by omega)
  have h4 := zmax_ge (a := a) (b := b)
  unfold zcm
  omega
end
def zbf (sz : Int) (T : Int → Int) (a b : Int) : Bool := if a + zcm sz T a b 0 = sz then decide (b + zcm sz T a b 0 < sz) else decide (b + zcm sz T a b 0 < sz) && decide (T (a + zcm sz T a b 0) < T (b + zcm sz T a b 0))
def zie (bt sz k : Int) : Bool := decide (bt ≠ 0) && (decide (0 ≤ k) && decide (k < sz))
theorem zie_t {bt sz k : Int} (h : bt ≠ 0) (h0 : 0 ≤ k) (h1 : k < sz) : 1 = bi (zie bt sz k) := by simp [zie, h, h0, h1, bi]
theorem zie_f {bt sz k : Int} (h : bt = 0 ∨ k < 0 ∨ sz ≤ k) : 0 = bi (zie bt sz k) := by
  have : zie bt sz k = false := by
    rcases h with h | h | h
    · simp [zie, h]
    · have : ¬ 0 ≤ k := by omega
      simp [zie, this]
    · have : ¬ k < sz := by omega
      simp [zie, this]
  rw [this]; rfl
theorem zie_iff {bt sz k : Int} : zie bt sz k = true ↔ bt ≠ 0 ∧ 0 ≤ k ∧ k < sz := by simp [zie]
def zsa (bt sz : Int) (od : Int → Int) (i : Int) : Int := if zie bt sz i = true then od i else -1
def zlc (bt sz : Int) (c : Int → Int) (i : Int) : Int := if zie bt sz i = true ∧ 0 < i then c i else -1
def zcc (sz : Int) (T od : Int → Int) (i : Int) : Int := zcm sz T (od (i - 1)) (od i) 0
def zrk (od : Int → Int) (p : Int) : Nat → Int → Int
  | 0, k => k
  | f + 1, k => if od k = p then k else zrk od p f (k + 1)
def zrn (bt sz : Int) (od : Int → Int) (p : Int) : Int := if zie bt sz p = true then zrk od p sz.toNat 0 else -1
theorem zrk_at {od : Int → Int} {p k : Int} {f : Nat} (h : od k = p) : zrk od p f k = k := by
  cases f with
  | zero => rfl
  | succ f => rw [zrk, if_pos h]
theorem zrk_nx {od : Int → Int} {p k : Int} {f : Nat} (h : od k ≠ p) : zrk od p (f + 1) k = zrk od p f (k + 1) := by rw [zrk, if_neg h]
def zcn2 (bt sz : Int) (T : Int → Int) (x y : Int) : Int := if zie bt sz x = true ∧ zie bt sz y = true then zcm sz T x y 0 else -1
/-- whether a letter comes -/
def fok (sg rm sz x : Int) : Bool := decide (0 ≤ x) && (decide (x < sg) && decide (sz < rm))
theorem fok_t {sg rm sz x : Int} (h0 : 0 ≤ x) (h1 : x < sg) (h2 : sz < rm) : fok sg rm sz x = true := by simp [fok, h0, h1, h2]
theorem fok_f {sg rm sz x : Int} (h : x < 0 ∨ sg ≤ x ∨ rm ≤ sz) : fok sg rm sz x = false := by
  rcases h with h | h | h
  · have : ¬ 0 ≤ x := by omega
    simp [fok, this]
  · have : ¬ x < sg := by omega
    simp [fok, this]
  · have : ¬ sz < rm := by omega
    simp [fok, this]
noncomputable def zbg (ps sz : Int) (T pt : Int → Int) (pl : Int) : Bool := @decide (∀ k, 0 ≤ k → k < ps → pl + k < sz ∧ T (pl + k) = pt k) (Classical.propDecidable _)
theorem zbg_iff {ps sz : Int} {T pt : Int → Int} {pl : Int} : zbg ps sz T pt pl = true ↔ ∀ k, 0 ≤ k → k < ps → pl + k < sz ∧ T (pl + k) = pt k := by
  unfold zbg; exact @decide_eq_true_iff _ (Classical.propDecidable _)
theorem zbg_t {ps sz : Int} {T pt : Int → Int} {pl : Int} (h : ∀ k, 0 ≤ k → k < ps → pl + k < sz ∧ T (pl + k) = pt k) : 1 = bi (zbg ps sz T pt pl) := by rw [zbg_iff.mpr h]; rfl
theorem zbg_f {ps sz : Int} {T pt : Int → Int} {pl : Int} (h : ¬ ∀ k, 0 ≤ k → k < ps → pl + k < sz ∧ T (pl + k) = pt k) : 0 = bi (zbg ps sz T pt pl) := by
  have : zbg ps sz T pt pl = false := by
    cases q : zbg ps sz T pt pl with
    | true => exact absurd (zbg_iff.mp q) h
    | false => rfl
  rw [this]; rfl
/-- the search of the reference: first hit, hits, going down -/
noncomputable def stH (ps sz : Int) (T pt od : Int → Int) (k : Nat) (q : Int × Int) : Int × Int := if zbg ps sz T pt (od (sz - 1 - k)) = true then (sz - 1 - k, q.2 + 1) else q
theorem stH_t {ps sz : Int} {T pt od : Int → Int} {fi ht i : Int} {q : Int × Int} (h : (fi, ht) = zit (stH ps sz T pt od) (sz - 1 - i).toNat q) (h0 : i ≤ sz - 1) (hc : zbg ps sz T pt (od i) = true) : (i, ht + 1) = zit (stH ps sz T pt od) (sz - 1 - (i + (-1))).toNat q := by
  rw [show sz - 1 - (i + (-1)) = (sz - 1 - i) + 1 by omega, zit_n (by omega), ← h, stH, Int.toNat_of_nonneg (by omega), show sz - 1 - (sz - 1 - i) = i by omega, if_pos hc]
theorem stH_f {ps sz : Int} {T pt od : Int → Int} {fi ht i : Int} {q : Int × Int} (h : (fi, ht) = zit (stH ps sz T pt od) (sz - 1 - i).toNat q) (h0 : i ≤ sz - 1) (hc : zbg ps sz T pt (od i) = false) : (fi, ht) = zit (stH ps sz T pt od) (sz - 1 - (i + (-1))).toNat q := by
  rw [show sz - 1 - (i + (-1)) = (sz - 1 - i) + 1 by omega, zit_n (by omega), ← h, stH, Int.toNat_of_nonneg (by omega), show sz - 1 - (sz - 1 - i) = i by omega, if_neg (by rw [hc]; decide)]
def zhi (fo ht : Int) (od : Int → Int) (fi k : Int) : Int := if fo ≠ 0 ∧ 0 ≤ k ∧ k < ht then od (fi + k) else -1
/-- the greatest of c 1 .. c (n - 1), and 0 -/
def stM (c : Int → Int) (k : Nat) (m : Int) : Int := if m < c (k + 1) then c (k + 1) else m
def zmx (c : Int → Int) (n : Int) : Int := zit (stM c) (n - 1).toNat 0
theorem stM_s {c : Int → Int} {m i : Int} (h : m = zit (stM c) (i - 1).toNat 0) (h0 : 1 ≤ i) : (if m < c i then c i else m) = zit (stM c) (i + 1 - 1).toNat 0 := by
  rw [show (i + 1 - 1).toNat = (i - 1).toNat + 1 by omega, zit, ← h, stM, Int.toNat_of_nonneg (by omega), show i - 1 + 1 = i by omega]
def zrp (bt sz : Int) (c : Int → Int) : Int := if bt = 0 then -1 else zmx c sz
/-- the sum over the order -/
def stD (f : Int → Int) (k : Nat) (m : Int) : Int := m + f k
theorem stD_s {f : Int → Int} {m i : Int} (h : m = zit (stD f) i.toNat 0) (h0 : 0 ≤ i) {v : Int} (hv : v = f i) : m + v = zit (stD f) (i + 1).toNat 0 := by
  rw [zit_n h0, ← h, stD, Int.toNat_of_nonneg h0, hv]
def zdf (bt sz : Int) (f : Int → Int) : Int := if bt = 0 then -1 else zit (stD f) sz.toNat 0
/-- the first place from k on that has c no less than m -/
def zfk (c : Int → Int) (m : Int) : Nat → Int → Int
  | 0, k => k
  | f + 1, k => if c k < m then zfk c m f (k + 1) else k
/-- the least of od k .. as long as c k = m, and least -/
def zls (c od : Int → Int) (m : Int) : Nat → Int → Int → Int
  | 0, _, x => x
  | f + 1, k, x => if c k = m then zls c od m f (k + 1) (if od k < x then od k else x) else x
def zra (bt sz : Int) (c od : Int → Int) : Int :=
  if zrp bt sz c < 1 then -1 else zls c od (zrp bt sz c) (sz - zfk c (zrp bt sz c) (sz - 1).toNat 1).toNat (zfk c (zrp bt sz c) (sz - 1).toNat 1) (od (zfk c (zrp bt sz c) (sz - 1).toNat 1 - 1))
def zcn (v0 v1 v2 v3 v4 v5 w : Int) : Int := if w = 0 then v0 else if w = 1 then v1 else if w = 2 then v2 else if w = 3 then v3 else if w = 4 then v4 else if w = 5 then v5 else -1
theorem zcn2_t {bt sz : Int} {T : Int → Int} {x y : Int} (h1 : zie bt sz x = true) (h2 : zie bt sz y = true) : zcm sz T x y 0 = zcn2 bt sz T x y := (if_pos ⟨h1, h2⟩).symm
theorem zcn2_a {bt sz : Int} {T : Int → Int} {x y : Int} (h1 : zie bt sz x = false) : -1 = zcn2 bt sz T x y := (if_neg (fun z => by rw [h1] at z; exact absurd z.1 (by decide))).symm
theorem zcn2_b {bt sz : Int} {T : Int → Int} {x y : Int} (h1 : zie bt sz y = false) : -1 = zcn2 bt sz T x y := (if_neg (fun z => by rw [h1] at z; exact absurd z.2 (by decide))).symm
