/-! the objects' fields in the order of their slots -/
abbrev so (a : Nat → Nat) (ts : Int) (hl : Nat) (len sg vc : Int) : List Value := [.ref (a 1), .ref (a 2), .ref (a 3), .ref (a 4), .ref (a 5), .ref (a 6), .ref (a 7), .ref (a 8), .ref (a 9), .ref (a 10), .int (zI ts), .ref hl, .int (zI len), .int (zI sg), .int (zI vc)]
abbrev lo (hl : Nat) (len sg : Int) : List Value := [.ref hl, .int (zI len), .int (zI sg)]
abbrev te (b a : Nat → Nat) (sg len pl bt fh ht : Int) : List Value := [.int (zI sg), .ref (a 0), .ref (b 1), .ref (a 2), .ref (b 2), .ref (b 3), .ref (b 4), .int (zI len), .int (zI pl), .int (zI bt), .int (zI fh), .int (zI ht)]
abbrev mo (d : Nat → Nat) (rm sg pr sz bt ps fi ht fo : Int) : List Value := [.int (zI rm), .int (zI sg), .int (zI pr), .ref (d 1), .int (zI sz), .int (zI bt), .ref (d 2), .ref (d 3), .ref (d 4), .int (zI ps), .int (zI fi), .int (zI ht), .int (zI fo)]
def zmax (a b : Int) : Int := if a < b then b else a
def zmin (a b : Int) : Int := if b < a then b else a
theorem zmax_I {a b : Int} (ha : zR a) (hb : zR b) : (if zI a < zI b then zI b else zI a) = zI (zmax a b) := by
  unfold zmax
  by_cases h : a < b
  · rw [if_pos h, if_pos ((zI_lt ha hb).mpr h)]
  · rw [if_neg h, if_neg (fun q => h ((zI_lt ha hb).mp q))]
theorem zmin_I {a b : Int} (ha : zR a) (hb : zR b) : (if zI b < zI a then zI b else zI a) = zI (zmin a b) := by
  unfold zmin
  by_cases h : b < a
  · rw [if_pos h, if_pos ((zI_lt hb ha).mpr h)]
  · rw [if_neg h, if_neg (fun q => h ((zI_lt hb ha).mp q))]
/-- the letter at a place; -1 behind the last -/
def zla (len : Int) (lt : Int → Int) (i : Int) : Int := if 0 ≤ i ∧ i < len then lt i else -1
theorem zla_in {len : Int} {lt : Int → Int} {i : Int} (h0 : 0 ≤ i) (h1 : i < len) : zla len lt i = lt i := if_pos ⟨h0, h1⟩
theorem zla_out {len : Int} {lt : Int → Int} {i : Int} (h : i < 0 ∨ len ≤ i) : zla len lt i = -1 := if_neg (by omega)
def zir (len : Int) (rs : Int → Bool) (i : Int) : Bool := decide (0 ≤ i) && (decide (i < len) && rs i)
def zif (len : Int) (rs : Int → Bool) (i : Int) : Bool := decide (0 ≤ i) && (decide (i < len) && !rs i)
theorem zir_in {len : Int} {rs : Int → Bool} {i : Int} (h0 : 0 ≤ i) (h1 : i < len) : zir len rs i = rs i := by simp [zir, h0, h1]
theorem zif_in {len : Int} {rs : Int → Bool} {i : Int} (h0 : 0 ≤ i) (h1 : i < len) : zif len rs i = !rs i := by simp [zif, h0, h1]
theorem zir_out {len : Int} {rs : Int → Bool} {i : Int} (h : i < 0 ∨ len ≤ i) : zir len rs i = false := by
  unfold zir
  rcases h with h | h
  · rw [decide_eq_false (by omega)]; rfl
  · rw [decide_eq_false (p := i < len) (by omega)]; simp
theorem zif_out {len : Int} {rs : Int → Bool} {i : Int} (h : i < 0 ∨ len ≤ i) : zif len rs i = false := by
  unfold zif
  rcases h with h | h
  · rw [decide_eq_false (by omega)]; rfl
  · rw [decide_eq_false (p := i < len) (by omega)]; simp
def zB (rs : Int → Bool) : Int → Int := fun i => bi (rs i)
theorem zB_R (rs : Int → Bool) (i : Int) : zR (zB rs i) := by
  unfold zB; rcases bi_01 (rs i) with h | h <;> rw [h] <;> decide
theorem bi_R (b : Bool) : zR (bi b) := by
  rcases bi_01 b with h | h <;> rw [h] <;> decide
theorem zB_ne {rs : Int → Bool} {i : Int} (h : zB rs i ≠ 0) : rs i = true := by
  unfold zB at h; cases q : rs i <;> simp [q, bi] at h ⊢
theorem zB_eq {rs : Int → Bool} {i : Int} (h : zB rs i = 0) : rs i = false := by
  unfold zB at h; cases q : rs i <;> simp [q, bi] at h ⊢
theorem bi_ne {b : Bool} (h : bi b ≠ 0) : b = true := by cases b <;> simp [bi] at h ⊢
theorem bi_eq {b : Bool} (h : bi b = 0) : b = false := by cases b <;> simp [bi] at h ⊢
theorem zir_t {len : Int} {rs : Int → Bool} {i : Int} (h0 : 0 ≤ i) (h1 : i < len) (h : zB rs i ≠ 0) : 1 = bi (zir len rs i) := by rw [zir_in h0 h1, zB_ne h]; rfl
theorem zir_f {len : Int} {rs : Int → Bool} {i : Int} (h0 : 0 ≤ i) (h1 : i < len) (h : zB rs i = 0) : 0 = bi (zir len rs i) := by rw [zir_in h0 h1, zB_eq h]; rfl
theorem zir_o {len : Int} {rs : Int → Bool} {i : Int} (h : i < 0 ∨ len ≤ i) : 0 = bi (zir len rs i) := by rw [zir_out h]; rfl
theorem zif_t {len : Int} {rs : Int → Bool} {i : Int} (h0 : 0 ≤ i) (h1 : i < len) (h : zB rs i = 0) : 1 = bi (zif len rs i) := by rw [zif_in h0 h1, zB_eq h]; rfl
theorem zif_f {len : Int} {rs : Int → Bool} {i : Int} (h0 : 0 ≤ i) (h1 : i < len) (h : zB rs i ≠ 0) : 0 = bi (zif len rs i) := by rw [zif_in h0 h1, zB_ne h]; rfl
theorem zif_o {len : Int} {rs : Int → Bool} {i : Int} (h : i < 0 ∨ len ≤ i) : 0 = bi (zif len rs i) := by rw [zif_out h]; rfl
