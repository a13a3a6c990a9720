def fn5 (x0 x1 x2 x3 x4 : Nat) : Nat → Nat
  | 0 => x0
  | 1 => x1
  | 2 => x2
  | 3 => x3
  | _ => x4
def fn11 (x0 x1 x2 x3 x4 x5 x6 x7 x8 x9 x10 : Nat) : Nat → Nat
  | 0 => x0
  | 1 => x1
  | 2 => x2
  | 3 => x3
  | 4 => x4
  | 5 => x5
  | 6 => x6
  | 7 => x7
  | 8 => x8
  | 9 => x9
  | _ => x10
theorem lvP_s {cI : ClassId} {i : Nat} {F F' : Nat → LvT} (h : ∀ j, j < i → F' j = F j) : lvP cI (i + 1) F' = lvP cI i F ++ lvC cI (F' i) := by
  unfold lvP
  rw [List.range_succ, List.flatMap_append]
  congr 1
  · rw [List.flatMap_def, List.flatMap_def]
    congr 1
    apply List.map_congr_left
    intro j hj
    rw [h j (List.mem_range.mp hj)]
theorem lvP_0 {cI : ClassId} {F : Nat → LvT} : lvP cI 0 F = [] := rfl
