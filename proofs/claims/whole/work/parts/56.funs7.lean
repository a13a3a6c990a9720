theorem fdA_any {sg rm : Int} {w T0 : Int → Int} {len0 bt0 h0 i n : Int} {q : (Int → Int) × Int × Int × Int × Int × Bool} (hn : 1 ≤ n ∧ n ≤ 16) (hi : i = n) (e : q = zit (stA sg rm w) i.toNat (T0, len0, bt0, h0, 0, true)) : q = fdA sg rm w n T0 len0 bt0 h0 := by
  rw [fdA, if_pos hn, ← hi]; exact e
theorem fdA_st2 {sg rm : Int} {w T T0 : Int → Int} {len bt h ct len0 bt0 h0 i n : Int} {z : Bool} (hn : 1 ≤ n ∧ n ≤ 16) (hi : 0 ≤ i ∧ i ≤ n) (hz : z = false) (e : (T, len, bt, h, ct, z) = zit (stA sg rm w) i.toNat (T0, len0, bt0, h0, 0, true)) : (T, len, bt, h, ct, z) = fdA sg rm w n T0 len0 bt0 h0 := by
  subst hz; exact fdA_stop hn hi e
theorem zwd_R {w1 w2 w3 w4 i : Int} (h1 : zR w1) (h2 : zR w2) (h3 : zR w3) (h4 : zR w4) : zR (zwd w1 w2 w3 w4 i) := by
  unfold zwd
  (repeat' split) <;> assumption
