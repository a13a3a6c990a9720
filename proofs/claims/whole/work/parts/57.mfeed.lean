set_option maxRecDepth 20000 in
theorem inX3_feedAll_X3 : ∀ w ∈ wsX30, w ∈ wsX3_feedAll := by decide +kernel
set_option maxHeartbeats 4000000 in
set_option maxRecDepth 100000 in
/-- feedAll(a, b, c, d, n) -/
theorem kX3_feedAll (l : Launch) (D : va_G) (cI cZ cL : ClassId) (d : Nat → Nat) (rm sg pr sz bt ps fi ht fo : Int) (nT : Nat) (T : Int → Int) (w1 w2 w3 w4 n : Int) (szz : Nat) (hsz : 0 ≤ sz ∧ sz ≤ rm) (hrm : rm ≤ (nT : Int)) (hsg : zR sg) (bnT : (nT : Int) < 1073741824) (hn : zR n) (hw1 : zR w1) (hw2 : zR w2) (hw3 : zR w3) (hw4 : zR w4) : Met l yX3_feedAll wsX3_feedAll ({ frames := 1, cells := 0, slots := 0, locals := 21 }) (zPw D cI cZ cL szz [.ref (d 0), .int (zI w1), .int (zI w2), .int (zI w3), .int (zI w4), .int (zI n)] [(d 0, .inr (3, mo d rm sg pr sz bt ps fi ht fo)), (d 1, .inl (cI, nT, .inl (zA T)))]) (zQwi D (va_A [(d 0, .inr (3, mo d rm sg pr sz bt ps fi ht fo)), (d 1, .inl (cI, nT, .inl (zA T)))] szz) (fun (r : Int) (_ : Unit) => r = (fdA sg rm (zpk w1 w2 w3 w4) n T sz bt fo).2.2.2.2.1 ∧ True) (fun _ : Unit => [(d 0, .inr (3, mo d rm sg pr ((fdA sg rm (zpk w1 w2 w3 w4) n T sz bt fo).2.1) ((fdA sg rm (zpk w1 w2 w3 w4) n T sz bt fo).2.2.1) ps fi ht ((fdA sg rm (zpk w1 w2 w3 w4) n T sz bt fo).2.2.2.1))), (d 1, .inl (cI, nT, .inl (zA ((fdA sg rm (zpk w1 w2 w3 w4) n T sz bt fo).1))))])) 0 0 (va_A [(d 0, .inr (3, mo d rm sg pr sz bt ps fi ht fo)), (d 1, .inl (cI, nT, .inl (zA T)))] szz) := by
  refine Met.ofW (cc := cX3_feedAll) (maxL := 10) (ret := (some .int)) (by decide) rfl ?_
  intro p e s m args below meth c s₁ B hml hv
  obtain ⟨rfl, hsz, hP, hK, hD0⟩ := hv
  have hx := B.exec
  have hb := B.bytes
  have hr := B.returns
  have hts := atoms_spec (ws := wsX3_feedAll) B.pre
  have hown : s.vm.findClass RX3 = some m.cls := findClass_of_methodNamed B.named
  have hlocks := B.notSynchronized
  subst hsz
  have hD := hD0.self (sz := s.heap.size)
  generalize hAe : va_A [(d 0, .inr (3, mo d rm sg pr sz bt ps fi ht fo)), (d 1, .inl (cI, nT, .inl (zA T)))] s.heap.size = A at hD ⊢
  have hA : ∀ q : Nat, s.heap.size ≤ q → A q := fun q h => by rw [← hAe]; exact Or.inr h
  have hS : va_S A s.heap s.heap [] := va_S.rf
  clear hD0
  have hP : va_P D vwCl [(d 0, .inr (3, mo d rm sg pr sz bt ps fi ht fo)), (d 1, .inl (cI, nT, .inl (zA T)))] s.heap := hP
  have hl := lv_entry ([.ref (d 0), .int (zI w1), .int (zI w2), .int (zI w3), .int (zI w4), .int (zI n)]) (n := 10) (Nat.le_of_ble_eq_true rfl)
  rw [lg_entry_eq]
  generalize (lg_sl ([.ref (d 0), .int (zI w1), .int (zI w2), .int (zI w3), .int (zI w4), .int (zI n)]) ++ List.replicate (10 - (lg_sl ([.ref (d 0), .int (zI w1), .int (zI w2), .int (zI w3), .int (zI w4), .int (zI n)])).length) Slot.unset).toArray = ls at hl ⊢
  have hl : lv_has ls 10 [(0, .ref (d 0)), (1, .int (zI w1)), (2, .int (zI w2)), (3, .int (zI w3)), (4, .int (zI w4)), (5, .int (zI n))] := hl
  refine lv_iconst (v := zI 0) hx hb dX3_feedAll_0 (by first | rfl | decide) ?_
  refine lv_istore (lv' := [(6, .int (zI 0)), (0, .ref (d 0)), (1, .int (zI w1)), (2, .int (zI w2)), (3, .int (zI w3)), (4, .int (zI w4)), (5, .int (zI n))]) hx hb dX3_feedAll_1 hl (by decide) rfl (fun ls hl => ?_)
  refine lv_iload hx hb dX3_feedAll_3 (lv_at hl 6 rfl) ?_
  refine lv_iconst (v := zI 1) hx hb dX3_feedAll_5 (by first | rfl | decide) ?_
  refine z_icmp_lt (tgt := 20) hx hb dX3_feedAll_6 (by decide) (by omega) (by omega) (fun h_1 => ?_) (fun h_1 => ?_)
  · skip
    have hno : ¬ (1 ≤ n ∧ n ≤ 16) := by omega
    refine lv_iconst (v := zI 0) hx hb dX3_feedAll_20 (by first | rfl | decide) ?_
    refine lv_istore (lv' := [(7, .int (zI 0)), (6, .int (zI 0)), (0, .ref (d 0)), (1, .int (zI w1)), (2, .int (zI w2)), (3, .int (zI w3)), (4, .int (zI w4)), (5, .int (zI n))]) hx hb dX3_feedAll_21 hl (by decide) rfl (fun ls hl => ?_)
    refine lv_iconst (v := zI 0) hx hb dX3_feedAll_23 (by first | rfl | decide) ?_
    refine lv_istore (lv' := [(8, .int (zI 0)), (7, .int (zI 0)), (6, .int (zI 0)), (0, .ref (d 0)), (1, .int (zI w1)), (2, .int (zI w2)), (3, .int (zI w3)), (4, .int (zI w4)), (5, .int (zI n))]) hx hb dX3_feedAll_24 hl (by decide) rfl (fun ls hl => ?_)
    refine lv_iload hx hb dX3_feedAll_26 (lv_at hl 0 rfl) ?_
    refine lv_iload hx hb dX3_feedAll_28 (lv_at hl 8 rfl) ?_
    refine z_icmp_ge (tgt := 119) hx hb dX3_feedAll_30 (by decide) (by omega) (by omega) (fun h_2 => ?_) (fun h_2 => ?_)
    · skip
      have hqq : ∃ z : Bool, (T, sz, bt, fo, 0, z) = fdA sg rm (zpk w1 w2 w3 w4) n T sz bt fo := by first | exact ⟨_, fdA_no hno⟩ | exact ⟨_, fdA_st2 hyes h0 hrb hq⟩ | exact ⟨_, fdA_any hyes (by omega) hq⟩
      obtain ⟨zz, hqq⟩ := hqq
      have hP : va_P D vwCl [(d 0, .inr (3, mo d rm sg pr ((fdA sg rm (zpk w1 w2 w3 w4) n T sz bt fo).2.1) ((fdA sg rm (zpk w1 w2 w3 w4) n T sz bt fo).2.2.1) ps fi ht ((fdA sg rm (zpk w1 w2 w3 w4) n T sz bt fo).2.2.2.1))), (d 1, .inl (cI, nT, .inl (zA ((fdA sg rm (zpk w1 w2 w3 w4) n T sz bt fo).1))))] s.heap := by (simp only [← hqq]; exact hP)
      have hD : va_D A [(d 0, .inr (3, mo d rm sg pr ((fdA sg rm (zpk w1 w2 w3 w4) n T sz bt fo).2.1) ((fdA sg rm (zpk w1 w2 w3 w4) n T sz bt fo).2.2.1) ps fi ht ((fdA sg rm (zpk w1 w2 w3 w4) n T sz bt fo).2.2.2.1))), (d 1, .inl (cI, nT, .inl (zA ((fdA sg rm (zpk w1 w2 w3 w4) n T sz bt fo).1))))] := by (simp only [← hqq]; exact hD)
      refine lv_iload hx hb dX3_feedAll_119 (lv_at hl 2 rfl) ?_
      exact W.iret (v := zI 0) hx hb hr (fun t ht_ hW_ => ⟨⟨0, (), rfl, ⟨by rw [← hqq], trivial⟩, by rw [ht_]; exact hP, hD⟩, hS.F ht_⟩) hS.2.2 dX3_feedAll_121
    · skip
      refine lv_iload hx hb dX3_feedAll_33 (lv_at hl 1 rfl) ?_
      refine z_if_eq (tgt := 119) hx hb dX3_feedAll_35 (by decide) (by first | exact bi_R _ | decide) (fun h_3 => ?_) (fun h_3 => ?_)
      · skip
        try have hrb := bi_eq h_3
        have hqq : ∃ z : Bool, (T, sz, bt, fo, 0, z) = fdA sg rm (zpk w1 w2 w3 w4) n T sz bt fo := by first | exact ⟨_, fdA_no hno⟩ | exact ⟨_, fdA_st2 hyes h0 hrb hq⟩ | exact ⟨_, fdA_any hyes (by omega) hq⟩
        obtain ⟨zz, hqq⟩ := hqq
        have hP : va_P D vwCl [(d 0, .inr (3, mo d rm sg pr ((fdA sg rm (zpk w1 w2 w3 w4) n T sz bt fo).2.1) ((fdA sg rm (zpk w1 w2 w3 w4) n T sz bt fo).2.2.1) ps fi ht ((fdA sg rm (zpk w1 w2 w3 w4) n T sz bt fo).2.2.2.1))), (d 1, .inl (cI, nT, .inl (zA ((fdA sg rm (zpk w1 w2 w3 w4) n T sz bt fo).1))))] s.heap := by (simp only [← hqq]; exact hP)
        have hD : va_D A [(d 0, .inr (3, mo d rm sg pr ((fdA sg rm (zpk w1 w2 w3 w4) n T sz bt fo).2.1) ((fdA sg rm (zpk w1 w2 w3 w4) n T sz bt fo).2.2.1) ps fi ht ((fdA sg rm (zpk w1 w2 w3 w4) n T sz bt fo).2.2.2.1))), (d 1, .inl (cI, nT, .inl (zA ((fdA sg rm (zpk w1 w2 w3 w4) n T sz bt fo).1))))] := by (simp only [← hqq]; exact hD)
        refine lv_iload hx hb dX3_feedAll_119 (lv_at hl 2 rfl) ?_
        exact W.iret (v := zI 0) hx hb hr (fun t ht_ hW_ => ⟨⟨0, (), rfl, ⟨by rw [← hqq], trivial⟩, by rw [ht_]; exact hP, hD⟩, hS.F ht_⟩) hS.2.2 dX3_feedAll_121
      · skip
        exact absurd h_3 (by decide)
  · skip
    refine lv_iload hx hb dX3_feedAll_9 (lv_at hl 6 rfl) ?_
    refine lv_bipush (v := zI 16) hx hb dX3_feedAll_11 (by first | rfl | decide) ?_
    refine z_icmp_gt (tgt := 20) hx hb dX3_feedAll_13 (by decide) (by omega) (by omega) (fun h_4 => ?_) (fun h_4 => ?_)
    · skip
      have hno : ¬ (1 ≤ n ∧ n ≤ 16) := by omega
      refine lv_iconst (v := zI 0) hx hb dX3_feedAll_20 (by first | rfl | decide) ?_
      refine lv_istore (lv' := [(7, .int (zI 0)), (6, .int (zI 0)), (0, .ref (d 0)), (1, .int (zI w1)), (2, .int (zI w2)), (3, .int (zI w3)), (4, .int (zI w4)), (5, .int (zI n))]) hx hb dX3_feedAll_21 hl (by decide) rfl (fun ls hl => ?_)
      refine lv_iconst (v := zI 0) hx hb dX3_feedAll_23 (by first | rfl | decide) ?_
      refine lv_istore (lv' := [(8, .int (zI 0)), (7, .int (zI 0)), (6, .int (zI 0)), (0, .ref (d 0)), (1, .int (zI w1)), (2, .int (zI w2)), (3, .int (zI w3)), (4, .int (zI w4)), (5, .int (zI n))]) hx hb dX3_feedAll_24 hl (by decide) rfl (fun ls hl => ?_)
      refine lv_iload hx hb dX3_feedAll_26 (lv_at hl 0 rfl) ?_
      refine lv_iload hx hb dX3_feedAll_28 (lv_at hl 8 rfl) ?_
      refine z_icmp_ge (tgt := 119) hx hb dX3_feedAll_30 (by decide) (by omega) (by omega) (fun h_5 => ?_) (fun h_5 => ?_)
      · skip
        have hqq : ∃ z : Bool, (T, sz, bt, fo, 0, z) = fdA sg rm (zpk w1 w2 w3 w4) n T sz bt fo := by first | exact ⟨_, fdA_no hno⟩ | exact ⟨_, fdA_st2 hyes h0 hrb hq⟩ | exact ⟨_, fdA_any hyes (by omega) hq⟩
        obtain ⟨zz, hqq⟩ := hqq
        have hP : va_P D vwCl [(d 0, .inr (3, mo d rm sg pr ((fdA sg rm (zpk w1 w2 w3 w4) n T sz bt fo).2.1) ((fdA sg rm (zpk w1 w2 w3 w4) n T sz bt fo).2.2.1) ps fi ht ((fdA sg rm (zpk w1 w2 w3 w4) n T sz bt fo).2.2.2.1))), (d 1, .inl (cI, nT, .inl (zA ((fdA sg rm (zpk w1 w2 w3 w4) n T sz bt fo).1))))] s.heap := by (simp only [← hqq]; exact hP)
        have hD : va_D A [(d 0, .inr (3, mo d rm sg pr ((fdA sg rm (zpk w1 w2 w3 w4) n T sz bt fo).2.1) ((fdA sg rm (zpk w1 w2 w3 w4) n T sz bt fo).2.2.1) ps fi ht ((fdA sg rm (zpk w1 w2 w3 w4) n T sz bt fo).2.2.2.1))), (d 1, .inl (cI, nT, .inl (zA ((fdA sg rm (zpk w1 w2 w3 w4) n T sz bt fo).1))))] := by (simp only [← hqq]; exact hD)
        refine lv_iload hx hb dX3_feedAll_119 (lv_at hl 2 rfl) ?_
        exact W.iret (v := zI 0) hx hb hr (fun t ht_ hW_ => ⟨⟨0, (), rfl, ⟨by rw [← hqq], trivial⟩, by rw [ht_]; exact hP, hD⟩, hS.F ht_⟩) hS.2.2 dX3_feedAll_121
      · skip
        refine lv_iload hx hb dX3_feedAll_33 (lv_at hl 1 rfl) ?_
        refine z_if_eq (tgt := 119) hx hb dX3_feedAll_35 (by decide) (by first | exact bi_R _ | decide) (fun h_6 => ?_) (fun h_6 => ?_)
        · skip
          try have hrb := bi_eq h_6
          have hqq : ∃ z : Bool, (T, sz, bt, fo, 0, z) = fdA sg rm (zpk w1 w2 w3 w4) n T sz bt fo := by first | exact ⟨_, fdA_no hno⟩ | exact ⟨_, fdA_st2 hyes h0 hrb hq⟩ | exact ⟨_, fdA_any hyes (by omega) hq⟩
          obtain ⟨zz, hqq⟩ := hqq
          have hP : va_P D vwCl [(d 0, .inr (3, mo d rm sg pr ((fdA sg rm (zpk w1 w2 w3 w4) n T sz bt fo).2.1) ((fdA sg rm (zpk w1 w2 w3 w4) n T sz bt fo).2.2.1) ps fi ht ((fdA sg rm (zpk w1 w2 w3 w4) n T sz bt fo).2.2.2.1))), (d 1, .inl (cI, nT, .inl (zA ((fdA sg rm (zpk w1 w2 w3 w4) n T sz bt fo).1))))] s.heap := by (simp only [← hqq]; exact hP)
          have hD : va_D A [(d 0, .inr (3, mo d rm sg pr ((fdA sg rm (zpk w1 w2 w3 w4) n T sz bt fo).2.1) ((fdA sg rm (zpk w1 w2 w3 w4) n T sz bt fo).2.2.1) ps fi ht ((fdA sg rm (zpk w1 w2 w3 w4) n T sz bt fo).2.2.2.1))), (d 1, .inl (cI, nT, .inl (zA ((fdA sg rm (zpk w1 w2 w3 w4) n T sz bt fo).1))))] := by (simp only [← hqq]; exact hD)
          refine lv_iload hx hb dX3_feedAll_119 (lv_at hl 2 rfl) ?_
          exact W.iret (v := zI 0) hx hb hr (fun t ht_ hW_ => ⟨⟨0, (), rfl, ⟨by rw [← hqq], trivial⟩, by rw [ht_]; exact hP, hD⟩, hS.F ht_⟩) hS.2.2 dX3_feedAll_121
        · skip
          exact absurd h_6 (by decide)
    · skip
      have hyes : 1 ≤ n ∧ n ≤ 16 := by omega
      refine lv_iconst (v := zI 1) hx hb dX3_feedAll_16 (by first | rfl | decide) ?_
      refine lv_goto (tgt := 21) hx hb dX3_feedAll_17 (by decide) ?_
      refine lv_istore (lv' := [(7, .int (zI 1)), (6, .int (zI 0)), (0, .ref (d 0)), (1, .int (zI w1)), (2, .int (zI w2)), (3, .int (zI w3)), (4, .int (zI w4)), (5, .int (zI n))]) hx hb dX3_feedAll_21 hl (by decide) rfl (fun ls hl => ?_)
      refine lv_iconst (v := zI 0) hx hb dX3_feedAll_23 (by first | rfl | decide) ?_
      refine lv_istore (lv' := [(8, .int (zI 0)), (7, .int (zI 1)), (6, .int (zI 0)), (0, .ref (d 0)), (1, .int (zI w1)), (2, .int (zI w2)), (3, .int (zI w3)), (4, .int (zI w4)), (5, .int (zI n))]) hx hb dX3_feedAll_24 hl (by decide) rfl (fun ls hl => ?_)
      have loop26 : ∀ (nn : Nat) (k : Int) (ct : Int) (rb : Bool) (Tq : Int → Int) (lq : Int) (bq : Int) (hq_ : Int) (H : Heap) (locs : List Loc) (ls : Array Slot), (0 ≤ k ∧ k ≤ n) → (0 ≤ lq ∧ lq ≤ rm) → ((Tq, lq, bq, hq_, ct, rb) = zit (stA sg rm (zpk w1 w2 w3 w4)) k.toNat (T, sz, bt, fo, 0, true)) → ((n - k).toNat) < nn → va_P D vwCl [(d 0, .inr (3, mo d rm sg pr lq bq ps fi ht hq_)), (d 1, .inl (cI, nT, .inl (zA Tq)))] H → va_D A [(d 0, .inr (3, mo d rm sg pr lq bq ps fi ht hq_)), (d 1, .inl (cI, nT, .inl (zA Tq)))] → va_S A s.heap H locs → lv_has ls 10 [(0, .ref (d 0)), (1, .int (zI w1)), (2, .int (zI w2)), (3, .int (zI w3)), (4, .int (zI w4)), (5, .int (zI n)), (6, .int (zI ct)), (7, .int (zI (bi rb))), (8, .int (zI k))] → W p l e (headSpec wsX3_feedAll ({ frames := 1, cells := 0, slots := 0, locals := 21 })).room s m ([.ref (d 0), .int (zI w1), .int (zI w2), .int (zI w3), .int (zI w4), .int (zI n)] : List Value).toArray below meth c H locs 0 0 (MQ below (zQwi D A (fun (r : Int) (_ : Unit) => r = (fdA sg rm (zpk w1 w2 w3 w4) n T sz bt fo).2.2.2.2.1 ∧ True) (fun _ : Unit => [(d 0, .inr (3, mo d rm sg pr ((fdA sg rm (zpk w1 w2 w3 w4) n T sz bt fo).2.1) ((fdA sg rm (zpk w1 w2 w3 w4) n T sz bt fo).2.2.1) ps fi ht ((fdA sg rm (zpk w1 w2 w3 w4) n T sz bt fo).2.2.2.1))), (d 1, .inl (cI, nT, .inl (zA ((fdA sg rm (zpk w1 w2 w3 w4) n T sz bt fo).1))))])) ([.ref (d 0), .int (zI w1), .int (zI w2), .int (zI w3), .int (zI w4), .int (zI n)] : List Value).toArray s 0 0 A) (F0 m 26 ls []) := by
        intro nn
        induction nn with
        | zero =>
          intros
          exact absurd (by assumption : _ < 0) (Nat.not_lt_zero _)
        | succ nn ih26 =>
          intro k ct rb Tq lq bq hq_ H locs ls h0 hlq hq hmu hP hD hS hl
          refine lv_iload hx hb dX3_feedAll_26 (lv_at hl 8 rfl) ?_
          refine lv_iload hx hb dX3_feedAll_28 (lv_at hl 5 rfl) ?_
          refine z_icmp_ge (tgt := 119) hx hb dX3_feedAll_30 (by decide) (by omega) (by omega) (fun h_7 => ?_) (fun h_7 => ?_)
          · skip
            have hqq : ∃ z : Bool, (Tq, lq, bq, hq_, ct, z) = fdA sg rm (zpk w1 w2 w3 w4) n T sz bt fo := by first | exact ⟨_, fdA_no hno⟩ | exact ⟨_, fdA_st2 hyes h0 hrb hq⟩ | exact ⟨_, fdA_any hyes (by omega) hq⟩
            obtain ⟨zz, hqq⟩ := hqq
            have hP : va_P D vwCl [(d 0, .inr (3, mo d rm sg pr ((fdA sg rm (zpk w1 w2 w3 w4) n T sz bt fo).2.1) ((fdA sg rm (zpk w1 w2 w3 w4) n T sz bt fo).2.2.1) ps fi ht ((fdA sg rm (zpk w1 w2 w3 w4) n T sz bt fo).2.2.2.1))), (d 1, .inl (cI, nT, .inl (zA ((fdA sg rm (zpk w1 w2 w3 w4) n T sz bt fo).1))))] H := by (simp only [← hqq]; exact hP)
            have hD : va_D A [(d 0, .inr (3, mo d rm sg pr ((fdA sg rm (zpk w1 w2 w3 w4) n T sz bt fo).2.1) ((fdA sg rm (zpk w1 w2 w3 w4) n T sz bt fo).2.2.1) ps fi ht ((fdA sg rm (zpk w1 w2 w3 w4) n T sz bt fo).2.2.2.1))), (d 1, .inl (cI, nT, .inl (zA ((fdA sg rm (zpk w1 w2 w3 w4) n T sz bt fo).1))))] := by (simp only [← hqq]; exact hD)
            refine lv_iload hx hb dX3_feedAll_119 (lv_at hl 6 rfl) ?_
            exact W.iret (v := zI ct) hx hb hr (fun t ht_ hW_ => ⟨⟨ct, (), rfl, ⟨by rw [← hqq], trivial⟩, by rw [ht_]; exact hP, hD⟩, hS.F ht_⟩) hS.2.2 dX3_feedAll_121
          · skip
            refine lv_iload hx hb dX3_feedAll_33 (lv_at hl 7 rfl) ?_
            refine z_if_eq (tgt := 119) hx hb dX3_feedAll_35 (by decide) (by first | exact bi_R _ | decide) (fun h_8 => ?_) (fun h_8 => ?_)
            · skip
              try have hrb := bi_eq h_8
              have hqq : ∃ z : Bool, (Tq, lq, bq, hq_, ct, z) = fdA sg rm (zpk w1 w2 w3 w4) n T sz bt fo := by first | exact ⟨_, fdA_no hno⟩ | exact ⟨_, fdA_st2 hyes h0 hrb hq⟩ | exact ⟨_, fdA_any hyes (by omega) hq⟩
              obtain ⟨zz, hqq⟩ := hqq
              have hP : va_P D vwCl [(d 0, .inr (3, mo d rm sg pr ((fdA sg rm (zpk w1 w2 w3 w4) n T sz bt fo).2.1) ((fdA sg rm (zpk w1 w2 w3 w4) n T sz bt fo).2.2.1) ps fi ht ((fdA sg rm (zpk w1 w2 w3 w4) n T sz bt fo).2.2.2.1))), (d 1, .inl (cI, nT, .inl (zA ((fdA sg rm (zpk w1 w2 w3 w4) n T sz bt fo).1))))] H := by (simp only [← hqq]; exact hP)
              have hD : va_D A [(d 0, .inr (3, mo d rm sg pr ((fdA sg rm (zpk w1 w2 w3 w4) n T sz bt fo).2.1) ((fdA sg rm (zpk w1 w2 w3 w4) n T sz bt fo).2.2.1) ps fi ht ((fdA sg rm (zpk w1 w2 w3 w4) n T sz bt fo).2.2.2.1))), (d 1, .inl (cI, nT, .inl (zA ((fdA sg rm (zpk w1 w2 w3 w4) n T sz bt fo).1))))] := by (simp only [← hqq]; exact hD)
              refine lv_iload hx hb dX3_feedAll_119 (lv_at hl 6 rfl) ?_
              exact W.iret (v := zI ct) hx hb hr (fun t ht_ hW_ => ⟨⟨ct, (), rfl, ⟨by rw [← hqq], trivial⟩, by rw [ht_]; exact hP, hD⟩, hS.F ht_⟩) hS.2.2 dX3_feedAll_121
            · skip
              have hrb := bi_ne h_8
              rw [hrb] at hq
              have hpk := zpk_S w1 w2 w3 w4 k
              have hwr := zwd_R (i := k) hw1 hw2 hw3 hw4
              refine lv_iload hx hb dX3_feedAll_38 (lv_at hl 8 rfl) ?_
              refine lv_iconst (v := zI 4) hx hb dX3_feedAll_40 (by first | rfl | decide) ?_
              refine z_icmp_ge (tgt := 48) hx hb dX3_feedAll_41 (by decide) (by omega) (by omega) (fun h_9 => ?_) (fun h_9 => ?_)
              · skip
                refine lv_iload hx hb dX3_feedAll_48 (lv_at hl 8 rfl) ?_
                refine lv_bipush (v := zI 8) hx hb dX3_feedAll_50 (by first | rfl | decide) ?_
                refine z_icmp_ge (tgt := 59) hx hb dX3_feedAll_52 (by decide) (by omega) (by omega) (fun h_10 => ?_) (fun h_10 => ?_)
                · skip
                  refine lv_iload hx hb dX3_feedAll_59 (lv_at hl 8 rfl) ?_
                  refine lv_bipush (v := zI 12) hx hb dX3_feedAll_61 (by first | rfl | decide) ?_
                  refine z_icmp_ge (tgt := 70) hx hb dX3_feedAll_63 (by decide) (by omega) (by omega) (fun h_11 => ?_) (fun h_11 => ?_)
                  · skip
                    refine lv_iload hx hb dX3_feedAll_70 (lv_at hl 4 rfl) ?_
                    refine z_top (b := zwd w1 w2 w3 w4 k) (by unfold zwd; first | rw [if_pos (by omega)] | rw [if_neg (by omega), if_pos (by omega)] | rw [if_neg (by omega), if_neg (by omega), if_pos (by omega)] | rw [if_neg (by omega), if_neg (by omega), if_neg (by omega)]) ?_
                    refine lv_istore (lv' := [(9, .int (zI (zwd w1 w2 w3 w4 k))), (0, .ref (d 0)), (1, .int (zI w1)), (2, .int (zI w2)), (3, .int (zI w3)), (4, .int (zI w4)), (5, .int (zI n)), (6, .int (zI ct)), (7, .int (zI (bi rb))), (8, .int (zI k))]) hx hb dX3_feedAll_72 hl (by decide) rfl (fun ls hl => ?_)
                    refine lv_aload_n hx hb dX3_feedAll_74 rfl (lv_at hl 1 rfl) ?_
                    refine lv_iload hx hb dX3_feedAll_75 (lv_at hl 0 rfl) ?_
                    refine lv_bipush (v := zI 24) hx hb dX3_feedAll_77 (by first | rfl | decide) ?_
                    refine lv_bipush (v := zI 8) hx hb dX3_feedAll_79 (by first | rfl | decide) ?_
                    refine lv_iload hx hb dX3_feedAll_81 (lv_at hl 9 rfl) ?_
                    refine lv_iconst (v := zI 4) hx hb dX3_feedAll_83 (by first | rfl | decide) ?_
                    refine lv_irem hx hb dX3_feedAll_84 (by decide) ?_
                    refine z_topx (b := k % 4) (z_rem4 (by omega) (by omega)) ?_
                    refine z_imul hx hb dX3_feedAll_85 ?_
                    refine z_isub hx hb dX3_feedAll_86 ?_
                    refine lv_ishr hx hb dX3_feedAll_87 ?_
                    refine z_topx (b := (zwd w1 w2 w3 w4 k) / 2 ^ (24 - (8 * (k % 4))).toNat) (z_shr hwr (by omega)) ?_
                    refine lv_sipush (v := zI 255) hx hb dX3_feedAll_88 (by first | rfl | decide) ?_
                    refine lv_iand hx hb dX3_feedAll_91 ?_
                    refine z_topx (b := ((zwd w1 w2 w3 w4 k) / 2 ^ (24 - (8 * (k % 4))).toNat) % 256) (z_and255 _) ?_
                    refine z_top (b := zpk w1 w2 w3 w4 k) (zpk_sh _ rfl (by omega)) ?_
                    refine z_cwi (wc := [(d 0, .inr (3, mo d rm sg pr lq bq ps fi ht hq_)), (d 1, .inl (cI, nT, .inl (zA Tq)))]) (wr := []) (Wt := (fun _ : Unit => [(d 0, .inr (3, mo d rm sg pr (if fok sg rm lq (zpk w1 w2 w3 w4 k) = true then lq + 1 else lq) (if fok sg rm lq (zpk w1 w2 w3 w4 k) = true then 0 else bq) ps fi ht (if fok sg rm lq (zpk w1 w2 w3 w4 k) = true then 0 else hq_))), (d 1, .inl (cI, nT, .inl (zA (if fok sg rm lq (zpk w1 w2 w3 w4 k) = true then zup Tq lq (zpk w1 w2 w3 w4 k) else Tq))))])) [0, 1] [] [0, 1] hP hD hS hA rfl rfl (by decide) (by decide) (by decide) (by decide) (fun _ => rfl) (fun _ => rfl) (fun hPc hDc => va_runV (As := [.int (zI (zpk w1 w2 w3 w4 k))]) (rest := []) ⟨hx, hb, hml, hown, hts⟩ (kX3_feed l D cI cZ cL d rm sg pr lq bq ps fi ht hq_ nT Tq (zpk w1 w2 w3 w4 k) _ (by omega) (by omega) (by omega) (by omega) (by omega)) (cwV 1 hts gX3_feedAll_X3_feed rfl rfl rfl (by decide +kernel) ⟨Nat.le_of_ble_eq_true rfl, Nat.le_of_ble_eq_true rfl⟩) (zPw_preV (ci := 3) (q0 := 0) hK hPc hDc rfl rfl) rfl rfl hl.1 rfl (lv_room (Nat.le_of_ble_eq_true rfl)) dX3_feedAll_92 ⟨Nat.zero_le _, Nat.zero_le _⟩) rfl (fun r_ u H locs hp_ hP hD hS => ?_)
                    have hP : va_P D vwCl [(d 0, .inr (3, mo d rm sg pr (if fok sg rm lq (zpk w1 w2 w3 w4 k) = true then lq + 1 else lq) (if fok sg rm lq (zpk w1 w2 w3 w4 k) = true then 0 else bq) ps fi ht (if fok sg rm lq (zpk w1 w2 w3 w4 k) = true then 0 else hq_))), (d 1, .inl (cI, nT, .inl (zA (if fok sg rm lq (zpk w1 w2 w3 w4 k) = true then zup Tq lq (zpk w1 w2 w3 w4 k) else Tq))))] H := hP
                    have hD : va_D A [(d 0, .inr (3, mo d rm sg pr (if fok sg rm lq (zpk w1 w2 w3 w4 k) = true then lq + 1 else lq) (if fok sg rm lq (zpk w1 w2 w3 w4 k) = true then 0 else bq) ps fi ht (if fok sg rm lq (zpk w1 w2 w3 w4 k) = true then 0 else hq_))), (d 1, .inl (cI, nT, .inl (zA (if fok sg rm lq (zpk w1 w2 w3 w4 k) = true then zup Tq lq (zpk w1 w2 w3 w4 k) else Tq))))] := hD
                    obtain ⟨r_12, rfl⟩ : ∃ z, z = r_ := ⟨_, rfl⟩
                    obtain ⟨hr_, hp_⟩ := hp_
                    subst hr_
                    have hp_92 := hp_
                    refine lv_istore (lv' := [(7, .int (zI (bi (fok sg rm lq (zpk w1 w2 w3 w4 k))))), (9, .int (zI (zwd w1 w2 w3 w4 k))), (0, .ref (d 0)), (1, .int (zI w1)), (2, .int (zI w2)), (3, .int (zI w3)), (4, .int (zI w4)), (5, .int (zI n)), (6, .int (zI ct)), (8, .int (zI k))]) hx hb dX3_feedAll_95 hl (by decide) rfl (fun ls hl => ?_)
                    refine lv_iload hx hb dX3_feedAll_97 (lv_at hl 0 rfl) ?_
                    refine z_if_eq (tgt := 109) hx hb dX3_feedAll_99 (by decide) (bi_R _) (fun h_13 => ?_) (fun h_13 => ?_)
                    · skip
                      have hfk := bi_eq h_13
                      have hfk2 : lq ≤ rm := by omega
                      simp only [hfk, Bool.false_eq_true, if_false] at hP hD
                      have hP : va_P D vwCl [(d 0, .inr (3, mo d rm sg pr lq bq ps fi ht hq_)), (d 1, .inl (cI, nT, .inl (zA Tq)))] H := hP
                      have hD : va_D A [(d 0, .inr (3, mo d rm sg pr lq bq ps fi ht hq_)), (d 1, .inl (cI, nT, .inl (zA Tq)))] := hD
                      refine lv_iload hx hb dX3_feedAll_109 (lv_at hl 8 rfl) ?_
                      refine lv_istore (lv' := [(6, .int (zI ct)), (7, .int (zI (bi (fok sg rm lq (zpk w1 w2 w3 w4 k))))), (9, .int (zI (zwd w1 w2 w3 w4 k))), (0, .ref (d 0)), (1, .int (zI w1)), (2, .int (zI w2)), (3, .int (zI w3)), (4, .int (zI w4)), (5, .int (zI n)), (8, .int (zI k))]) hx hb dX3_feedAll_111 hl (by decide) rfl (fun ls hl => ?_)
                      refine lv_iinc (v := zI (k + 1)) (lv' := [(8, .int (zI (k + 1))), (6, .int (zI ct)), (7, .int (zI (bi (fok sg rm lq (zpk w1 w2 w3 w4 k))))), (9, .int (zI (zwd w1 w2 w3 w4 k))), (0, .ref (d 0)), (1, .int (zI w1)), (2, .int (zI w2)), (3, .int (zI w3)), (4, .int (zI w4)), (5, .int (zI n))]) hx hb dX3_feedAll_113 hl (k := 9) rfl (zI_add _ _) (by decide) rfl (fun ls hl => ?_)
                      refine lv_goto (tgt := 26) hx hb dX3_feedAll_116 (by decide) ?_
                      exact ih26 (k + 1) ct (fok sg rm lq (zpk w1 w2 w3 w4 k)) Tq lq bq hq_ _ _ ls (by omega) (by have := hfk2; omega) (by rw [hfk]; first | exact stA_t hq h0.1 hfk | exact stA_f hq h0.1 hfk) (by omega) (hP) (hD) hS (lv_sub hl [4, 5, 6, 7, 8, 9, 1, 2, 0] rfl)
                    · skip
                      have hfk := bi_ne h_13
                      have hfk2 : lq < rm := by have := hfk; simp [fok] at this; omega
                      simp only [hfk, if_true] at hP hD
                      have hP : va_P D vwCl [(d 0, .inr (3, mo d rm sg pr (lq + 1) 0 ps fi ht 0)), (d 1, .inl (cI, nT, .inl (zA (zup Tq lq (zpk w1 w2 w3 w4 k)))))] H := hP
                      have hD : va_D A [(d 0, .inr (3, mo d rm sg pr (lq + 1) 0 ps fi ht 0)), (d 1, .inl (cI, nT, .inl (zA (zup Tq lq (zpk w1 w2 w3 w4 k)))))] := hD
                      refine lv_iload hx hb dX3_feedAll_102 (lv_at hl 8 rfl) ?_
                      refine lv_iconst (v := zI 1) hx hb dX3_feedAll_104 (by first | rfl | decide) ?_
                      refine z_iadd hx hb dX3_feedAll_105 ?_
                      refine lv_goto (tgt := 111) hx hb dX3_feedAll_106 (by decide) ?_
                      refine lv_istore (lv' := [(6, .int (zI (ct + 1))), (7, .int (zI (bi (fok sg rm lq (zpk w1 w2 w3 w4 k))))), (9, .int (zI (zwd w1 w2 w3 w4 k))), (0, .ref (d 0)), (1, .int (zI w1)), (2, .int (zI w2)), (3, .int (zI w3)), (4, .int (zI w4)), (5, .int (zI n)), (8, .int (zI k))]) hx hb dX3_feedAll_111 hl (by decide) rfl (fun ls hl => ?_)
                      refine lv_iinc (v := zI (k + 1)) (lv' := [(8, .int (zI (k + 1))), (6, .int (zI (ct + 1))), (7, .int (zI (bi (fok sg rm lq (zpk w1 w2 w3 w4 k))))), (9, .int (zI (zwd w1 w2 w3 w4 k))), (0, .ref (d 0)), (1, .int (zI w1)), (2, .int (zI w2)), (3, .int (zI w3)), (4, .int (zI w4)), (5, .int (zI n))]) hx hb dX3_feedAll_113 hl (k := 9) rfl (zI_add _ _) (by decide) rfl (fun ls hl => ?_)
                      refine lv_goto (tgt := 26) hx hb dX3_feedAll_116 (by decide) ?_
                      exact ih26 (k + 1) (ct + 1) (fok sg rm lq (zpk w1 w2 w3 w4 k)) (zup Tq lq (zpk w1 w2 w3 w4 k)) (lq + 1) 0 0 _ _ ls (by omega) (by have := hfk2; omega) (by rw [hfk]; first | exact stA_t hq h0.1 hfk | exact stA_f hq h0.1 hfk) (by omega) (hP) (hD) hS (lv_sub hl [4, 5, 6, 7, 8, 9, 1, 2, 0] rfl)
                  · skip
                    refine lv_iload_n hx hb dX3_feedAll_66 rfl (lv_at hl 3 rfl) ?_
                    refine lv_goto (tgt := 72) hx hb dX3_feedAll_67 (by decide) ?_
                    refine z_top (b := zwd w1 w2 w3 w4 k) (by unfold zwd; first | rw [if_pos (by omega)] | rw [if_neg (by omega), if_pos (by omega)] | rw [if_neg (by omega), if_neg (by omega), if_pos (by omega)] | rw [if_neg (by omega), if_neg (by omega), if_neg (by omega)]) ?_
                    refine lv_istore (lv' := [(9, .int (zI (zwd w1 w2 w3 w4 k))), (0, .ref (d 0)), (1, .int (zI w1)), (2, .int (zI w2)), (3, .int (zI w3)), (4, .int (zI w4)), (5, .int (zI n)), (6, .int (zI ct)), (7, .int (zI (bi rb))), (8, .int (zI k))]) hx hb dX3_feedAll_72 hl (by decide) rfl (fun ls hl => ?_)
                    refine lv_aload_n hx hb dX3_feedAll_74 rfl (lv_at hl 1 rfl) ?_
                    refine lv_iload hx hb dX3_feedAll_75 (lv_at hl 0 rfl) ?_
                    refine lv_bipush (v := zI 24) hx hb dX3_feedAll_77 (by first | rfl | decide) ?_
                    refine lv_bipush (v := zI 8) hx hb dX3_feedAll_79 (by first | rfl | decide) ?_
                    refine lv_iload hx hb dX3_feedAll_81 (lv_at hl 9 rfl) ?_
                    refine lv_iconst (v := zI 4) hx hb dX3_feedAll_83 (by first | rfl | decide) ?_
                    refine lv_irem hx hb dX3_feedAll_84 (by decide) ?_
                    refine z_topx (b := k % 4) (z_rem4 (by omega) (by omega)) ?_
                    refine z_imul hx hb dX3_feedAll_85 ?_
                    refine z_isub hx hb dX3_feedAll_86 ?_
                    refine lv_ishr hx hb dX3_feedAll_87 ?_
                    refine z_topx (b := (zwd w1 w2 w3 w4 k) / 2 ^ (24 - (8 * (k % 4))).toNat) (z_shr hwr (by omega)) ?_
                    refine lv_sipush (v := zI 255) hx hb dX3_feedAll_88 (by first | rfl | decide) ?_
                    refine lv_iand hx hb dX3_feedAll_91 ?_
                    refine z_topx (b := ((zwd w1 w2 w3 w4 k) / 2 ^ (24 - (8 * (k % 4))).toNat) % 256) (z_and255 _) ?_
                    refine z_top (b := zpk w1 w2 w3 w4 k) (zpk_sh _ rfl (by omega)) ?_
                    refine z_cwi (wc := [(d 0, .inr (3, mo d rm sg pr lq bq ps fi ht hq_)), (d 1, .inl (cI, nT, .inl (zA Tq)))]) (wr := []) (Wt := (fun _ : Unit => [(d 0, .inr (3, mo d rm sg pr (if fok sg rm lq (zpk w1 w2 w3 w4 k) = true then lq + 1 else lq) (if fok sg rm lq (zpk w1 w2 w3 w4 k) = true then 0 else bq) ps fi ht (if fok sg rm lq (zpk w1 w2 w3 w4 k) = true then 0 else hq_))), (d 1, .inl (cI, nT, .inl (zA (if fok sg rm lq (zpk w1 w2 w3 w4 k) = true then zup Tq lq (zpk w1 w2 w3 w4 k) else Tq))))])) [0, 1] [] [0, 1] hP hD hS hA rfl rfl (by decide) (by decide) (by decide) (by decide) (fun _ => rfl) (fun _ => rfl) (fun hPc hDc => va_runV (As := [.int (zI (zpk w1 w2 w3 w4 k))]) (rest := []) ⟨hx, hb, hml, hown, hts⟩ (kX3_feed l D cI cZ cL d rm sg pr lq bq ps fi ht hq_ nT Tq (zpk w1 w2 w3 w4 k) _ (by omega) (by omega) (by omega) (by omega) (by omega)) (cwV 1 hts gX3_feedAll_X3_feed rfl rfl rfl (by decide +kernel) ⟨Nat.le_of_ble_eq_true rfl, Nat.le_of_ble_eq_true rfl⟩) (zPw_preV (ci := 3) (q0 := 0) hK hPc hDc rfl rfl) rfl rfl hl.1 rfl (lv_room (Nat.le_of_ble_eq_true rfl)) dX3_feedAll_92 ⟨Nat.zero_le _, Nat.zero_le _⟩) rfl (fun r_ u H locs hp_ hP hD hS => ?_)
                    have hP : va_P D vwCl [(d 0, .inr (3, mo d rm sg pr (if fok sg rm lq (zpk w1 w2 w3 w4 k) = true then lq + 1 else lq) (if fok sg rm lq (zpk w1 w2 w3 w4 k) = true then 0 else bq) ps fi ht (if fok sg rm lq (zpk w1 w2 w3 w4 k) = true then 0 else hq_))), (d 1, .inl (cI, nT, .inl (zA (if fok sg rm lq (zpk w1 w2 w3 w4 k) = true then zup Tq lq (zpk w1 w2 w3 w4 k) else Tq))))] H := hP
                    have hD : va_D A [(d 0, .inr (3, mo d rm sg pr (if fok sg rm lq (zpk w1 w2 w3 w4 k) = true then lq + 1 else lq) (if fok sg rm lq (zpk w1 w2 w3 w4 k) = true then 0 else bq) ps fi ht (if fok sg rm lq (zpk w1 w2 w3 w4 k) = true then 0 else hq_))), (d 1, .inl (cI, nT, .inl (zA (if fok sg rm lq (zpk w1 w2 w3 w4 k) = true then zup Tq lq (zpk w1 w2 w3 w4 k) else Tq))))] := hD
                    obtain ⟨r_14, rfl⟩ : ∃ z, z = r_ := ⟨_, rfl⟩
                    obtain ⟨hr_, hp_⟩ := hp_
                    subst hr_
                    have hp_92 := hp_
                    refine lv_istore (lv' := [(7, .int (zI (bi (fok sg rm lq (zpk w1 w2 w3 w4 k))))), (9, .int (zI (zwd w1 w2 w3 w4 k))), (0, .ref (d 0)), (1, .int (zI w1)), (2, .int (zI w2)), (3, .int (zI w3)), (4, .int (zI w4)), (5, .int (zI n)), (6, .int (zI ct)), (8, .int (zI k))]) hx hb dX3_feedAll_95 hl (by decide) rfl (fun ls hl => ?_)
                    refine lv_iload hx hb dX3_feedAll_97 (lv_at hl 0 rfl) ?_
                    refine z_if_eq (tgt := 109) hx hb dX3_feedAll_99 (by decide) (bi_R _) (fun h_15 => ?_) (fun h_15 => ?_)
                    · skip
                      have hfk := bi_eq h_15
                      have hfk2 : lq ≤ rm := by omega
                      simp only [hfk, Bool.false_eq_true, if_false] at hP hD
                      have hP : va_P D vwCl [(d 0, .inr (3, mo d rm sg pr lq bq ps fi ht hq_)), (d 1, .inl (cI, nT, .inl (zA Tq)))] H := hP
                      have hD : va_D A [(d 0, .inr (3, mo d rm sg pr lq bq ps fi ht hq_)), (d 1, .inl (cI, nT, .inl (zA Tq)))] := hD
                      refine lv_iload hx hb dX3_feedAll_109 (lv_at hl 8 rfl) ?_
                      refine lv_istore (lv' := [(6, .int (zI ct)), (7, .int (zI (bi (fok sg rm lq (zpk w1 w2 w3 w4 k))))), (9, .int (zI (zwd w1 w2 w3 w4 k))), (0, .ref (d 0)), (1, .int (zI w1)), (2, .int (zI w2)), (3, .int (zI w3)), (4, .int (zI w4)), (5, .int (zI n)), (8, .int (zI k))]) hx hb dX3_feedAll_111 hl (by decide) rfl (fun ls hl => ?_)
                      refine lv_iinc (v := zI (k + 1)) (lv' := [(8, .int (zI (k + 1))), (6, .int (zI ct)), (7, .int (zI (bi (fok sg rm lq (zpk w1 w2 w3 w4 k))))), (9, .int (zI (zwd w1 w2 w3 w4 k))), (0, .ref (d 0)), (1, .int (zI w1)), (2, .int (zI w2)), (3, .int (zI w3)), (4, .int (zI w4)), (5, .int (zI n))]) hx hb dX3_feedAll_113 hl (k := 9) rfl (zI_add _ _) (by decide) rfl (fun ls hl => ?_)
                      refine lv_goto (tgt := 26) hx hb dX3_feedAll_116 (by decide) ?_
                      exact ih26 (k + 1) ct (fok sg rm lq (zpk w1 w2 w3 w4 k)) Tq lq bq hq_ _ _ ls (by omega) (by have := hfk2; omega) (by rw [hfk]; first | exact stA_t hq h0.1 hfk | exact stA_f hq h0.1 hfk) (by omega) (hP) (hD) hS (lv_sub hl [4, 5, 6, 7, 8, 9, 1, 2, 0] rfl)
                    · skip
                      have hfk := bi_ne h_15
                      have hfk2 : lq < rm := by have := hfk; simp [fok] at this; omega
                      simp only [hfk, if_true] at hP hD
                      have hP : va_P D vwCl [(d 0, .inr (3, mo d rm sg pr (lq + 1) 0 ps fi ht 0)), (d 1, .inl (cI, nT, .inl (zA (zup Tq lq (zpk w1 w2 w3 w4 k)))))] H := hP
                      have hD : va_D A [(d 0, .inr (3, mo d rm sg pr (lq + 1) 0 ps fi ht 0)), (d 1, .inl (cI, nT, .inl (zA (zup Tq lq (zpk w1 w2 w3 w4 k)))))] := hD
                      refine lv_iload hx hb dX3_feedAll_102 (lv_at hl 8 rfl) ?_
                      refine lv_iconst (v := zI 1) hx hb dX3_feedAll_104 (by first | rfl | decide) ?_
                      refine z_iadd hx hb dX3_feedAll_105 ?_
                      refine lv_goto (tgt := 111) hx hb dX3_feedAll_106 (by decide) ?_
                      refine lv_istore (lv' := [(6, .int (zI (ct + 1))), (7, .int (zI (bi (fok sg rm lq (zpk w1 w2 w3 w4 k))))), (9, .int (zI (zwd w1 w2 w3 w4 k))), (0, .ref (d 0)), (1, .int (zI w1)), (2, .int (zI w2)), (3, .int (zI w3)), (4, .int (zI w4)), (5, .int (zI n)), (8, .int (zI k))]) hx hb dX3_feedAll_111 hl (by decide) rfl (fun ls hl => ?_)
                      refine lv_iinc (v := zI (k + 1)) (lv' := [(8, .int (zI (k + 1))), (6, .int (zI (ct + 1))), (7, .int (zI (bi (fok sg rm lq (zpk w1 w2 w3 w4 k))))), (9, .int (zI (zwd w1 w2 w3 w4 k))), (0, .ref (d 0)), (1, .int (zI w1)), (2, .int (zI w2)), (3, .int (zI w3)), (4, .int (zI w4)), (5, .int (zI n))]) hx hb dX3_feedAll_113 hl (k := 9) rfl (zI_add _ _) (by decide) rfl (fun ls hl => ?_)
                      refine lv_goto (tgt := 26) hx hb dX3_feedAll_116 (by decide) ?_
                      exact ih26 (k + 1) (ct + 1) (fok sg rm lq (zpk w1 w2 w3 w4 k)) (zup Tq lq (zpk w1 w2 w3 w4 k)) (lq + 1) 0 0 _ _ ls (by omega) (by have := hfk2; omega) (by rw [hfk]; first | exact stA_t hq h0.1 hfk | exact stA_f hq h0.1 hfk) (by omega) (hP) (hD) hS (lv_sub hl [4, 5, 6, 7, 8, 9, 1, 2, 0] rfl)
                · skip
                  refine lv_iload_n hx hb dX3_feedAll_55 rfl (lv_at hl 2 rfl) ?_
                  refine lv_goto (tgt := 72) hx hb dX3_feedAll_56 (by decide) ?_
                  refine z_top (b := zwd w1 w2 w3 w4 k) (by unfold zwd; first | rw [if_pos (by omega)] | rw [if_neg (by omega), if_pos (by omega)] | rw [if_neg (by omega), if_neg (by omega), if_pos (by omega)] | rw [if_neg (by omega), if_neg (by omega), if_neg (by omega)]) ?_
                  refine lv_istore (lv' := [(9, .int (zI (zwd w1 w2 w3 w4 k))), (0, .ref (d 0)), (1, .int (zI w1)), (2, .int (zI w2)), (3, .int (zI w3)), (4, .int (zI w4)), (5, .int (zI n)), (6, .int (zI ct)), (7, .int (zI (bi rb))), (8, .int (zI k))]) hx hb dX3_feedAll_72 hl (by decide) rfl (fun ls hl => ?_)
                  refine lv_aload_n hx hb dX3_feedAll_74 rfl (lv_at hl 1 rfl) ?_
                  refine lv_iload hx hb dX3_feedAll_75 (lv_at hl 0 rfl) ?_
                  refine lv_bipush (v := zI 24) hx hb dX3_feedAll_77 (by first | rfl | decide) ?_
                  refine lv_bipush (v := zI 8) hx hb dX3_feedAll_79 (by first | rfl | decide) ?_
                  refine lv_iload hx hb dX3_feedAll_81 (lv_at hl 9 rfl) ?_
                  refine lv_iconst (v := zI 4) hx hb dX3_feedAll_83 (by first | rfl | decide) ?_
                  refine lv_irem hx hb dX3_feedAll_84 (by decide) ?_
                  refine z_topx (b := k % 4) (z_rem4 (by omega) (by omega)) ?_
                  refine z_imul hx hb dX3_feedAll_85 ?_
                  refine z_isub hx hb dX3_feedAll_86 ?_
                  refine lv_ishr hx hb dX3_feedAll_87 ?_
                  refine z_topx (b := (zwd w1 w2 w3 w4 k) / 2 ^ (24 - (8 * (k % 4))).toNat) (z_shr hwr (by omega)) ?_
                  refine lv_sipush (v := zI 255) hx hb dX3_feedAll_88 (by first | rfl | decide) ?_
                  refine lv_iand hx hb dX3_feedAll_91 ?_
                  refine z_topx (b := ((zwd w1 w2 w3 w4 k) / 2 ^ (24 - (8 * (k % 4))).toNat) % 256) (z_and255 _) ?_
                  refine z_top (b := zpk w1 w2 w3 w4 k) (zpk_sh _ rfl (by omega)) ?_
                  refine z_cwi (wc := [(d 0, .inr (3, mo d rm sg pr lq bq ps fi ht hq_)), (d 1, .inl (cI, nT, .inl (zA Tq)))]) (wr := []) (Wt := (fun _ : Unit => [(d 0, .inr (3, mo d rm sg pr (if fok sg rm lq (zpk w1 w2 w3 w4 k) = true then lq + 1 else lq) (if fok sg rm lq (zpk w1 w2 w3 w4 k) = true then 0 else bq) ps fi ht (if fok sg rm lq (zpk w1 w2 w3 w4 k) = true then 0 else hq_))), (d 1, .inl (cI, nT, .inl (zA (if fok sg rm lq (zpk w1 w2 w3 w4 k) = true then zup Tq lq (zpk w1 w2 w3 w4 k) else Tq))))])) [0, 1] [] [0, 1] hP hD hS hA rfl rfl (by decide) (by decide) (by decide) (by decide) (fun _ => rfl) (fun _ => rfl) (fun hPc hDc => va_runV (As := [.int (zI (zpk w1 w2 w3 w4 k))]) (rest := []) ⟨hx, hb, hml, hown, hts⟩ (kX3_feed l D cI cZ cL d rm sg pr lq bq ps fi ht hq_ nT Tq (zpk w1 w2 w3 w4 k) _ (by omega) (by omega) (by omega) (by omega) (by omega)) (cwV 1 hts gX3_feedAll_X3_feed rfl rfl rfl (by decide +kernel) ⟨Nat.le_of_ble_eq_true rfl, Nat.le_of_ble_eq_true rfl⟩) (zPw_preV (ci := 3) (q0 := 0) hK hPc hDc rfl rfl) rfl rfl hl.1 rfl (lv_room (Nat.le_of_ble_eq_true rfl)) dX3_feedAll_92 ⟨Nat.zero_le _, Nat.zero_le _⟩) rfl (fun r_ u H locs hp_ hP hD hS => ?_)
                  have hP : va_P D vwCl [(d 0, .inr (3, mo d rm sg pr (if fok sg rm lq (zpk w1 w2 w3 w4 k) = true then lq + 1 else lq) (if fok sg rm lq (zpk w1 w2 w3 w4 k) = true then 0 else bq) ps fi ht (if fok sg rm lq (zpk w1 w2 w3 w4 k) = true then 0 else hq_))), (d 1, .inl (cI, nT, .inl (zA (if fok sg rm lq (zpk w1 w2 w3 w4 k) = true then zup Tq lq (zpk w1 w2 w3 w4 k) else Tq))))] H := hP
                  have hD : va_D A [(d 0, .inr (3, mo d rm sg pr (if fok sg rm lq (zpk w1 w2 w3 w4 k) = true then lq + 1 else lq) (if fok sg rm lq (zpk w1 w2 w3 w4 k) = true then 0 else bq) ps fi ht (if fok sg rm lq (zpk w1 w2 w3 w4 k) = true then 0 else hq_))), (d 1, .inl (cI, nT, .inl (zA (if fok sg rm lq (zpk w1 w2 w3 w4 k) = true then zup Tq lq (zpk w1 w2 w3 w4 k) else Tq))))] := hD
                  obtain ⟨r_16, rfl⟩ : ∃ z, z = r_ := ⟨_, rfl⟩
                  obtain ⟨hr_, hp_⟩ := hp_
                  subst hr_
                  have hp_92 := hp_
                  refine lv_istore (lv' := [(7, .int (zI (bi (fok sg rm lq (zpk w1 w2 w3 w4 k))))), (9, .int (zI (zwd w1 w2 w3 w4 k))), (0, .ref (d 0)), (1, .int (zI w1)), (2, .int (zI w2)), (3, .int (zI w3)), (4, .int (zI w4)), (5, .int (zI n)), (6, .int (zI ct)), (8, .int (zI k))]) hx hb dX3_feedAll_95 hl (by decide) rfl (fun ls hl => ?_)
                  refine lv_iload hx hb dX3_feedAll_97 (lv_at hl 0 rfl) ?_
                  refine z_if_eq (tgt := 109) hx hb dX3_feedAll_99 (by decide) (bi_R _) (fun h_17 => ?_) (fun h_17 => ?_)
                  · skip
                    have hfk := bi_eq h_17
                    have hfk2 : lq ≤ rm := by omega
                    simp only [hfk, Bool.false_eq_true, if_false] at hP hD
                    have hP : va_P D vwCl [(d 0, .inr (3, mo d rm sg pr lq bq ps fi ht hq_)), (d 1, .inl (cI, nT, .inl (zA Tq)))] H := hP
                    have hD : va_D A [(d 0, .inr (3, mo d rm sg pr lq bq ps fi ht hq_)), (d 1, .inl (cI, nT, .inl (zA Tq)))] := hD
                    refine lv_iload hx hb dX3_feedAll_109 (lv_at hl 8 rfl) ?_
                    refine lv_istore (lv' := [(6, .int (zI ct)), (7, .int (zI (bi (fok sg rm lq (zpk w1 w2 w3 w4 k))))), (9, .int (zI (zwd w1 w2 w3 w4 k))), (0, .ref (d 0)), (1, .int (zI w1)), (2, .int (zI w2)), (3, .int (zI w3)), (4, .int (zI w4)), (5, .int (zI n)), (8, .int (zI k))]) hx hb dX3_feedAll_111 hl (by decide) rfl (fun ls hl => ?_)
                    refine lv_iinc (v := zI (k + 1)) (lv' := [(8, .int (zI (k + 1))), (6, .int (zI ct)), (7, .int (zI (bi (fok sg rm lq (zpk w1 w2 w3 w4 k))))), (9, .int (zI (zwd w1 w2 w3 w4 k))), (0, .ref (d 0)), (1, .int (zI w1)), (2, .int (zI w2)), (3, .int (zI w3)), (4, .int (zI w4)), (5, .int (zI n))]) hx hb dX3_feedAll_113 hl (k := 9) rfl (zI_add _ _) (by decide) rfl (fun ls hl => ?_)
                    refine lv_goto (tgt := 26) hx hb dX3_feedAll_116 (by decide) ?_
                    exact ih26 (k + 1) ct (fok sg rm lq (zpk w1 w2 w3 w4 k)) Tq lq bq hq_ _ _ ls (by omega) (by have := hfk2; omega) (by rw [hfk]; first | exact stA_t hq h0.1 hfk | exact stA_f hq h0.1 hfk) (by omega) (hP) (hD) hS (lv_sub hl [4, 5, 6, 7, 8, 9, 1, 2, 0] rfl)
                  · skip
                    have hfk := bi_ne h_17
                    have hfk2 : lq < rm := by have := hfk; simp [fok] at this; omega
                    simp only [hfk, if_true] at hP hD
                    have hP : va_P D vwCl [(d 0, .inr (3, mo d rm sg pr (lq + 1) 0 ps fi ht 0)), (d 1, .inl (cI, nT, .inl (zA (zup Tq lq (zpk w1 w2 w3 w4 k)))))] H := hP
                    have hD : va_D A [(d 0, .inr (3, mo d rm sg pr (lq + 1) 0 ps fi ht 0)), (d 1, .inl (cI, nT, .inl (zA (zup Tq lq (zpk w1 w2 w3 w4 k)))))] := hD
                    refine lv_iload hx hb dX3_feedAll_102 (lv_at hl 8 rfl) ?_
                    refine lv_iconst (v := zI 1) hx hb dX3_feedAll_104 (by first | rfl | decide) ?_
                    refine z_iadd hx hb dX3_feedAll_105 ?_
                    refine lv_goto (tgt := 111) hx hb dX3_feedAll_106 (by decide) ?_
                    refine lv_istore (lv' := [(6, .int (zI (ct + 1))), (7, .int (zI (bi (fok sg rm lq (zpk w1 w2 w3 w4 k))))), (9, .int (zI (zwd w1 w2 w3 w4 k))), (0, .ref (d 0)), (1, .int (zI w1)), (2, .int (zI w2)), (3, .int (zI w3)), (4, .int (zI w4)), (5, .int (zI n)), (8, .int (zI k))]) hx hb dX3_feedAll_111 hl (by decide) rfl (fun ls hl => ?_)
                    refine lv_iinc (v := zI (k + 1)) (lv' := [(8, .int (zI (k + 1))), (6, .int (zI (ct + 1))), (7, .int (zI (bi (fok sg rm lq (zpk w1 w2 w3 w4 k))))), (9, .int (zI (zwd w1 w2 w3 w4 k))), (0, .ref (d 0)), (1, .int (zI w1)), (2, .int (zI w2)), (3, .int (zI w3)), (4, .int (zI w4)), (5, .int (zI n))]) hx hb dX3_feedAll_113 hl (k := 9) rfl (zI_add _ _) (by decide) rfl (fun ls hl => ?_)
                    refine lv_goto (tgt := 26) hx hb dX3_feedAll_116 (by decide) ?_
                    exact ih26 (k + 1) (ct + 1) (fok sg rm lq (zpk w1 w2 w3 w4 k)) (zup Tq lq (zpk w1 w2 w3 w4 k)) (lq + 1) 0 0 _ _ ls (by omega) (by have := hfk2; omega) (by rw [hfk]; first | exact stA_t hq h0.1 hfk | exact stA_f hq h0.1 hfk) (by omega) (hP) (hD) hS (lv_sub hl [4, 5, 6, 7, 8, 9, 1, 2, 0] rfl)
              · skip
                refine lv_iload_n hx hb dX3_feedAll_44 rfl (lv_at hl 1 rfl) ?_
                refine lv_goto (tgt := 72) hx hb dX3_feedAll_45 (by decide) ?_
                refine z_top (b := zwd w1 w2 w3 w4 k) (by unfold zwd; first | rw [if_pos (by omega)] | rw [if_neg (by omega), if_pos (by omega)] | rw [if_neg (by omega), if_neg (by omega), if_pos (by omega)] | rw [if_neg (by omega), if_neg (by omega), if_neg (by omega)]) ?_
                refine lv_istore (lv' := [(9, .int (zI (zwd w1 w2 w3 w4 k))), (0, .ref (d 0)), (1, .int (zI w1)), (2, .int (zI w2)), (3, .int (zI w3)), (4, .int (zI w4)), (5, .int (zI n)), (6, .int (zI ct)), (7, .int (zI (bi rb))), (8, .int (zI k))]) hx hb dX3_feedAll_72 hl (by decide) rfl (fun ls hl => ?_)
                refine lv_aload_n hx hb dX3_feedAll_74 rfl (lv_at hl 1 rfl) ?_
                refine lv_iload hx hb dX3_feedAll_75 (lv_at hl 0 rfl) ?_
                refine lv_bipush (v := zI 24) hx hb dX3_feedAll_77 (by first | rfl | decide) ?_
                refine lv_bipush (v := zI 8) hx hb dX3_feedAll_79 (by first | rfl | decide) ?_
                refine lv_iload hx hb dX3_feedAll_81 (lv_at hl 9 rfl) ?_
                refine lv_iconst (v := zI 4) hx hb dX3_feedAll_83 (by first | rfl | decide) ?_
                refine lv_irem hx hb dX3_feedAll_84 (by decide) ?_
                refine z_topx (b := k % 4) (z_rem4 (by omega) (by omega)) ?_
                refine z_imul hx hb dX3_feedAll_85 ?_
                refine z_isub hx hb dX3_feedAll_86 ?_
                refine lv_ishr hx hb dX3_feedAll_87 ?_
                refine z_topx (b := (zwd w1 w2 w3 w4 k) / 2 ^ (24 - (8 * (k % 4))).toNat) (z_shr hwr (by omega)) ?_
                refine lv_sipush (v := zI 255) hx hb dX3_feedAll_88 (by first | rfl | decide) ?_
                refine lv_iand hx hb dX3_feedAll_91 ?_
                refine z_topx (b := ((zwd w1 w2 w3 w4 k) / 2 ^ (24 - (8 * (k % 4))).toNat) % 256) (z_and255 _) ?_
                refine z_top (b := zpk w1 w2 w3 w4 k) (zpk_sh _ rfl (by omega)) ?_
                refine z_cwi (wc := [(d 0, .inr (3, mo d rm sg pr lq bq ps fi ht hq_)), (d 1, .inl (cI, nT, .inl (zA Tq)))]) (wr := []) (Wt := (fun _ : Unit => [(d 0, .inr (3, mo d rm sg pr (if fok sg rm lq (zpk w1 w2 w3 w4 k) = true then lq + 1 else lq) (if fok sg rm lq (zpk w1 w2 w3 w4 k) = true then 0 else bq) ps fi ht (if fok sg rm lq (zpk w1 w2 w3 w4 k) = true then 0 else hq_))), (d 1, .inl (cI, nT, .inl (zA (if fok sg rm lq (zpk w1 w2 w3 w4 k) = true then zup Tq lq (zpk w1 w2 w3 w4 k) else Tq))))])) [0, 1] [] [0, 1] hP hD hS hA rfl rfl (by decide) (by decide) (by decide) (by decide) (fun _ => rfl) (fun _ => rfl) (fun hPc hDc => va_runV (As := [.int (zI (zpk w1 w2 w3 w4 k))]) (rest := []) ⟨hx, hb, hml, hown, hts⟩ (kX3_feed l D cI cZ cL d rm sg pr lq bq ps fi ht hq_ nT Tq (zpk w1 w2 w3 w4 k) _ (by omega) (by omega) (by omega) (by omega) (by omega)) (cwV 1 hts gX3_feedAll_X3_feed rfl rfl rfl (by decide +kernel) ⟨Nat.le_of_ble_eq_true rfl, Nat.le_of_ble_eq_true rfl⟩) (zPw_preV (ci := 3) (q0 := 0) hK hPc hDc rfl rfl) rfl rfl hl.1 rfl (lv_room (Nat.le_of_ble_eq_true rfl)) dX3_feedAll_92 ⟨Nat.zero_le _, Nat.zero_le _⟩) rfl (fun r_ u H locs hp_ hP hD hS => ?_)
                have hP : va_P D vwCl [(d 0, .inr (3, mo d rm sg pr (if fok sg rm lq (zpk w1 w2 w3 w4 k) = true then lq + 1 else lq) (if fok sg rm lq (zpk w1 w2 w3 w4 k) = true then 0 else bq) ps fi ht (if fok sg rm lq (zpk w1 w2 w3 w4 k) = true then 0 else hq_))), (d 1, .inl (cI, nT, .inl (zA (if fok sg rm lq (zpk w1 w2 w3 w4 k) = true then zup Tq lq (zpk w1 w2 w3 w4 k) else Tq))))] H := hP
                have hD : va_D A [(d 0, .inr (3, mo d rm sg pr (if fok sg rm lq (zpk w1 w2 w3 w4 k) = true then lq + 1 else lq) (if fok sg rm lq (zpk w1 w2 w3 w4 k) = true then 0 else bq) ps fi ht (if fok sg rm lq (zpk w1 w2 w3 w4 k) = true then 0 else hq_))), (d 1, .inl (cI, nT, .inl (zA (if fok sg rm lq (zpk w1 w2 w3 w4 k) = true then zup Tq lq (zpk w1 w2 w3 w4 k) else Tq))))] := hD
                obtain ⟨r_18, rfl⟩ : ∃ z, z = r_ := ⟨_, rfl⟩
                obtain ⟨hr_, hp_⟩ := hp_
                subst hr_
                have hp_92 := hp_
                refine lv_istore (lv' := [(7, .int (zI (bi (fok sg rm lq (zpk w1 w2 w3 w4 k))))), (9, .int (zI (zwd w1 w2 w3 w4 k))), (0, .ref (d 0)), (1, .int (zI w1)), (2, .int (zI w2)), (3, .int (zI w3)), (4, .int (zI w4)), (5, .int (zI n)), (6, .int (zI ct)), (8, .int (zI k))]) hx hb dX3_feedAll_95 hl (by decide) rfl (fun ls hl => ?_)
                refine lv_iload hx hb dX3_feedAll_97 (lv_at hl 0 rfl) ?_
                refine z_if_eq (tgt := 109) hx hb dX3_feedAll_99 (by decide) (bi_R _) (fun h_19 => ?_) (fun h_19 => ?_)
                · skip
                  have hfk := bi_eq h_19
                  have hfk2 : lq ≤ rm := by omega
                  simp only [hfk, Bool.false_eq_true, if_false] at hP hD
                  have hP : va_P D vwCl [(d 0, .inr (3, mo d rm sg pr lq bq ps fi ht hq_)), (d 1, .inl (cI, nT, .inl (zA Tq)))] H := hP
                  have hD : va_D A [(d 0, .inr (3, mo d rm sg pr lq bq ps fi ht hq_)), (d 1, .inl (cI, nT, .inl (zA Tq)))] := hD
                  refine lv_iload hx hb dX3_feedAll_109 (lv_at hl 8 rfl) ?_
                  refine lv_istore (lv' := [(6, .int (zI ct)), (7, .int (zI (bi (fok sg rm lq (zpk w1 w2 w3 w4 k))))), (9, .int (zI (zwd w1 w2 w3 w4 k))), (0, .ref (d 0)), (1, .int (zI w1)), (2, .int (zI w2)), (3, .int (zI w3)), (4, .int (zI w4)), (5, .int (zI n)), (8, .int (zI k))]) hx hb dX3_feedAll_111 hl (by decide) rfl (fun ls hl => ?_)
                  refine lv_iinc (v := zI (k + 1)) (lv' := [(8, .int (zI (k + 1))), (6, .int (zI ct)), (7, .int (zI (bi (fok sg rm lq (zpk w1 w2 w3 w4 k))))), (9, .int (zI (zwd w1 w2 w3 w4 k))), (0, .ref (d 0)), (1, .int (zI w1)), (2, .int (zI w2)), (3, .int (zI w3)), (4, .int (zI w4)), (5, .int (zI n))]) hx hb dX3_feedAll_113 hl (k := 9) rfl (zI_add _ _) (by decide) rfl (fun ls hl => ?_)
                  refine lv_goto (tgt := 26) hx hb dX3_feedAll_116 (by decide) ?_
                  exact ih26 (k + 1) ct (fok sg rm lq (zpk w1 w2 w3 w4 k)) Tq lq bq hq_ _ _ ls (by omega) (by have := hfk2; omega) (by rw [hfk]; first | exact stA_t hq h0.1 hfk | exact stA_f hq h0.1 hfk) (by omega) (hP) (hD) hS (lv_sub hl [4, 5, 6, 7, 8, 9, 1, 2, 0] rfl)
                · skip
                  have hfk := bi_ne h_19
                  have hfk2 : lq < rm := by have := hfk; simp [fok] at this; omega
                  simp only [hfk, if_true] at hP hD
                  have hP : va_P D vwCl [(d 0, .inr (3, mo d rm sg pr (lq + 1) 0 ps fi ht 0)), (d 1, .inl (cI, nT, .inl (zA (zup Tq lq (zpk w1 w2 w3 w4 k)))))] H := hP
                  have hD : va_D A [(d 0, .inr (3, mo d rm sg pr (lq + 1) 0 ps fi ht 0)), (d 1, .inl (cI, nT, .inl (zA (zup Tq lq (zpk w1 w2 w3 w4 k)))))] := hD
                  refine lv_iload hx hb dX3_feedAll_102 (lv_at hl 8 rfl) ?_
                  refine lv_iconst (v := zI 1) hx hb dX3_feedAll_104 (by first | rfl | decide) ?_
                  refine z_iadd hx hb dX3_feedAll_105 ?_
                  refine lv_goto (tgt := 111) hx hb dX3_feedAll_106 (by decide) ?_
                  refine lv_istore (lv' := [(6, .int (zI (ct + 1))), (7, .int (zI (bi (fok sg rm lq (zpk w1 w2 w3 w4 k))))), (9, .int (zI (zwd w1 w2 w3 w4 k))), (0, .ref (d 0)), (1, .int (zI w1)), (2, .int (zI w2)), (3, .int (zI w3)), (4, .int (zI w4)), (5, .int (zI n)), (8, .int (zI k))]) hx hb dX3_feedAll_111 hl (by decide) rfl (fun ls hl => ?_)
                  refine lv_iinc (v := zI (k + 1)) (lv' := [(8, .int (zI (k + 1))), (6, .int (zI (ct + 1))), (7, .int (zI (bi (fok sg rm lq (zpk w1 w2 w3 w4 k))))), (9, .int (zI (zwd w1 w2 w3 w4 k))), (0, .ref (d 0)), (1, .int (zI w1)), (2, .int (zI w2)), (3, .int (zI w3)), (4, .int (zI w4)), (5, .int (zI n))]) hx hb dX3_feedAll_113 hl (k := 9) rfl (zI_add _ _) (by decide) rfl (fun ls hl => ?_)
                  refine lv_goto (tgt := 26) hx hb dX3_feedAll_116 (by decide) ?_
                  exact ih26 (k + 1) (ct + 1) (fok sg rm lq (zpk w1 w2 w3 w4 k)) (zup Tq lq (zpk w1 w2 w3 w4 k)) (lq + 1) 0 0 _ _ ls (by omega) (by have := hfk2; omega) (by rw [hfk]; first | exact stA_t hq h0.1 hfk | exact stA_f hq h0.1 hfk) (by omega) (hP) (hD) hS (lv_sub hl [4, 5, 6, 7, 8, 9, 1, 2, 0] rfl)
      exact loop26 _ 0 0 true T sz bt fo _ _ ls (by omega) (by omega) (rfl) (Nat.lt_succ_self _) hP hD hS (lv_sub hl [3, 4, 5, 6, 7, 8, 2, 1, 0] rfl)
