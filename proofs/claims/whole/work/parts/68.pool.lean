/-! worlds with a tail; levels in any number -/
theorem va_P_mem {D : va_G} {cl : List vw_C} {ws : va_W} {H : Heap} : va_P D cl ws H ↔ ∀ q ∈ ws, va_at D cl q H := by
  constructor
  · intro h q hq
    obtain ⟨k, hk⟩ := List.getElem?_of_mem hq
    exact h k q hk
  · intro h k q hq
    exact h q (List.mem_of_getElem? hq)
theorem va_D_mem {A : Nat → Prop} {ws : va_W} : va_D A ws ↔ (ws.map (fun q => q.1)).Nodup ∧ ∀ q ∈ ws, A q.1 := by
  constructor
  · rintro ⟨h1, h2⟩
    refine ⟨?_, ?_⟩
    · rw [List.Nodup, List.pairwise_iff_getElem]
      intro i j hi hj hij e
      rw [List.length_map] at hi hj
      rw [List.getElem_map, List.getElem_map] at e
      have := h1 i j ws[i] ws[j] (List.getElem?_eq_getElem hi) (List.getElem?_eq_getElem hj) e
      omega
    · intro q hq
      obtain ⟨k, hk⟩ := List.getElem?_of_mem hq
      exact h2 k q hk
  · rintro ⟨h1, h2⟩
    refine ⟨?_, fun k q hq => h2 q (List.mem_of_getElem? hq)⟩
    intro i j p q hp hq e
    rw [List.Nodup, List.pairwise_iff_getElem] at h1
    obtain ⟨hi, ei⟩ := List.getElem?_eq_some_iff.mp hp
    obtain ⟨hj, ej⟩ := List.getElem?_eq_some_iff.mp hq
    rcases Nat.lt_trichotomy i j with l | l | l
    · exact absurd (by rw [List.getElem_map, List.getElem_map, ei, ej]; exact e) (h1 i j (by rw [List.length_map]; exact hi) (by rw [List.length_map]; exact hj) l)
    · exact l
    · exact absurd (by rw [List.getElem_map, List.getElem_map, ei, ej]; exact e.symm) (h1 j i (by rw [List.length_map]; exact hj) (by rw [List.length_map]; exact hi) l)
theorem va_P_perm {D : va_G} {cl : List vw_C} {ws ws' : va_W} {H : Heap} (h : ws.Perm ws') (hP : va_P D cl ws H) : va_P D cl ws' H :=
  va_P_mem.mpr (fun q hq => va_P_mem.mp hP q (h.mem_iff.mpr hq))
theorem va_D_perm {A : Nat → Prop} {ws ws' : va_W} (h : ws.Perm ws') (hD : va_D A ws) : va_D A ws' := by
  obtain ⟨h1, h2⟩ := va_D_mem.mp hD
  exact va_D_mem.mpr ⟨(h.map _).nodup_iff.mp h1, fun q hq => h2 q (h.mem_iff.mpr hq)⟩
theorem rg_app {α : Type} (l r : List α) : (List.range l.length).map (fun i => (l ++ r)[i]?) = l.map some := by
  apply List.ext_getElem
  · simp
  · intro i h1 h2
    simp at h1 ⊢
    rw [List.getElem?_append_left h1, List.getElem?_eq_getElem h1]
theorem nd_range (a n : Nat) : va_nd ((List.range n).map (fun i => a + i)) = true := by
  have : ∀ l : List Nat, l.Nodup → va_nd l = true := by
    intro l
    induction l with
    | nil => intro _; rfl
    | cons x l ih =>
      intro h
      rw [List.nodup_cons] at h
      have h2 := ih h.2
      unfold va_nd
      simp only [h2, Bool.and_true]
      simp [h.1]
  refine this _ ?_
  rw [List.Nodup, List.pairwise_map]
  exact List.Pairwise.imp (fun h => by omega) List.pairwise_lt_range
section ZT
variable {p : Program} {l : Launch} {e : Env} {R : Room} {s : State} {m : MethodId} {args : Array Value} {below : List Frame} {meth : Method} {c : Code} {H : Heap} {locs : List Loc} {cells slots : Nat} {Q : State → Prop}
variable {pc : Nat} {ls : Array Slot} {rest st0 : List Value} {a : Array Value} {D : va_G} {cI cZ cL : ClassId} {w0 wc wr tl : va_W} {A0 : Nat → Prop} {H0 : Heap} {mc ms : Nat}
/-- the frame rule for a split world: the rest first, then the callee's cells -/
theorem zj_split {H1 : Heap} {w1 : va_W} (hP : va_P D vwCl (wr ++ wc) H) (hD : va_D A0 (wr ++ wc)) (hk : ∀ q : Nat, q < H.size → ¬ va_A wc H.size q → H1[q]? = H[q]?) (hF : ∀ q, va_A wc H.size q → A0 q) (hP1 : va_P D vwCl w1 H1) (hD1 : va_D (va_A wc H.size) w1) : va_P D vwCl (wr ++ w1) H1 ∧ va_D A0 (wr ++ w1) := by
  have hC : ((List.range wc.length).map (fun i => wr.length + i)).map (fun i => (wr ++ wc)[i]?) = wc.map some := by
    rw [List.map_map]
    apply List.ext_getElem
    · simp
    · intro i h1 h2
      simp at h1 ⊢
      rw [List.getElem?_append_right (by omega), show wr.length + i - wr.length = i by omega, List.getElem?_eq_getElem h1]
  refine va_join (wr := wr) (w1 := w1) hP hD ((List.range wc.length).map (fun i => wr.length + i)) (List.range wr.length) hC (rg_app wr wc) ?_ ?_ hk hF hP1 hD1
  · have := nd_range 0 wr.length
    simpa using this
  · intro i hi hj
    rw [List.mem_range] at hi
    obtain ⟨k, -, hk⟩ := List.mem_map.mp hj
    omega
theorem zj_free (hD : va_D A0 (wr ++ wc)) (hS : va_S A0 H0 H locs) (hA : ∀ q, H0.size ≤ q → A0 q) : ∀ q, va_A wc H.size q → A0 q := by
  intro q hq
  rcases hq with ⟨k, e, h⟩ | h
  · exact (va_D_mem.mp hD).2 (q, e) (List.mem_append_right _ (List.mem_of_getElem? h))
  · exact hA q (Nat.le_trans hS.1 h)
theorem z_cwT {S : Type} {post : S → Prop} {Wf Wt : S → va_W} (hP : va_P D vwCl (w0 ++ tl) H) (hD : va_D A0 (w0 ++ tl)) (hS : va_S A0 H0 H locs) (hA : ∀ q, H0.size ≤ q → A0 q)
    (hperm : w0.Perm (wr ++ wc)) (hperm2 : ∀ u, (wr ++ Wf u).Perm (Wt u))
    (hr : va_P D vwCl wc H → va_D (fun _ => True) wc → va_Run p l e R s m args below meth c H locs cells slots mc ms (F0 m pc ls st0) rest (zQw D (va_A wc H.size) post Wf a) (va_A wc H.size))
    (kk : ∀ (u : S) (H1 : Heap) (locs1 : List Loc), post u → va_P D vwCl (Wt u ++ tl) H1 → va_D A0 (Wt u ++ tl) → va_S A0 H0 H1 locs1 → W p l e R s m args below meth c H1 locs1 (cells + mc) (slots + ms) Q (F0 m (pc + 3) ls rest)) : W p l e R s m args below meth c H locs cells slots Q (F0 m pc ls st0) := by
  have hpm : (w0 ++ tl).Perm ((tl ++ wr) ++ wc) := ((hperm.append_right tl).trans (List.perm_append_comm)).trans (by rw [List.append_assoc])
  have hP := va_P_perm hpm hP
  have hD := va_D_perm hpm hD
  have hF := zj_free hD hS hA
  have hPc : va_P D vwCl wc H := va_P_mem.mpr (fun q hq => va_P_mem.mp hP q (List.mem_append_right _ hq))
  have hDc : va_D (fun _ => True) wc := by
    obtain ⟨h1, h2⟩ := va_D_mem.mp hD
    rw [List.map_append] at h1
    exact va_D_mem.mpr ⟨(List.nodup_append.mp h1).2.1, fun _ _ => trivial⟩
  have hr := hr hPc hDc
  intro T hT X
  obtain ⟨v, st₀, t, T', L, h0, X', hL, e1, e2, ⟨⟨u, hv, hp, hP1, hD1⟩, hz, hk⟩, st⟩ := hr T hT X
  cases hv
  rw [h0] at hz hk
  have hS' : va_S A0 H0 T'.heap (locs ++ L) := ⟨Nat.le_trans hS.1 (by rw [e1]; exact hz), fun q h1 h2 => by rw [e1, hk q (Nat.lt_of_lt_of_le h1 hS.1) (fun z => h2 (hF q z))]; exact hS.2.1 q h1 h2, fun q hq => by
      rcases List.mem_append.mp hq with h | h
      · exact hS.2.2 q h
      · exact hF _ (hL q h)⟩
  obtain ⟨hP2, hD2⟩ := zj_split (H1 := T'.heap) (w1 := Wf u) hP hD (fun q h1 h2 => by rw [e1]; exact hk q h1 h2) hF (by rw [e1]; exact hP1) hD1
  have hpm2 : ((tl ++ wr) ++ Wf u).Perm (Wt u ++ tl) := by
    rw [List.append_assoc]
    exact List.perm_append_comm.trans ((hperm2 u).append_right tl)
  obtain ⟨t2, a1, b1⟩ := kk u T'.heap (locs ++ L) hp (va_P_perm hpm2 hP2) (va_D_perm hpm2 hD2) hS' T' rfl X'
  exact ⟨t2, st t2 a1, b1⟩
theorem z_cwiT {S : Type} {post : Int → S → Prop} {Wf Wt : S → va_W} (hP : va_P D vwCl (w0 ++ tl) H) (hD : va_D A0 (w0 ++ tl)) (hS : va_S A0 H0 H locs) (hA : ∀ q, H0.size ≤ q → A0 q)
    (hperm : w0.Perm (wr ++ wc)) (hperm2 : ∀ u, (wr ++ Wf u).Perm (Wt u))
    (hr : va_P D vwCl wc H → va_D (fun _ => True) wc → va_Run p l e R s m args below meth c H locs cells slots mc ms (F0 m pc ls st0) rest (zQwi D (va_A wc H.size) post Wf a) (va_A wc H.size))
    (kk : ∀ (r : Int) (u : S) (H1 : Heap) (locs1 : List Loc), post r u → va_P D vwCl (Wt u ++ tl) H1 → va_D A0 (Wt u ++ tl) → va_S A0 H0 H1 locs1 → W p l e R s m args below meth c H1 locs1 (cells + mc) (slots + ms) Q (F0 m (pc + 3) ls (.int (zI r) :: rest))) : W p l e R s m args below meth c H locs cells slots Q (F0 m pc ls st0) := by
  have hpm : (w0 ++ tl).Perm ((tl ++ wr) ++ wc) := ((hperm.append_right tl).trans (List.perm_append_comm)).trans (by rw [List.append_assoc])
  have hP := va_P_perm hpm hP
  have hD := va_D_perm hpm hD
  have hF := zj_free hD hS hA
  have hPc : va_P D vwCl wc H := va_P_mem.mpr (fun q hq => va_P_mem.mp hP q (List.mem_append_right _ hq))
  have hDc : va_D (fun _ => True) wc := by
    obtain ⟨h1, h2⟩ := va_D_mem.mp hD
    rw [List.map_append] at h1
    exact va_D_mem.mpr ⟨(List.nodup_append.mp h1).2.1, fun _ _ => trivial⟩
  have hr := hr hPc hDc
  intro T hT X
  obtain ⟨v, st₀, t, T', L, h0, X', hL, e1, e2, ⟨⟨r, u, hv, hp, hP1, hD1⟩, hz, hk⟩, st⟩ := hr T hT X
  cases hv
  rw [h0] at hz hk
  have hS' : va_S A0 H0 T'.heap (locs ++ L) := ⟨Nat.le_trans hS.1 (by rw [e1]; exact hz), fun q h1 h2 => by rw [e1, hk q (Nat.lt_of_lt_of_le h1 hS.1) (fun z => h2 (hF q z))]; exact hS.2.1 q h1 h2, fun q hq => by
      rcases List.mem_append.mp hq with h | h
      · exact hS.2.2 q h
      · exact hF _ (hL q h)⟩
  obtain ⟨hP2, hD2⟩ := zj_split (H1 := T'.heap) (w1 := Wf u) hP hD (fun q h1 h2 => by rw [e1]; exact hk q h1 h2) hF (by rw [e1]; exact hP1) hD1
  have hpm2 : ((tl ++ wr) ++ Wf u).Perm (Wt u ++ tl) := by
    rw [List.append_assoc]
    exact List.perm_append_comm.trans ((hperm2 u).append_right tl)
  obtain ⟨t2, a1, b1⟩ := kk r u T'.heap (locs ++ L) hp (va_P_perm hpm2 hP2) (va_D_perm hpm2 hD2) hS' T' rfl X'
  exact ⟨t2, st t2 a1, b1⟩
end ZT
/-- a level: its object, its letters' row, that row's room, how many letters, how many different, the letters -/
abbrev LvT : Type := Nat × Nat × Nat × Int × Int × (Int → Int)
abbrev lvC (cI : ClassId) (x : LvT) : va_W := [(x.1, .inr (1, lo x.2.1 x.2.2.2.1 x.2.2.2.2.1)), (x.2.1, .inl (cI, x.2.2.1, .inl (zA x.2.2.2.2.2)))]
def lvP (cI : ClassId) (L : Nat) (F : Nat → LvT) : va_W := (List.range L).flatMap (fun j => lvC cI (F j))
def lvR (cI : ClassId) (L : Nat) (F : Nat → LvT) (i : Nat) : va_W := ((List.range L).erase i).flatMap (fun j => lvC cI (F j))
def lvR2 (cI : ClassId) (L : Nat) (F : Nat → LvT) (i j : Nat) : va_W := (((List.range L).erase i).erase j).flatMap (fun j => lvC cI (F j))
theorem lv_out {cI : ClassId} {L : Nat} {F : Nat → LvT} {i : Nat} (h : i < L) : (lvP cI L F).Perm (lvC cI (F i) ++ lvR cI L F i) := by
  have h1 : (List.range L).Perm (i :: (List.range L).erase i) := List.perm_cons_erase (List.mem_range.mpr h)
  have h2 := List.Perm.flatMap_right (fun j => lvC cI (F j)) h1
  rw [List.flatMap_cons] at h2
  exact h2
theorem lv_out2 {cI : ClassId} {L : Nat} {F : Nat → LvT} {i j : Nat} (hj : j < L) (hij : i ≠ j) : (lvR cI L F i).Perm (lvC cI (F j) ++ lvR2 cI L F i j) := by
  have h1 : ((List.range L).erase i).Perm (j :: ((List.range L).erase i).erase j) := List.perm_cons_erase ((List.Nodup.mem_erase_iff List.nodup_range).mpr ⟨fun e => hij e.symm, List.mem_range.mpr hj⟩)
  have h2 := List.Perm.flatMap_right (fun j => lvC cI (F j)) h1
  rw [List.flatMap_cons] at h2
  exact h2
theorem lvR_cg {cI : ClassId} {L : Nat} {F F' : Nat → LvT} {i : Nat} (h : ∀ j, j ≠ i → F' j = F j) : lvR cI L F' i = lvR cI L F i := by
  unfold lvR
  rw [List.flatMap_def, List.flatMap_def]
  congr 1
  apply List.map_congr_left
  intro j hj
  rw [h j ((List.Nodup.mem_erase_iff List.nodup_range).mp hj).1]
theorem lvR2_cg {cI : ClassId} {L : Nat} {F F' : Nat → LvT} {i j : Nat} (h : ∀ k, k ≠ i → k ≠ j → F' k = F k) : lvR2 cI L F' i j = lvR2 cI L F i j := by
  unfold lvR2
  rw [List.flatMap_def, List.flatMap_def]
  congr 1
  apply List.map_congr_left
  intro k hk
  have h1 := (List.Nodup.mem_erase_iff (List.Nodup.erase _ List.nodup_range)).mp hk
  have h2 := (List.Nodup.mem_erase_iff List.nodup_range).mp h1.2
  rw [h k h2.1 h1.1]
