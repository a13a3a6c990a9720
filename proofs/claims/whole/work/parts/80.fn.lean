def fn5 (x0 x1 x2 x3 x4 : Nat) : Nat → Nat
  | 0 => x0
  | 1 => x1
  | 2 => x2
  | 3 => x3
  | _ => x4
def fn11 (x0 x1 x2 x3 x4 x5 x6 x7 x8 x9 x10 : Nat) : Nat → Nat
  | 0 => x0
  | 1 => x1
  | 2 => x2
  | 3 => x3
  | 4 => x4
  | 5 => x5
  | 6 => x6
  | 7 => x7
  | 8 => x8
  | 9 => x9
  | _ => x10
theorem lvP_s {cI : ClassId} {i : Nat} {F F' : Nat → LvT} (h : ∀ j, j < i → F' j = F j) : lvP cI (i + 1) F' = lvP cI i F ++ lvC cI (F' i) := by
  unfold lvP
  rw [List.range_succ, List.flatMap_append]
  congr 1
  · rw [List.flatMap_def, List.flatMap_def]
    congr 1
    apply List.map_congr_left
    intro j hj
    rw [h j (List.mem_range.mp hj)]
theorem lvP_0 {cI : ClassId} {F : Nat → LvT} : lvP cI 0 F = [] := rfl
section ZS2
variable {p : Program} {l : Launch} {e : Env} {R : Room} {s : State} {m : MethodId} {args : Array Value} {below : List Frame} {meth : Method} {c : Code} {H : Heap} {locs : List Loc} {cells slots : Nat} {Q : State → Prop}
variable {cc : ByteArray} {pc : Nat} {ls : Array Slot} {rest : List Value} {a : Int} {D : va_G} {tys : List (ClassId × FieldType)} {ws : va_W} {ad : Nat} {A : Nat → Prop} {H0 : Heap}
theorem z_aast (hx : p.tables.exec = Jvm.exec) (hb : c.code = cc) (hK : va_K D vwCl tys s) (hP : va_P D vwCl ws H) (hD : va_D A ws) (hS : va_S A H0 H locs) (q0 t0 qk : Nat) {cA : ClassId} {n v : Nat} {vs : List Value} {f : Nat → Option Nat} (ha : ws[q0]? = some (ad, .inl (cA, n, .inr (.inr (.inr (.inr f)))))) (ht : tys[t0]? = some (cA, .object RX1)) (hv : ws[qk]? = some (v, .inr (1, vs))) (hdg : decode cc pc = .ok (.aastore, 1)) (hr : zR a) (h0 : 0 ≤ a) (h1 : a < n)
    (kk : ∀ (H1 : Heap) (locs1 : List Loc), va_P D vwCl (ws.set q0 (ad, .inl (cA, n, .inr (.inr (.inr (.inr (va_up f a.toNat (some v)))))))) H1 → va_D A (ws.set q0 (ad, .inl (cA, n, .inr (.inr (.inr (.inr (va_up f a.toNat (some v)))))))) → va_S A H0 H1 locs1 → W p l e R s m args below meth c H1 locs1 cells slots Q (F0 m (pc + 1) ls rest)) : W p l e R s m args below meth c H locs cells slots Q (F0 m pc ls (.ref v :: .int (zI a) :: .ref ad :: rest)) :=
  va_astq (r := (RX1, TX1, 3)) hx hb hK hP hD hS q0 t0 qk 1 ha ht hv rfl (zI_in hr h0 h1) hdg (by rw [zI_clamp hr]; exact kk)
end ZS2
/-- the levels' row while it is being filled -/
def lvF (la : Nat → Nat) (i : Nat) : Nat → Option Nat := fun k => if k < i then some (la k) else none
theorem lvF_0 (la : Nat → Nat) : (fun _ => none) = lvF la 0 := by
  funext k; rw [lvF, if_neg (by omega)]
theorem lvF_s (la : Nat → Nat) (i q : Nat) : va_up (lvF la i) i (some q) = lvF (te_fu la i q) (i + 1) := by
  funext k
  unfold va_up lvF
  by_cases e : k = i
  · rw [if_pos e, if_pos (by omega), e, te_fu_eq]
  · rw [if_neg e, te_fu_ne e]
    by_cases h : k < i
    · rw [if_pos h, if_pos (by omega)]
    · rw [if_neg h, if_neg (by omega)]
abbrev G0 : GvT := (0, 0, fun _ => 0)
theorem lvP_in {cI : ClassId} {i : Nat} {la lb nl : Nat → Nat} {q r : Nat} (fx : va_W) : (([(q, .inr (1, lo r 0 0)), (r, .inl (cI, nl i, .inl (zA (fun _ => 0))))] : va_W) ++ (fx ++ lvP cI i (fun k => (la k, lb k, nl k, G0)))).Perm (fx ++ lvP cI (i + 1) (fun k => (te_fu la i q k, te_fu lb i r k, nl k, G0))) := by
  have e := lvP_s (cI := cI) (i := i) (F := fun k => (la k, lb k, nl k, G0)) (F' := fun k => (te_fu la i q k, te_fu lb i r k, nl k, G0)) (fun j hj => by rw [te_fu_ne (by omega), te_fu_ne (by omega)])
  rw [e]
  have e2 : lvC cI (te_fu la i q i, te_fu lb i r i, nl i, G0) = [(q, .inr (1, lo r 0 0)), (r, .inl (cI, nl i, .inl (zA (fun _ => 0))))] := by
    rw [te_fu_eq, te_fu_eq]
  rw [e2, ← List.append_assoc fx]
  exact List.perm_append_comm
theorem zpm_c {w0 wc oth tl : va_W} (h : w0.Perm (wc ++ oth)) : (w0 ++ tl).Perm ((oth ++ tl) ++ wc) := by
  have h1 := h.append_right tl
  rw [List.append_assoc] at h1
  exact h1.trans List.perm_append_comm
