/-- kind and length of the row at a place -/
def yk (j : Nat) : Nat × Nat := match yarr[j]? with
  | some q => (q.2.2.1, q.2.2.2)
  | none => (0, 0)
def yNew : yS := (fun _ => 0, fun k => match yarr.lookup k with
  | some q => List.replicate q.2.2 0
  | none => [])
theorem yk_ok : ∀ p ∈ yarr, yk p.2.1 = (p.2.2.1, p.2.2.2) := by decide
def ysl (i : Nat) : Nat := ((yarr.take i).map (fun q => q.2.2.2)).sum
theorem ysl_s {i : Nat} {q : Nat × Nat × Nat × Nat} (h : yarr[i]? = some q) : ysl (i + 1) = ysl i + q.2.2.2 := by
  unfold ysl
  rw [List.take_succ, h]
  simp
def yfi (G : xG) (a i k : Nat) : Value := match yarr.lookup k with
  | some q => if q.1 < i then rf G (a + 1 + q.1) else .null
  | none => .int 0
def yI (G : xG) (a i : Nat) (s0 s : xS) : Prop := s.1 a = some (9, (List.range 57).map (yfi G a i)) ∧ (∀ j, j < i → s.1 (a + 1 + j) = some ((yk j).1, List.replicate (yk j).2 (.int 0))) ∧ (∀ q, q < a → s.1 q = s0.1 q) ∧ s.2.1 = a + 1 + i ∧ s.2.2 = s0.2.2 + ysl i
theorem yfi_set {G : xG} {a i k : Nat} {q : Nat × Nat} (h : yarr.lookup k = some (i, q)) : ((List.range 57).map (yfi G a i)).set k (rf G (a + 1 + i)) = (List.range 57).map (yfi G a (i + 1)) := by
  apply List.ext_getElem?
  intro j
  rw [List.getElem?_set]
  simp only [List.getElem?_map, List.length_map, List.length_range]
  by_cases hj : j < 57
  · rw [List.getElem?_range hj]
    by_cases e : k = j
    · subst e
      simp [yfi, h, hj]
    · rw [if_neg e]
      simp only [Option.map_some]
      congr 1
      unfold yfi
      cases hl : yarr.lookup j with
      | none => rfl
      | some p =>
        have hne : p.1 ≠ i := by
          intro he
          have := yinj _ (xlook hl) _ (xlook h) he
          exact e (congrArg Prod.fst this).symm
        simp only
        by_cases hp : p.1 < i
        · rw [if_pos hp, if_pos (by omega)]
        · rw [if_neg hp, if_neg (by omega)]
  · rw [List.getElem?_eq_none (by simp; omega)]
    split
    · rw [if_neg (by omega)]; rfl
    · rfl
def yisA (t : FieldType) : Bool := match t with
  | .array _ => true
  | _ => false
theorem yfinB : ∀ p ∈ yarr, xFin 9 p.1 = true ∧ yisA (xTy 9 p.1) = true := by decide +kernel
theorem yfinA : ∀ p ∈ yarr, xFin 9 p.1 = true ∧ ∃ t, xTy 9 p.1 = .array t := fun p hp => by
  obtain ⟨h1, h2⟩ := yfinB p hp
  refine ⟨h1, ?_⟩
  generalize xTy 9 p.1 = ty at h2
  cases ty with
  | array t => exact ⟨t, rfl⟩
  | _ => cases h2
set_option maxRecDepth 100000 in
set_option maxHeartbeats 2000000 in
theorem yI_step {G : xG} {d a i pc ta idx k t N : Nat} {atype : ArrayType} {n : Int32} {lo : xL} {s0 s : xS} {Q : Option Value → xS → Prop} (hI : yI G a i s0 s) (hr : (k, i, t, N) ∈ yarr) (hri : yarr[i]? = some (k, i, t, N)) (hl : yarr.lookup k = some (i, t, N)) (hd1 : mX9_init.2.2.2.2.lookup pc = some ((188, ta, 0), 2)) (hins : xins pc (188, ta, 0) = .newarray atype) (hty : newarray.typeOf atype = xtag t) (hw : Cond.arrayClass (xtag t) ∈ xGw) (hn : ¬ n < 0) (hN : n.toNatClampNeg = N) (hd2 : mX9_init.2.2.2.2.lookup (pc + 2) = some ((181, idx, 0), 3)) (hf : ∃ r : vw_C, vwCl[9]? = some r ∧ k < r.2.2 ∧ (r.2.1 k).1 = mX9_init.1.cls ∧ Cond.fieldLink mX9_init.1.cls idx (r.2.1 k).1 (r.2.1 k).2.1 (r.2.1 k).2.2.1 ∈ xGw)
    (kk : ∀ s', yI G a (i + 1) s0 s' → xw G d mX9_init (pc + 5) lo [] s' Q) : xw G d mX9_init pc lo [.int n, rf G a] s Q := by
  obtain ⟨h1, h2, h3, h4, h5⟩ := hI
  have hp := yall _ hr
  have hNb : N ≤ 180000 := by
    have : ∀ p ∈ yarr, p.2.2.2 ≤ 180000 := by decide
    exact this _ hr
  refine xna (t := t) (atype := atype) (N := N) h4 hd1 hins hp.2.2.1 hp.2.2.2.1 hty hw hn hN hp.2.2.2.2 (fun s1 n1 f1 g1 k1 => ?_)
  obtain ⟨hfin, tt, hTy⟩ := yfinA _ hr
  refine xpF hd2 hf rfl ((f1 _ (by omega)).trans h1) hfin (by rw [hTy]; rfl) (by rw [hTy]; rfl) (fun s2 n2 f2 e2 => ?_)
  refine kk s2 ⟨by rw [n2, yfi_set hl], fun j hj => ?_, fun q hq => by rw [f2 q (by omega), f1 q (by omega), h3 q hq], by rw [e2]; omega, by rw [e2, k1, h5, ysl_s hri]; dsimp only; omega⟩
  rw [f2 _ (by omega)]
  by_cases e : j = i
  · subst e
    rw [n1, yk_ok _ hr]
  · rw [f1 _ (by omega)]
    exact h2 j (by omega)
set_option maxRecDepth 100000 in
set_option maxHeartbeats 2000000 in
theorem cm_init {G : xG} {d a : Nat} {σ : xS} (h : σ.1 a = some (9, xdef 9)) (hx : σ.2.1 = a + 1) : xm G (d + 1) mX9_init [rf G a] σ (fun v σ' => v = none ∧ mdl G σ'.1 a yNew ∧ (∀ q, q < a → σ'.1 q = σ.1 q) ∧ σ'.2.1 = a + 37 ∧ σ'.2.2 ≤ σ.2.2 + 180000) := by
  have hI : yI G a 0 σ σ := ⟨by rw [h]; rfl, fun j hj => absurd hj (by omega), fun _ _ => rfl, hx, rfl⟩
  clear h hx
  refine xm_at 1 rfl (by decide) (Nat.le_of_ble_eq_true rfl) (by simp [Value.category]) tX9_init_ok ?_
  try simp only [xlo0, List.map_cons, List.map_nil, List.length_cons, List.length_nil, xrs, xr0, Nat.reduceAdd, Nat.reduceSub, List.cons_append, List.nil_append, List.set_cons_zero, List.set_cons_succ, Option.toList_none, Option.toList_some, nI_1]
  refine xgo 80 rfl ?_
  try simp only [xlo0, List.map_cons, List.map_nil, List.length_cons, List.length_nil, xrs, xr0, Nat.reduceAdd, Nat.reduceSub, List.cons_append, List.nil_append, List.set_cons_zero, List.set_cons_succ, Option.toList_none, Option.toList_some, nI_1]
  refine xi_obj rfl oX9 (Nat.le_of_ble_eq_true rfl) ?_
  refine xgo 80 rfl ?_
  try simp only [xlo0, List.map_cons, List.map_nil, List.length_cons, List.length_nil, xrs, xr0, Nat.reduceAdd, Nat.reduceSub, List.cons_append, List.nil_append, List.set_cons_zero, List.set_cons_succ, Option.toList_none, Option.toList_some, nI_1]
  refine yI_step (i := 0) (k := 5) (t := 11) (N := 4) (atype := .int) hI (by decide) rfl rfl rfl rfl rfl a_11 (by decide) rfl rfl fX9_7F (fun s0 hI => ?_)
  refine xgo 80 rfl ?_
  try simp only [xlo0, List.map_cons, List.map_nil, List.length_cons, List.length_nil, xrs, xr0, Nat.reduceAdd, Nat.reduceSub, List.cons_append, List.nil_append, List.set_cons_zero, List.set_cons_succ, Option.toList_none, Option.toList_some, nI_1]
  refine yI_step (i := 1) (k := 6) (t := 11) (N := 4) (atype := .int) hI (by decide) rfl rfl rfl rfl rfl a_11 (by decide) rfl rfl fX9_13F (fun s1 hI => ?_)
  refine xgo 80 rfl ?_
  try simp only [xlo0, List.map_cons, List.map_nil, List.length_cons, List.length_nil, xrs, xr0, Nat.reduceAdd, Nat.reduceSub, List.cons_append, List.nil_append, List.set_cons_zero, List.set_cons_succ, Option.toList_none, Option.toList_some, nI_1]
  refine yI_step (i := 2) (k := 7) (t := 11) (N := 4) (atype := .int) hI (by decide) rfl rfl rfl rfl rfl a_11 (by decide) rfl rfl fX9_16F (fun s2 hI => ?_)
  refine xgo 80 rfl ?_
  try simp only [xlo0, List.map_cons, List.map_nil, List.length_cons, List.length_nil, xrs, xr0, Nat.reduceAdd, Nat.reduceSub, List.cons_append, List.nil_append, List.set_cons_zero, List.set_cons_succ, Option.toList_none, Option.toList_some, nI_1]
  refine yI_step (i := 3) (k := 9) (t := 11) (N := 4) (atype := .int) hI (by decide) rfl rfl rfl rfl rfl a_11 (by decide) rfl rfl fX9_19F (fun s3 hI => ?_)
  refine xgo 80 rfl ?_
  try simp only [xlo0, List.map_cons, List.map_nil, List.length_cons, List.length_nil, xrs, xr0, Nat.reduceAdd, Nat.reduceSub, List.cons_append, List.nil_append, List.set_cons_zero, List.set_cons_succ, Option.toList_none, Option.toList_some, nI_1]
  refine yI_step (i := 4) (k := 11) (t := 11) (N := 8) (atype := .int) hI (by decide) rfl rfl rfl rfl rfl a_11 (by decide) rfl rfl fX9_22F (fun s4 hI => ?_)
  refine xgo 80 rfl ?_
  try simp only [xlo0, List.map_cons, List.map_nil, List.length_cons, List.length_nil, xrs, xr0, Nat.reduceAdd, Nat.reduceSub, List.cons_append, List.nil_append, List.set_cons_zero, List.set_cons_succ, Option.toList_none, Option.toList_some, nI_1]
  refine yI_step (i := 5) (k := 12) (t := 11) (N := 8) (atype := .int) hI (by decide) rfl rfl rfl rfl rfl a_11 (by decide) rfl rfl fX9_25F (fun s5 hI => ?_)
  refine xgo 80 rfl ?_
  try simp only [xlo0, List.map_cons, List.map_nil, List.length_cons, List.length_nil, xrs, xr0, Nat.reduceAdd, Nat.reduceSub, List.cons_append, List.nil_append, List.set_cons_zero, List.set_cons_succ, Option.toList_none, Option.toList_some, nI_1]
  refine yI_step (i := 6) (k := 13) (t := 11) (N := 8) (atype := .int) hI (by decide) rfl rfl rfl rfl rfl a_11 (by decide) rfl rfl fX9_28F (fun s6 hI => ?_)
  refine xgo 80 rfl ?_
  try simp only [xlo0, List.map_cons, List.map_nil, List.length_cons, List.length_nil, xrs, xr0, Nat.reduceAdd, Nat.reduceSub, List.cons_append, List.nil_append, List.set_cons_zero, List.set_cons_succ, Option.toList_none, Option.toList_some, nI_1]
  refine yI_step (i := 7) (k := 14) (t := 11) (N := 960) (atype := .int) hI (by decide) rfl rfl rfl rfl rfl a_11 (by decide) rfl rfl fX9_31F (fun s7 hI => ?_)
  refine xgo 80 rfl ?_
  try simp only [xlo0, List.map_cons, List.map_nil, List.length_cons, List.length_nil, xrs, xr0, Nat.reduceAdd, Nat.reduceSub, List.cons_append, List.nil_append, List.set_cons_zero, List.set_cons_succ, Option.toList_none, Option.toList_some, nI_1]
  refine yI_step (i := 8) (k := 15) (t := 11) (N := 2400) (atype := .int) hI (by decide) rfl rfl rfl rfl rfl a_11 (by decide) rfl rfl fX9_34F (fun s8 hI => ?_)
  refine xgo 80 rfl ?_
  try simp only [xlo0, List.map_cons, List.map_nil, List.length_cons, List.length_nil, xrs, xr0, Nat.reduceAdd, Nat.reduceSub, List.cons_append, List.nil_append, List.set_cons_zero, List.set_cons_succ, Option.toList_none, Option.toList_some, nI_1]
  refine yI_step (i := 9) (k := 17) (t := 11) (N := 480) (atype := .int) hI (by decide) rfl rfl rfl rfl rfl a_11 (by decide) rfl rfl fX9_37F (fun s9 hI => ?_)
  refine xgo 80 rfl ?_
  try simp only [xlo0, List.map_cons, List.map_nil, List.length_cons, List.length_nil, xrs, xr0, Nat.reduceAdd, Nat.reduceSub, List.cons_append, List.nil_append, List.set_cons_zero, List.set_cons_succ, Option.toList_none, Option.toList_some, nI_1]
  refine yI_step (i := 10) (k := 20) (t := 11) (N := 11200) (atype := .int) hI (by decide) rfl rfl rfl rfl rfl a_11 (by decide) rfl rfl fX9_40F (fun s10 hI => ?_)
  refine xgo 80 rfl ?_
  try simp only [xlo0, List.map_cons, List.map_nil, List.length_cons, List.length_nil, xrs, xr0, Nat.reduceAdd, Nat.reduceSub, List.cons_append, List.nil_append, List.set_cons_zero, List.set_cons_succ, Option.toList_none, Option.toList_some, nI_1]
  refine yI_step (i := 11) (k := 21) (t := 11) (N := 16) (atype := .int) hI (by decide) rfl rfl rfl rfl rfl a_11 (by decide) rfl rfl fX9_43F (fun s11 hI => ?_)
  refine xgo 80 rfl ?_
  try simp only [xlo0, List.map_cons, List.map_nil, List.length_cons, List.length_nil, xrs, xr0, Nat.reduceAdd, Nat.reduceSub, List.cons_append, List.nil_append, List.set_cons_zero, List.set_cons_succ, Option.toList_none, Option.toList_some, nI_1]
  refine yI_step (i := 12) (k := 29) (t := 11) (N := 108) (atype := .int) hI (by decide) rfl rfl rfl rfl rfl a_11 (by decide) rfl rfl fX9_46F (fun s12 hI => ?_)
  refine xgo 80 rfl ?_
  try simp only [xlo0, List.map_cons, List.map_nil, List.length_cons, List.length_nil, xrs, xr0, Nat.reduceAdd, Nat.reduceSub, List.cons_append, List.nil_append, List.set_cons_zero, List.set_cons_succ, Option.toList_none, Option.toList_some, nI_1]
  refine xgo 80 rfl ?_
  try simp only [xlo0, List.map_cons, List.map_nil, List.length_cons, List.length_nil, xrs, xr0, Nat.reduceAdd, Nat.reduceSub, List.cons_append, List.nil_append, List.set_cons_zero, List.set_cons_succ, Option.toList_none, Option.toList_some, nI_1]
  refine xi_ldc rfl qX9_49 ?_
  refine yI_step (i := 13) (k := 31) (t := 10) (N := 140800) (atype := .byte) hI (by decide) rfl rfl rfl rfl rfl a_10 (by decide) rfl rfl fX9_50F (fun s13 hI => ?_)
  refine xgo 80 rfl ?_
  try simp only [xlo0, List.map_cons, List.map_nil, List.length_cons, List.length_nil, xrs, xr0, Nat.reduceAdd, Nat.reduceSub, List.cons_append, List.nil_append, List.set_cons_zero, List.set_cons_succ, Option.toList_none, Option.toList_some, nI_1]
  refine yI_step (i := 14) (k := 32) (t := 11) (N := 1408) (atype := .int) hI (by decide) rfl rfl rfl rfl rfl a_11 (by decide) rfl rfl fX9_54F (fun s14 hI => ?_)
  refine xgo 80 rfl ?_
  try simp only [xlo0, List.map_cons, List.map_nil, List.length_cons, List.length_nil, xrs, xr0, Nat.reduceAdd, Nat.reduceSub, List.cons_append, List.nil_append, List.set_cons_zero, List.set_cons_succ, Option.toList_none, Option.toList_some, nI_1]
  refine yI_step (i := 15) (k := 33) (t := 11) (N := 16) (atype := .int) hI (by decide) rfl rfl rfl rfl rfl a_11 (by decide) rfl rfl fX9_57F (fun s15 hI => ?_)
  refine xgo 80 rfl ?_
  try simp only [xlo0, List.map_cons, List.map_nil, List.length_cons, List.length_nil, xrs, xr0, Nat.reduceAdd, Nat.reduceSub, List.cons_append, List.nil_append, List.set_cons_zero, List.set_cons_succ, Option.toList_none, Option.toList_some, nI_1]
  refine yI_step (i := 16) (k := 34) (t := 11) (N := 16) (atype := .int) hI (by decide) rfl rfl rfl rfl rfl a_11 (by decide) rfl rfl fX9_60F (fun s16 hI => ?_)
  refine xgo 80 rfl ?_
  try simp only [xlo0, List.map_cons, List.map_nil, List.length_cons, List.length_nil, xrs, xr0, Nat.reduceAdd, Nat.reduceSub, List.cons_append, List.nil_append, List.set_cons_zero, List.set_cons_succ, Option.toList_none, Option.toList_some, nI_1]
  refine yI_step (i := 17) (k := 36) (t := 11) (N := 12) (atype := .int) hI (by decide) rfl rfl rfl rfl rfl a_11 (by decide) rfl rfl fX9_63F (fun s17 hI => ?_)
  refine xgo 80 rfl ?_
  try simp only [xlo0, List.map_cons, List.map_nil, List.length_cons, List.length_nil, xrs, xr0, Nat.reduceAdd, Nat.reduceSub, List.cons_append, List.nil_append, List.set_cons_zero, List.set_cons_succ, Option.toList_none, Option.toList_some, nI_1]
  refine yI_step (i := 18) (k := 37) (t := 11) (N := 12) (atype := .int) hI (by decide) rfl rfl rfl rfl rfl a_11 (by decide) rfl rfl fX9_66F (fun s18 hI => ?_)
  refine xgo 80 rfl ?_
  try simp only [xlo0, List.map_cons, List.map_nil, List.length_cons, List.length_nil, xrs, xr0, Nat.reduceAdd, Nat.reduceSub, List.cons_append, List.nil_append, List.set_cons_zero, List.set_cons_succ, Option.toList_none, Option.toList_some, nI_1]
  refine yI_step (i := 19) (k := 38) (t := 11) (N := 12) (atype := .int) hI (by decide) rfl rfl rfl rfl rfl a_11 (by decide) rfl rfl fX9_69F (fun s19 hI => ?_)
  refine xgo 80 rfl ?_
  try simp only [xlo0, List.map_cons, List.map_nil, List.length_cons, List.length_nil, xrs, xr0, Nat.reduceAdd, Nat.reduceSub, List.cons_append, List.nil_append, List.set_cons_zero, List.set_cons_succ, Option.toList_none, Option.toList_some, nI_1]
  refine yI_step (i := 20) (k := 39) (t := 12) (N := 12) (atype := .boolean) hI (by decide) rfl rfl rfl rfl rfl a_12 (by decide) rfl rfl fX9_72F (fun s20 hI => ?_)
  refine xgo 80 rfl ?_
  try simp only [xlo0, List.map_cons, List.map_nil, List.length_cons, List.length_nil, xrs, xr0, Nat.reduceAdd, Nat.reduceSub, List.cons_append, List.nil_append, List.set_cons_zero, List.set_cons_succ, Option.toList_none, Option.toList_some, nI_1]
  refine yI_step (i := 21) (k := 40) (t := 11) (N := 12) (atype := .int) hI (by decide) rfl rfl rfl rfl rfl a_11 (by decide) rfl rfl fX9_76F (fun s21 hI => ?_)
  refine xgo 80 rfl ?_
  try simp only [xlo0, List.map_cons, List.map_nil, List.length_cons, List.length_nil, xrs, xr0, Nat.reduceAdd, Nat.reduceSub, List.cons_append, List.nil_append, List.set_cons_zero, List.set_cons_succ, Option.toList_none, Option.toList_some, nI_1]
  refine yI_step (i := 22) (k := 41) (t := 11) (N := 48) (atype := .int) hI (by decide) rfl rfl rfl rfl rfl a_11 (by decide) rfl rfl fX9_79F (fun s22 hI => ?_)
  refine xgo 80 rfl ?_
  try simp only [xlo0, List.map_cons, List.map_nil, List.length_cons, List.length_nil, xrs, xr0, Nat.reduceAdd, Nat.reduceSub, List.cons_append, List.nil_append, List.set_cons_zero, List.set_cons_succ, Option.toList_none, Option.toList_some, nI_1]
  refine yI_step (i := 23) (k := 42) (t := 11) (N := 12) (atype := .int) hI (by decide) rfl rfl rfl rfl rfl a_11 (by decide) rfl rfl fX9_82F (fun s23 hI => ?_)
  refine xgo 80 rfl ?_
  try simp only [xlo0, List.map_cons, List.map_nil, List.length_cons, List.length_nil, xrs, xr0, Nat.reduceAdd, Nat.reduceSub, List.cons_append, List.nil_append, List.set_cons_zero, List.set_cons_succ, Option.toList_none, Option.toList_some, nI_1]
  refine yI_step (i := 24) (k := 43) (t := 11) (N := 48) (atype := .int) hI (by decide) rfl rfl rfl rfl rfl a_11 (by decide) rfl rfl fX9_85F (fun s24 hI => ?_)
  refine xgo 80 rfl ?_
  try simp only [xlo0, List.map_cons, List.map_nil, List.length_cons, List.length_nil, xrs, xr0, Nat.reduceAdd, Nat.reduceSub, List.cons_append, List.nil_append, List.set_cons_zero, List.set_cons_succ, Option.toList_none, Option.toList_some, nI_1]
  refine yI_step (i := 25) (k := 44) (t := 11) (N := 12) (atype := .int) hI (by decide) rfl rfl rfl rfl rfl a_11 (by decide) rfl rfl fX9_88F (fun s25 hI => ?_)
  refine xgo 80 rfl ?_
  try simp only [xlo0, List.map_cons, List.map_nil, List.length_cons, List.length_nil, xrs, xr0, Nat.reduceAdd, Nat.reduceSub, List.cons_append, List.nil_append, List.set_cons_zero, List.set_cons_succ, Option.toList_none, Option.toList_some, nI_1]
  refine yI_step (i := 26) (k := 45) (t := 11) (N := 96) (atype := .int) hI (by decide) rfl rfl rfl rfl rfl a_11 (by decide) rfl rfl fX9_91F (fun s26 hI => ?_)
  refine xgo 80 rfl ?_
  try simp only [xlo0, List.map_cons, List.map_nil, List.length_cons, List.length_nil, xrs, xr0, Nat.reduceAdd, Nat.reduceSub, List.cons_append, List.nil_append, List.set_cons_zero, List.set_cons_succ, Option.toList_none, Option.toList_some, nI_1]
  refine yI_step (i := 27) (k := 46) (t := 11) (N := 96) (atype := .int) hI (by decide) rfl rfl rfl rfl rfl a_11 (by decide) rfl rfl fX9_94F (fun s27 hI => ?_)
  refine xgo 80 rfl ?_
  try simp only [xlo0, List.map_cons, List.map_nil, List.length_cons, List.length_nil, xrs, xr0, Nat.reduceAdd, Nat.reduceSub, List.cons_append, List.nil_append, List.set_cons_zero, List.set_cons_succ, Option.toList_none, Option.toList_some, nI_1]
  refine yI_step (i := 28) (k := 47) (t := 11) (N := 11520) (atype := .int) hI (by decide) rfl rfl rfl rfl rfl a_11 (by decide) rfl rfl fX9_97F (fun s28 hI => ?_)
  refine xgo 80 rfl ?_
  try simp only [xlo0, List.map_cons, List.map_nil, List.length_cons, List.length_nil, xrs, xr0, Nat.reduceAdd, Nat.reduceSub, List.cons_append, List.nil_append, List.set_cons_zero, List.set_cons_succ, Option.toList_none, Option.toList_some, nI_1]
  refine yI_step (i := 29) (k := 48) (t := 11) (N := 12) (atype := .int) hI (by decide) rfl rfl rfl rfl rfl a_11 (by decide) rfl rfl fX9_100F (fun s29 hI => ?_)
  refine xgo 80 rfl ?_
  try simp only [xlo0, List.map_cons, List.map_nil, List.length_cons, List.length_nil, xrs, xr0, Nat.reduceAdd, Nat.reduceSub, List.cons_append, List.nil_append, List.set_cons_zero, List.set_cons_succ, Option.toList_none, Option.toList_some, nI_1]
  refine yI_step (i := 30) (k := 49) (t := 11) (N := 48) (atype := .int) hI (by decide) rfl rfl rfl rfl rfl a_11 (by decide) rfl rfl fX9_103F (fun s30 hI => ?_)
  refine xgo 80 rfl ?_
  try simp only [xlo0, List.map_cons, List.map_nil, List.length_cons, List.length_nil, xrs, xr0, Nat.reduceAdd, Nat.reduceSub, List.cons_append, List.nil_append, List.set_cons_zero, List.set_cons_succ, Option.toList_none, Option.toList_some, nI_1]
  refine yI_step (i := 31) (k := 51) (t := 12) (N := 12) (atype := .boolean) hI (by decide) rfl rfl rfl rfl rfl a_12 (by decide) rfl rfl fX9_106F (fun s31 hI => ?_)
  refine xgo 80 rfl ?_
  try simp only [xlo0, List.map_cons, List.map_nil, List.length_cons, List.length_nil, xrs, xr0, Nat.reduceAdd, Nat.reduceSub, List.cons_append, List.nil_append, List.set_cons_zero, List.set_cons_succ, Option.toList_none, Option.toList_some, nI_1]
  refine yI_step (i := 32) (k := 52) (t := 12) (N := 12) (atype := .boolean) hI (by decide) rfl rfl rfl rfl rfl a_12 (by decide) rfl rfl fX9_109F (fun s32 hI => ?_)
  refine xgo 80 rfl ?_
  try simp only [xlo0, List.map_cons, List.map_nil, List.length_cons, List.length_nil, xrs, xr0, Nat.reduceAdd, Nat.reduceSub, List.cons_append, List.nil_append, List.set_cons_zero, List.set_cons_succ, Option.toList_none, Option.toList_some, nI_1]
  refine yI_step (i := 33) (k := 53) (t := 11) (N := 13) (atype := .int) hI (by decide) rfl rfl rfl rfl rfl a_11 (by decide) rfl rfl fX9_112F (fun s33 hI => ?_)
  refine xgo 80 rfl ?_
  try simp only [xlo0, List.map_cons, List.map_nil, List.length_cons, List.length_nil, xrs, xr0, Nat.reduceAdd, Nat.reduceSub, List.cons_append, List.nil_append, List.set_cons_zero, List.set_cons_succ, Option.toList_none, Option.toList_some, nI_1]
  refine yI_step (i := 34) (k := 54) (t := 11) (N := 13) (atype := .int) hI (by decide) rfl rfl rfl rfl rfl a_11 (by decide) rfl rfl fX9_115F (fun s34 hI => ?_)
  refine xgo 80 rfl ?_
  try simp only [xlo0, List.map_cons, List.map_nil, List.length_cons, List.length_nil, xrs, xr0, Nat.reduceAdd, Nat.reduceSub, List.cons_append, List.nil_append, List.set_cons_zero, List.set_cons_succ, Option.toList_none, Option.toList_some, nI_1]
  refine yI_step (i := 35) (k := 55) (t := 11) (N := 12) (atype := .int) hI (by decide) rfl rfl rfl rfl rfl a_11 (by decide) rfl rfl fX9_118F (fun s35 hI => ?_)
  obtain ⟨h1, h2, h3, h4, h5⟩ := hI
  have h36 : ysl (35 + 1) ≤ 180000 := by decide
  refine xgo 80 rfl ?_
  refine xi_ret_v rfl rfl ⟨rfl, ⟨by rw [h1]; rfl, fun k q hq => ?_⟩, h3, by omega, by rw [h5]; omega⟩
  have hm := xlook hq
  have hp := yall _ hm
  have hb := h2 q.1 hp.2.1
  rw [yk_ok _ hm] at hb
  have hy : yNew.2 k = List.replicate q.2.2 0 := by simp only [yNew, hq]
  rw [hy]
  exact ⟨by rw [hb]; simp [vi], List.length_replicate⟩
