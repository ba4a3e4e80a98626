/-! ===== Finding ===== -/
abbrev fS : Type := List Int32 × List Int32
def fnd (G : xG) (h : Nat → Option xC) (f : Nat) (st : fS) : Prop := ∃ ts : List Int32, h f = some (4, [rf G (f + 1), rf G (f + 2), .int (nI st.2.length)]) ∧ h (f + 1) = some (12, vi st.1) ∧ st.1.length = 12 ∧ h (f + 2) = some (11, vi ts) ∧ ts.length = 12 ∧ st.2.length ≤ 12 ∧ ts.take st.2.length = st.2
theorem fnd.obj {G : xG} {h : Nat → Option xC} {f : Nat} {st : fS} (H : fnd G h f st) : h f = some (4, [rf G (f + 1), rf G (f + 2), .int (nI st.2.length)]) := by
  obtain ⟨ts, h1, -⟩ := H
  exact h1
set_option maxRecDepth 100000 in
set_option maxHeartbeats 8000000 in
theorem c_FN_init {G : xG} {d f : Nat} {σ : xS} (h : σ.1 f = some (4, xdef 4)) (hx : σ.2.1 = f + 1) : xm G (d + 1) mX4_init [rf G f] σ (fun v σ' => v = none ∧ fnd G σ'.1 f (List.replicate 12 0, []) ∧ (∀ q, (q < f ∨ f + 3 ≤ q) → σ'.1 q = σ.1 q) ∧ σ'.2.1 = f + 3 ∧ σ'.2.2 = σ.2.2 + 24) := by
  have hxd : xdef 4 = [.null, .null, .int 0] := rfl
  rw [hxd] at h
  refine xm_at 1 rfl (by decide) (Nat.le_of_ble_eq_true rfl) (by simp [Value.category]) tX4_init_ok ?_
  try simp only [xlo0, List.map_cons, List.map_nil, List.length_cons, List.length_nil, xrs, xr0, Nat.reduceAdd, Nat.reduceSub, List.cons_append, List.nil_append, List.set_cons_zero, List.set_cons_succ, Option.toList_none, Option.toList_some, nI_1]
  refine xgo 80 rfl ?_
  try simp only [xlo0, List.map_cons, List.map_nil, List.length_cons, List.length_nil, xrs, xr0, Nat.reduceAdd, Nat.reduceSub, List.cons_append, List.nil_append, List.set_cons_zero, List.set_cons_succ, Option.toList_none, Option.toList_some, nI_1]
  refine xi_obj rfl oX4 (Nat.le_of_ble_eq_true rfl) ?_
  refine xgo 80 rfl ?_
  try simp only [xlo0, List.map_cons, List.map_nil, List.length_cons, List.length_nil, xrs, xr0, Nat.reduceAdd, Nat.reduceSub, List.cons_append, List.nil_append, List.set_cons_zero, List.set_cons_succ, Option.toList_none, Option.toList_some, nI_1]
  refine xna (t := 12) (atype := .boolean) (N := 12) hx rfl rfl (by decide) (by decide) rfl a_12 (by decide) rfl (by decide) (fun s1 n1 f1 g1 k1 => ?_)
  have h := (f1 _ (by omega)).trans h
  refine xgo 80 rfl ?_
  try simp only [xlo0, List.map_cons, List.map_nil, List.length_cons, List.length_nil, xrs, xr0, Nat.reduceAdd, Nat.reduceSub, List.cons_append, List.nil_append, List.set_cons_zero, List.set_cons_succ, Option.toList_none, Option.toList_some, nI_1]
  refine xpF rfl fX4_9F rfl h rfl rfl rfl (fun s2 n2 f2 e2 => ?_)
  have n1 := (f2 _ (by omega)).trans n1
  refine xgo 80 rfl ?_
  try simp only [xlo0, List.map_cons, List.map_nil, List.length_cons, List.length_nil, xrs, xr0, Nat.reduceAdd, Nat.reduceSub, List.cons_append, List.nil_append, List.set_cons_zero, List.set_cons_succ, Option.toList_none, Option.toList_some, nI_1]
  refine xna (t := 11) (atype := .int) (N := 12) ((congrArg Prod.fst e2).trans g1) rfl rfl (by decide) (by decide) rfl a_11 (by decide) rfl (by decide) (fun s3 n3 f3 g3 k3 => ?_)
  have n1 := (f3 _ (by omega)).trans n1
  have n2 := (f3 _ (by omega)).trans n2
  refine xgo 80 rfl ?_
  try simp only [xlo0, List.map_cons, List.map_nil, List.length_cons, List.length_nil, xrs, xr0, Nat.reduceAdd, Nat.reduceSub, List.cons_append, List.nil_append, List.set_cons_zero, List.set_cons_succ, Option.toList_none, Option.toList_some, nI_1]
  refine xpF rfl fX4_15F rfl n2 rfl rfl rfl (fun s4 n4 f4 e4 => ?_)
  have n1 := (f4 _ (by omega)).trans n1
  have n3 := (f4 _ (by omega)).trans n3
  have e21 : s2.2.1 = s1.2.1 := congrArg Prod.fst e2
  have e22 : s2.2.2 = s1.2.2 := congrArg Prod.snd e2
  have e41 : s4.2.1 = s3.2.1 := congrArg Prod.fst e4
  have e42 : s4.2.2 = s3.2.2 := congrArg Prod.snd e4
  refine xgo 80 rfl ?_
  try simp only [xlo0, List.map_cons, List.map_nil, List.length_cons, List.length_nil, xrs, xr0, Nat.reduceAdd, Nat.reduceSub, List.cons_append, List.nil_append, List.set_cons_zero, List.set_cons_succ, Option.toList_none, Option.toList_some, nI_1]
  refine xi_ret_v rfl rfl ⟨rfl, ⟨List.replicate 12 0, n4, n1, rfl, n3, rfl, by simp, by simp⟩, fun q hq => by rw [f4 q (by omega), f3 q (by omega), f2 q (by omega), f1 q (by omega)], by omega, by omega⟩
def tpush (tr : List Int32) (e : Int32) : List Int32 := if tr.length < 12 then tr ++ [e] else tr
def hasR (V : eV) (key : Int32) : Bool := (V.1.2.2.2.findIdx? (fun e => e.1 == key)).isSome
set_option maxRecDepth 100000 in
set_option maxHeartbeats 8000000 in
theorem c_FN_looksInto {G : xG} {d f : Nat} {st : fS} {x : Nat × Nat × eV} {e key : Int32} {σ : xS} (h : fnd G σ.1 f st) (hx : ent G σ.1 x.1 x.2.1 x.2.2) (h1 : f + 3 ≤ x.1 ∨ x.1 + 3 ≤ f) (h2 : f + 3 ≤ x.2.1 ∨ x.2.1 + 17 ≤ f) : xm G (d + 2) mX4_looksInto [rf G f, rf G (x.1 + 1), .int e, .int key] σ (fun v σ' => v = some (.int (bI (hasR x.2.2 key))) ∧ fnd G σ'.1 f (st.1, tpush st.2 e) ∧ frz σ.1 σ'.1 f 3 ∧ σ'.2 = σ.2) := by
  obtain ⟨ts, a1, a2, a3, a4, a5, a6, a7⟩ := h
  have z12 : (12 : Int32).toInt = 12 := rfl
  have hcl : (nI st.2.length).toNatClampNeg = st.2.length := nI_clamp (by omega)
  have hz : ∀ b : Bool, bI b &&& 1 = bI b := by decide
  refine xm_at 4 rfl (by decide) (Nat.le_of_ble_eq_true rfl) (by simp [Value.category]) tX4_looksInto_ok ?_
  try simp only [xlo0, List.map_cons, List.map_nil, List.length_cons, List.length_nil, xrs, xr0, Nat.reduceAdd, Nat.reduceSub, List.cons_append, List.nil_append, List.set_cons_zero, List.set_cons_succ, Option.toList_none, Option.toList_some, nI_1]
  refine xgo 80 rfl ?_
  try simp only [xlo0, List.map_cons, List.map_nil, List.length_cons, List.length_nil, xrs, xr0, Nat.reduceAdd, Nat.reduceSub, List.cons_append, List.nil_append, List.set_cons_zero, List.set_cons_succ, Option.toList_none, Option.toList_some, nI_1]
  refine xg 4 rfl rfl rfl a1 rfl ?_
  refine xgo 80 rfl ?_
  try simp only [xlo0, List.map_cons, List.map_nil, List.length_cons, List.length_nil, xrs, xr0, Nat.reduceAdd, Nat.reduceSub, List.cons_append, List.nil_append, List.set_cons_zero, List.set_cons_succ, Option.toList_none, Option.toList_some, nI_1]
  refine xi_icmpge rfl (fun c1 => ?_) (fun c1 => ?_)
  · rw [i_le, i_n (by omega), z12] at c1
    refine xgo 80 rfl ?_
    try simp only [xlo0, List.map_cons, List.map_nil, List.length_cons, List.length_nil, xrs, xr0, Nat.reduceAdd, Nat.reduceSub, List.cons_append, List.nil_append, List.set_cons_zero, List.set_cons_succ, Option.toList_none, Option.toList_some, nI_1]
    refine xcV 4 rfl rfl rfl (c_EN_hasRowOf hx) rfl kX3_hasRowOf iX3_hasRowOf hx.obj ⟨_, rfl, rfl⟩ rfl rfl (Nat.le_of_ble_eq_true rfl) (fun v1 s1 q1 => ?_)
    obtain ⟨rfl, rfl⟩ := q1
    refine xgo 80 rfl ?_
    try simp only [xlo0, List.map_cons, List.map_nil, List.length_cons, List.length_nil, xrs, xr0, Nat.reduceAdd, Nat.reduceSub, List.cons_append, List.nil_append, List.set_cons_zero, List.set_cons_succ, Option.toList_none, Option.toList_some, nI_1]
    refine xi_ret_i rfl rfl (congrArg Value.int (hz _)) ⟨rfl, ?_, frz.rf, rfl⟩
    rw [tpush, if_neg (by omega)]
    exact ⟨ts, a1, a2, a3, a4, a5, a6, a7⟩
  rw [i_le, i_n (by omega), z12] at c1
  refine xgo 80 rfl ?_
  try simp only [xlo0, List.map_cons, List.map_nil, List.length_cons, List.length_nil, xrs, xr0, Nat.reduceAdd, Nat.reduceSub, List.cons_append, List.nil_append, List.set_cons_zero, List.set_cons_succ, Option.toList_none, Option.toList_some, nI_1]
  refine xg 4 rfl rfl rfl a1 rfl ?_
  refine xgo 80 rfl ?_
  try simp only [xlo0, List.map_cons, List.map_nil, List.length_cons, List.length_nil, xrs, xr0, Nat.reduceAdd, Nat.reduceSub, List.cons_append, List.nil_append, List.set_cons_zero, List.set_cons_succ, Option.toList_none, Option.toList_some, nI_1]
  refine xg 4 rfl rfl rfl a1 rfl ?_
  refine xgo 80 rfl ?_
  try simp only [xlo0, List.map_cons, List.map_nil, List.length_cons, List.length_nil, xrs, xr0, Nat.reduceAdd, Nat.reduceSub, List.cons_append, List.nil_append, List.set_cons_zero, List.set_cons_succ, Option.toList_none, Option.toList_some, nI_1]
  refine xsi rfl a4 (nI_pos (by omega)) (by rw [hcl, vi_len]; omega) (fun s1 n1 f1 e1 => ?_)
  have a1 := (f1 _ (by omega)).trans a1
  have a2 := (f1 _ (by omega)).trans a2
  refine xgo 80 rfl ?_
  try simp only [xlo0, List.map_cons, List.map_nil, List.length_cons, List.length_nil, xrs, xr0, Nat.reduceAdd, Nat.reduceSub, List.cons_append, List.nil_append, List.set_cons_zero, List.set_cons_succ, Option.toList_none, Option.toList_some, nI_1]
  refine xg 4 rfl rfl rfl a1 rfl ?_
  refine xgo 80 rfl ?_
  try simp only [xlo0, List.map_cons, List.map_nil, List.length_cons, List.length_nil, xrs, xr0, Nat.reduceAdd, Nat.reduceSub, List.cons_append, List.nil_append, List.set_cons_zero, List.set_cons_succ, Option.toList_none, Option.toList_some, nI_1]
  refine xp 4 rfl rfl rfl a1 rfl rfl rfl (fun s2 n2 f2 e2 => ?_)
  have a2 := (f2 _ (by omega)).trans a2
  have n1 := (f2 _ (by omega)).trans n1
  have hf : frz σ.1 s2.1 f 3 := (frz.one f1 (by omega) (by omega)).tr (frz.one f2 (by omega) (by omega))
  have hx2 := hx.keep hf (by omega) (by omega)
  refine xgo 80 rfl ?_
  try simp only [xlo0, List.map_cons, List.map_nil, List.length_cons, List.length_nil, xrs, xr0, Nat.reduceAdd, Nat.reduceSub, List.cons_append, List.nil_append, List.set_cons_zero, List.set_cons_succ, Option.toList_none, Option.toList_some, nI_1]
  refine xcV 4 rfl rfl rfl (c_EN_hasRowOf hx2) rfl kX3_hasRowOf iX3_hasRowOf hx2.obj ⟨_, rfl, rfl⟩ rfl rfl (Nat.le_of_ble_eq_true rfl) (fun v3 s3 q3 => ?_)
  obtain ⟨rfl, rfl⟩ := q3
  refine xgo 80 rfl ?_
  try simp only [xlo0, List.map_cons, List.map_nil, List.length_cons, List.length_nil, xrs, xr0, Nat.reduceAdd, Nat.reduceSub, List.cons_append, List.nil_append, List.set_cons_zero, List.set_cons_succ, Option.toList_none, Option.toList_some, nI_1]
  refine xi_ret_i rfl rfl (congrArg Value.int (hz _)) ⟨rfl, ?_, hf, by rw [e2, e1]⟩
  rw [tpush, if_pos (by omega)]
  exact ⟨ts.set st.2.length e, by rw [n2]; simp [nI_1], a2, a3, by rw [n1, hcl, vi_set], by simp [a5], by simp; omega, take_snoc a7 (by omega)⟩
set_option maxRecDepth 100000 in
set_option maxHeartbeats 8000000 in
theorem c_FN_step {G : xG} {d f : Nat} {st : fS} {i : Int32} {σ : xS} (h : fnd G σ.1 f st) : xm G (d + 1) mX4_step [rf G f, .int i] σ (fun v σ' => v = some (.int (bat st.2 i)) ∧ σ' = σ) := by
  obtain ⟨ts, a1, a2, a3, a4, a5, a6, a7⟩ := h
  have hn : (nI st.2.length).toInt = st.2.length := i_n (by omega)
  have z : (0 : Int32).toInt = 0 := rfl
  refine xm_at 2 rfl (by decide) (Nat.le_of_ble_eq_true rfl) (by simp [Value.category]) tX4_step_ok ?_
  try simp only [xlo0, List.map_cons, List.map_nil, List.length_cons, List.length_nil, xrs, xr0, Nat.reduceAdd, Nat.reduceSub, List.cons_append, List.nil_append, List.set_cons_zero, List.set_cons_succ, Option.toList_none, Option.toList_some, nI_1]
  refine xgo 80 rfl ?_
  try simp only [xlo0, List.map_cons, List.map_nil, List.length_cons, List.length_nil, xrs, xr0, Nat.reduceAdd, Nat.reduceSub, List.cons_append, List.nil_append, List.set_cons_zero, List.set_cons_succ, Option.toList_none, Option.toList_some, nI_1]
  refine xg 4 rfl rfl rfl a1 rfl ?_
  refine xgo 80 rfl ?_
  try simp only [xlo0, List.map_cons, List.map_nil, List.length_cons, List.length_nil, xrs, xr0, Nat.reduceAdd, Nat.reduceSub, List.cons_append, List.nil_append, List.set_cons_zero, List.set_cons_succ, Option.toList_none, Option.toList_some, nI_1]
  refine xcS 4 rfl rfl rfl c_isBelow rfl kX8_isBelow iX8_isBelow rfl rfl (Nat.le_of_ble_eq_true rfl) (fun v1 s1 q1 => ?_)
  obtain ⟨rfl, rfl⟩ := q1
  by_cases hin : 0 ≤ i.toInt ∧ i.toInt < (nI st.2.length).toInt
  · rw [if_pos hin]
    refine xgo 80 rfl ?_
    try simp only [xlo0, List.map_cons, List.map_nil, List.length_cons, List.length_nil, xrs, xr0, Nat.reduceAdd, Nat.reduceSub, List.cons_append, List.nil_append, List.set_cons_zero, List.set_cons_succ, Option.toList_none, Option.toList_some, nI_1]
    refine xi_ifeq rfl (fun c1 => ?_) (fun c1 => ?_)
    · exact absurd c1 (by decide)
    have hi : i.toInt.toNat < st.2.length := by omega
    have hg : ts[i.toNatClampNeg]? = some (bat st.2 i) := by
      rw [i_cl, take_get a7 hi, bat, if_neg (by omega), List.getD_eq_getElem?_getD, List.getElem?_eq_getElem hi]
      rfl
    refine xgo 80 rfl ?_
    try simp only [xlo0, List.map_cons, List.map_nil, List.length_cons, List.length_nil, xrs, xr0, Nat.reduceAdd, Nat.reduceSub, List.cons_append, List.nil_append, List.set_cons_zero, List.set_cons_succ, Option.toList_none, Option.toList_some, nI_1]
    refine xg 4 rfl rfl rfl a1 rfl ?_
    refine xgo 80 rfl ?_
    try simp only [xlo0, List.map_cons, List.map_nil, List.length_cons, List.length_nil, xrs, xr0, Nat.reduceAdd, Nat.reduceSub, List.cons_append, List.nil_append, List.set_cons_zero, List.set_cons_succ, Option.toList_none, Option.toList_some, nI_1]
    refine xi_iald rfl a4 (by rw [i_lt]; omega) (vi_get hg) ?_
    refine xgo 80 rfl ?_
    try simp only [xlo0, List.map_cons, List.map_nil, List.length_cons, List.length_nil, xrs, xr0, Nat.reduceAdd, Nat.reduceSub, List.cons_append, List.nil_append, List.set_cons_zero, List.set_cons_succ, Option.toList_none, Option.toList_some, nI_1]
    refine xi_ret_i rfl rfl rfl ⟨rfl, rfl⟩
  · rw [if_neg hin]
    refine xgo 80 rfl ?_
    try simp only [xlo0, List.map_cons, List.map_nil, List.length_cons, List.length_nil, xrs, xr0, Nat.reduceAdd, Nat.reduceSub, List.cons_append, List.nil_append, List.set_cons_zero, List.set_cons_succ, Option.toList_none, Option.toList_some, nI_1]
    refine xi_ifeq rfl (fun c1 => ?_) (fun c1 => ?_)
    · refine xgo 80 rfl ?_
      try simp only [xlo0, List.map_cons, List.map_nil, List.length_cons, List.length_nil, xrs, xr0, Nat.reduceAdd, Nat.reduceSub, List.cons_append, List.nil_append, List.set_cons_zero, List.set_cons_succ, Option.toList_none, Option.toList_some, nI_1]
      refine xi_ret_i rfl rfl rfl ⟨by rw [bat_out (by omega)], rfl⟩
    · exact absurd rfl c1
/-- one after the other is asked, until one answers -/
def askLF (f : Int32 → fS → Int32 × fS) : List Int32 → fS → Int32 × fS
  | [], st => (-1, st)
  | m :: ms, st => if (f m st).1 < 0 then askLF f ms (f m st).2 else f m st
def askS (L : sL) (key : Int32) : Nat → Bool → Int32 → fS → Int32 × fS
  | 0, _, _, st => (-1, st)
  | n + 1, d0, e, st => match sget L e with
    | none => (-1, st)
    | some x => if st.1.getD e.toInt.toNat 0 ≠ 0 then (-1, st) else if d0 = false ∧ x.2.2.2.2.2.1 ≠ 0 then (-1, st) else
      if x.2.2.1.1.2.2.1 = 1 then
        (let r := askLF (askS L key n false) x.2.2.2.1 (st.1.set e.toInt.toNat 1, st.2)
         if r.1 < 0 then (if hasR x.2.2 key then (e, (r.2.1, tpush r.2.2 e)) else (-1, (r.2.1, tpush r.2.2 e))) else r)
      else (if hasR x.2.2 key then (e, (st.1.set e.toInt.toNat 1, tpush st.2 e)) else
        askLF (askS L key n false) x.2.2.2.1 (st.1.set e.toInt.toNat 1, tpush st.2 e))
/-- the finding's cells lie apart from the shelf and its entries -/
def fsep (f s : Nat) (L : sL) : Prop := (f + 3 ≤ s ∨ s + 2 ≤ f) ∧ ∀ (i : Nat) (x : Nat × Nat × eV), L[i]? = some x → (f + 3 ≤ x.1 ∨ x.1 + 3 ≤ f) ∧ (f + 3 ≤ x.2.1 ∨ x.2.1 + 17 ≤ f)
theorem shf.keepF {G : xG} {h h' : Nat → Option xC} {s f : Nat} {L : sL} (H : shf G h s L) (hs : fsep f s L) (g : frz h h' f 3) : shf G h' s L := by
  obtain ⟨h1, h2, ⟨ar, h3, h4⟩, h5⟩ := H
  have := hs.1
  exact ⟨h1, by rw [g _ (by omega)]; exact h2, ⟨ar, by rw [g _ (by omega)]; exact h3, h4⟩, fun i x hx => (h5 i x hx).keep g (by have := (hs.2 i x hx).1; omega) (by have := (hs.2 i x hx).2; omega)⟩
