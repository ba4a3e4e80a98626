theorem wPk.keep4 {G : xG} {h h' : Nat → Option xC} {own own' : Nat → Nat} {P : List pP} (H : wPk G h own P) (e : ∀ q, own q ≠ 0 → own q ≠ 400 → own' q = own q) (f : ∀ q, (q = 18 ∨ (100 ≤ own q ∧ own q < 200)) → h' q = h q) : wPk G h' own' P := by
  obtain ⟨h0, ar, h1, h2, h3⟩ := H
  refine ⟨h0, ar, (f _ (Or.inl rfl)).trans h1, h2, fun i x hx => ?_⟩
  obtain ⟨a1, a2, a3, a4⟩ := h3 i x hx
  have hi : i < P.length := (List.getElem?_eq_some_iff.mp hx).1
  refine ⟨a1, a2.keepQ (fun q b1 b2 => f q ?_), (e _ (by omega) (by omega)).trans a3, (e _ (by omega) (by omega)).trans a4⟩
  rcases (show q = x.1 ∨ q = x.1 + 1 by omega) with rfl | rfl
  · omega
  · omega
theorem wBk.keep4 {G : xG} {h h' : Nat → Option xC} {own own' : Nat → Nat} {B : Nat → bB} (H : wBk G h own B) (e : ∀ q, own q ≠ 0 → own q ≠ 400 → own' q = own q) (f : ∀ q, ((23 ≤ q ∧ q < 56) ∨ 1000 ≤ own q) → h' q = h q) : wBk G h' own' B := by
  obtain ⟨h1, h2⟩ := H
  refine ⟨(f _ (by omega)).trans h1, fun b hb => ?_⟩
  obtain ⟨⟨a1, a2, a3⟩, a4⟩ := h2 b hb
  refine ⟨⟨(f _ (by omega)).trans a1, (f _ (by omega)).trans a2, a3.keep (fun k hk => ?_)⟩, fun i k hk => ?_⟩
  · obtain ⟨i, hi⟩ := List.getElem?_of_mem hk
    have := a4 i k hi
    exact ⟨f _ (by omega), f _ (by omega)⟩
  · have := a4 i k hk
    exact ⟨(e _ (by omega) (by omega)).trans this.1, (e _ (by omega) (by omega)).trans this.2⟩
theorem pw.fsep {G : xG} {σ : xS} {own : Nat → Nat} {rc : Nat} {Z : pZ} (H : pw G σ own rc Z) : fsep 84 82 Z.2.2.2.2.2.1 := by
  obtain ⟨a0, a1, a2, -, a4, a5, -, a7, a8, -, a10⟩ := H
  refine ⟨by omega, fun i x hx => ?_⟩
  obtain ⟨b1, b2, b3⟩ := a8.2 i x hx
  have h1 := a10.2 x.2.1 (by rw [b2 _ (by omega) (by omega)]; omega)
  have h2 := a10.2 (x.2.1 + 16) (by rw [b2 _ (by omega) (by omega)]; omega)
  omega
theorem pw.shsep {G : xG} {σ : xS} {own : Nat → Nat} {rc : Nat} {Z : pZ} (H : pw G σ own rc Z) : shsep 82 σ.2.1 Z.2.2.2.2.2.1 := by
  obtain ⟨a0, a1, a2, -, a4, a5, -, a7, a8, -, a10⟩ := H
  have h0 := a10.1
  refine ⟨by omega, fun i x hx => ?_⟩
  obtain ⟨b1, b2, b3⟩ := a8.2 i x hx
  have h1 := a10.2 x.2.1 (by rw [b2 _ (by omega) (by omega)]; omega)
  have h2 := a10.2 (x.2.1 + 16) (by rw [b2 _ (by omega) (by omega)]; omega)
  have h3 := a10.2 (x.1 + 2) (by rw [b1 _ (by omega) (by omega)]; omega)
  omega
/-- the finding's own cells have changed -/
theorem pw.finding {G : xG} {σ σ' : xS} {own : Nat → Nat} {rc : Nat} {Z : pZ} {st : fS} (H : pw G σ own rc Z) (f : frz σ.1 σ'.1 84 3) (e : σ'.2 = σ.2) (hr : fnd G σ'.1 84 st) : pw G σ' own rc Z ∧ mk σ σ' := by
  obtain ⟨a0, a1, a2, ⟨ds, a3⟩, a4, a5, ⟨bw, sz, mb, ml, a6⟩, a7, a8, -, a10⟩ := H
  have ho := a10.2
  refine ⟨⟨(f 0 (by omega)).trans a0, a1.keepQ (fun q _ _ => f q (by omega)), a2.keep (fun _ _ => rfl) (fun q hq => f q (by have := ho q; omega)), ⟨ds, a3.keepQ (fun q _ _ => f q (by omega))⟩, a4.keepQ (fun q _ _ => f q (by omega)), a5.keep (fun _ _ => rfl) (fun q hq => f q (by have := ho q; omega)), ⟨bw, sz, mb, ml, a6.keepQ (fun q _ _ => f q (by omega))⟩, a7.keep (fun _ _ => rfl) (fun q hq => f q (by have := ho q; omega)), a8.keep (fun _ _ => rfl) (fun q hq => f q (by have := ho q; omega)), ⟨_, hr⟩, by rw [e]; exact a10⟩, fun q h1 h2 => f q (by omega), by rw [e]; omega, by rw [e]; omega, by rw [e]; omega⟩
def zL (Z : pZ) (L : sL) : pZ := (Z.1, Z.2.1, Z.2.2.1, Z.2.2.2.1, Z.2.2.2.2.1, L, Z.2.2.2.2.2.2)
def zW (Z : pZ) (w : Int32) : pZ := (Z.1, Z.2.1, Z.2.2.1, Z.2.2.2.1, Z.2.2.2.2.1, Z.2.2.2.2.2.1, w)
/-- one entry has changed -/
theorem pw.entry1 {G : xG} {σ σ' : xS} {own : Nat → Nat} {rc j : Nat} {Z : pZ} {x : Nat × Nat × eV} {V : eV} (H : pw G σ own rc Z) (hj : Z.2.2.2.2.2.1[j]? = some x) (f : frz σ.1 σ'.1 x.1 3) (e : σ'.2 = σ.2) (hb : ent G σ'.1 x.1 x.2.1 V) : pw G σ' own rc (zL Z (Z.2.2.2.2.2.1.set j (x.1, x.2.1, V))) ∧ mk σ σ' := by
  obtain ⟨a0, a1, a2, ⟨ds, a3⟩, a4, a5, ⟨bw, sz, mb, ml, a6⟩, a7, ⟨a8, a8'⟩, ⟨st, a9⟩, a10⟩ := H
  have hjl := (List.getElem?_eq_some_iff.mp hj).1
  have hl12 := a8.1
  obtain ⟨x1, x2, x3⟩ := a8' j x hj
  have nx : ∀ q, own q ≠ 200 + j → q < x.1 ∨ x.1 + 3 ≤ q := fun q hq => by
    by_cases hc : x.1 ≤ q ∧ q < x.1 + 3
    · exact absurd (x1 q hc.1 hc.2) hq
    · omega
  have sx : ∀ q, q < 124 → σ'.1 q = σ.1 q := fun q hq => f q (by omega)
  refine ⟨⟨(sx 0 (by omega)).trans a0, a1.keepQ (fun q _ _ => sx q (by omega)), a2.keep (fun _ _ => rfl) (fun q hq => ?_), ⟨ds, a3.keepQ (fun q _ _ => sx q (by omega))⟩, a4.keepQ (fun q _ _ => sx q (by omega)), a5.keep (fun _ _ => rfl) (fun q hq => ?_), ⟨bw, sz, mb, ml, a6.keepQ (fun q _ _ => sx q (by omega))⟩, a7.keep (fun _ _ => rfl) (fun q hq => ?_), ⟨?_, fun i y hy => ?_⟩, ⟨st, a9.keepQ (fun q _ _ => sx q (by omega))⟩, by rw [e]; exact a10⟩, fun q h1 h2 => sx q (by omega), by rw [e]; omega, by rw [e]; omega, by rw [e]; omega⟩
  · rcases hq with hq | hq
    · exact sx q (by omega)
    · exact f q (nx q (by omega))
  · rcases hq with hq | hq
    · exact sx q (by omega)
    · exact f q (nx q (by omega))
  · rcases hq with hq | hq
    · exact sx q (by omega)
    · exact f q (nx q (by omega))
  · obtain ⟨b1, b2, ⟨ar, b3, b4, b5⟩, b6⟩ := a8
    refine ⟨by simpa [zL] using b1, by rw [sx 82 (by omega), b2]; simp [zL], ⟨ar, (sx 83 (by omega)).trans b3, b4, fun i y hy => ?_⟩, fun i y hy => ?_⟩
    · have hy' : (Z.2.2.2.2.2.1.set j (x.1, x.2.1, V))[i]? = some y := hy
      by_cases hij : i = j
      · subst hij
        rw [List.getElem?_set_self hjl] at hy'
        cases hy'
        exact b5 i x hj
      · rw [List.getElem?_set_ne (by omega)] at hy'
        exact b5 i y hy'
    · have hy' : (Z.2.2.2.2.2.1.set j (x.1, x.2.1, V))[i]? = some y := hy
      by_cases hij : i = j
      · subst hij
        rw [List.getElem?_set_self hjl] at hy'
        cases hy'
        exact hb
      · rw [List.getElem?_set_ne (by omega)] at hy'
        obtain ⟨y1, y2, y3⟩ := a8' i y hy'
        have hil := (List.getElem?_eq_some_iff.mp hy').1
        refine (b6 i y hy').keepQ (fun q hq => f q (nx q ?_))
        rcases hq with hq | hq
        · rw [y1 q hq.1 hq.2]; omega
        · rw [y2 q hq.1 hq.2]; omega
  · have hy' : (Z.2.2.2.2.2.1.set j (x.1, x.2.1, V))[i]? = some y := hy
    by_cases hij : i = j
    · subst hij
      rw [List.getElem?_set_self hjl] at hy'
      cases hy'
      exact ⟨x1, x2, x3⟩
    · rw [List.getElem?_set_ne (by omega)] at hy'
      exact a8' i y hy'
def F_why (Z : pZ) : Int32 × pZ := (Z.2.2.2.2.2.2, Z)
set_option maxRecDepth 100000 in
set_option maxHeartbeats 2000000 in
theorem c_PP_why {G : xG} {d rc : Nat} {own : Nat → Nat} {Z : pZ} {σ : xS} (h : pw G σ own rc Z) : xm G (d + 20) mX8_why [rf G 0] σ (ppost G σ (F_why Z)) := by
  refine xm_at 1 rfl (by decide) (Nat.le_of_ble_eq_true rfl) (by simp [Value.category]) tX8_why_ok ?_
  try simp only [xlo0, List.map_cons, List.map_nil, List.length_cons, List.length_nil, xrs, xr0, Nat.reduceAdd, Nat.reduceSub, List.cons_append, List.nil_append, List.set_cons_zero, List.set_cons_succ, Option.toList_none, Option.toList_some, nI_1]
  refine xgo 80 rfl ?_
  try simp only [xlo0, List.map_cons, List.map_nil, List.length_cons, List.length_nil, xrs, xr0, Nat.reduceAdd, Nat.reduceSub, List.cons_append, List.nil_append, List.set_cons_zero, List.set_cons_succ, Option.toList_none, Option.toList_some, nI_1]
  refine xg 8 rfl rfl rfl h.obj rfl ?_
  refine xgo 80 rfl ?_
  try simp only [xlo0, List.map_cons, List.map_nil, List.length_cons, List.length_nil, xrs, xr0, Nat.reduceAdd, Nat.reduceSub, List.cons_append, List.nil_append, List.set_cons_zero, List.set_cons_succ, Option.toList_none, Option.toList_some, nI_1]
  refine xi_ret_i rfl rfl rfl (ppost.same h rfl)
def entA (V : eV) (w : Int32) : Int32 := if w = 0 then V.1.1.1 else if w = 1 then V.1.1.2.1 else if w = 2 then V.1.1.2.2.1 else if w = 3 then nI V.1.2.2.2.length else if w = 4 then nI V.1.2.1.length else if w = 5 then nI V.1.2.2.1.length else if w = 6 then (if V.2.2.2.1 = 0 then 0 else 1) else if w = 7 then nI V.2.2.2.2.length else bat V.2.1 (w - 8)
def F_entry (e w : Int32) (Z : pZ) : Int32 × pZ := match sget Z.2.2.2.2.2.1 e with
  | none => (-2, Z)
  | some x => if w.toInt < 0 then (-2, Z) else (entA x.2.2 w, Z)
set_option maxRecDepth 100000 in
set_option maxHeartbeats 2000000 in
theorem c_PP_entry {G : xG} {d rc : Nat} {own : Nat → Nat} {e w : Int32} {Z : pZ} {σ : xS} (h : pw G σ own rc Z) : xm G (d + 20) mX8_entry [rf G 0, .int e, .int w] σ (ppost G σ (F_entry e w Z)) := by
  have hs := h.2.2.2.2.2.2.2.2.1.1
  have z0 : (0 : Int32).toInt = 0 := rfl
  unfold F_entry
  cases he : sget Z.2.2.2.2.2.1 e with
  | none =>
    refine xm_at 4 rfl (by decide) (Nat.le_of_ble_eq_true rfl) (by simp [Value.category]) tX8_entry_ok ?_
    try simp only [xlo0, List.map_cons, List.map_nil, List.length_cons, List.length_nil, xrs, xr0, Nat.reduceAdd, Nat.reduceSub, List.cons_append, List.nil_append, List.set_cons_zero, List.set_cons_succ, Option.toList_none, Option.toList_some, nI_1]
    refine xgo 80 rfl ?_
    try simp only [xlo0, List.map_cons, List.map_nil, List.length_cons, List.length_nil, xrs, xr0, Nat.reduceAdd, Nat.reduceSub, List.cons_append, List.nil_append, List.set_cons_zero, List.set_cons_succ, Option.toList_none, Option.toList_some, nI_1]
    refine xg 8 rfl rfl rfl h.obj rfl ?_
    refine xgo 80 rfl ?_
    try simp only [xlo0, List.map_cons, List.map_nil, List.length_cons, List.length_nil, xrs, xr0, Nat.reduceAdd, Nat.reduceSub, List.cons_append, List.nil_append, List.set_cons_zero, List.set_cons_succ, Option.toList_none, Option.toList_some, nI_1]
    refine xcV 8 rfl rfl rfl (c_SH_atN hs (sget_n he)) rfl kX7_at iX7_at hs.2.1 ⟨_, rfl, rfl⟩ rfl rfl (Nat.le_of_ble_eq_true rfl) (fun v1 s1 q1 => ?_)
    obtain ⟨rfl, rfl⟩ := q1
    refine xgo 80 rfl ?_
    try simp only [xlo0, List.map_cons, List.map_nil, List.length_cons, List.length_nil, xrs, xr0, Nat.reduceAdd, Nat.reduceSub, List.cons_append, List.nil_append, List.set_cons_zero, List.set_cons_succ, Option.toList_none, Option.toList_some, nI_1]
    refine xi_ifnull_n rfl ?_
    refine xgo 80 rfl ?_
    try simp only [xlo0, List.map_cons, List.map_nil, List.length_cons, List.length_nil, xrs, xr0, Nat.reduceAdd, Nat.reduceSub, List.cons_append, List.nil_append, List.set_cons_zero, List.set_cons_succ, Option.toList_none, Option.toList_some, nI_1]
    refine xi_ret_i rfl rfl rfl (ppost.same h rfl)
  | some x =>
    obtain ⟨j, rfl, hj, hj12⟩ := sget_s he hs.1
    have hx := hs.ent hj
    dsimp only
    refine xm_at 4 rfl (by decide) (Nat.le_of_ble_eq_true rfl) (by simp [Value.category]) tX8_entry_ok ?_
    try simp only [xlo0, List.map_cons, List.map_nil, List.length_cons, List.length_nil, xrs, xr0, Nat.reduceAdd, Nat.reduceSub, List.cons_append, List.nil_append, List.set_cons_zero, List.set_cons_succ, Option.toList_none, Option.toList_some, nI_1]
    refine xgo 80 rfl ?_
    try simp only [xlo0, List.map_cons, List.map_nil, List.length_cons, List.length_nil, xrs, xr0, Nat.reduceAdd, Nat.reduceSub, List.cons_append, List.nil_append, List.set_cons_zero, List.set_cons_succ, Option.toList_none, Option.toList_some, nI_1]
    refine xg 8 rfl rfl rfl h.obj rfl ?_
    refine xgo 80 rfl ?_
    try simp only [xlo0, List.map_cons, List.map_nil, List.length_cons, List.length_nil, xrs, xr0, Nat.reduceAdd, Nat.reduceSub, List.cons_append, List.nil_append, List.set_cons_zero, List.set_cons_succ, Option.toList_none, Option.toList_some, nI_1]
    refine xcV 8 rfl rfl rfl (c_SH_at hs hj) rfl kX7_at iX7_at hs.2.1 ⟨_, rfl, rfl⟩ rfl rfl (Nat.le_of_ble_eq_true rfl) (fun v1 s1 q1 => ?_)
    obtain ⟨rfl, rfl⟩ := q1
    refine xgo 80 rfl ?_
    try simp only [xlo0, List.map_cons, List.map_nil, List.length_cons, List.length_nil, xrs, xr0, Nat.reduceAdd, Nat.reduceSub, List.cons_append, List.nil_append, List.set_cons_zero, List.set_cons_succ, Option.toList_none, Option.toList_some, nI_1]
    refine xi_ifnull_r rfl ?_
    refine xgo 80 rfl ?_
    try simp only [xlo0, List.map_cons, List.map_nil, List.length_cons, List.length_nil, xrs, xr0, Nat.reduceAdd, Nat.reduceSub, List.cons_append, List.nil_append, List.set_cons_zero, List.set_cons_succ, Option.toList_none, Option.toList_some, nI_1]
    refine xi_ifge rfl (fun c1 => ?_) (fun c1 => ?_)
    · rw [i_le] at c1
      rw [if_neg (by omega)]
      refine xgo 80 rfl ?_
      try simp only [xlo0, List.map_cons, List.map_nil, List.length_cons, List.length_nil, xrs, xr0, Nat.reduceAdd, Nat.reduceSub, List.cons_append, List.nil_append, List.set_cons_zero, List.set_cons_succ, Option.toList_none, Option.toList_some, nI_1]
      by_cases w0 : w = 0
      · subst w0
        refine xi_tableIn (off := 47) (tgt := 68) dX8_entry_21 (by decide) (by decide) (by decide) (by decide) ?_
        refine xgo 80 rfl ?_
        try simp only [xlo0, List.map_cons, List.map_nil, List.length_cons, List.length_nil, xrs, xr0, Nat.reduceAdd, Nat.reduceSub, List.cons_append, List.nil_append, List.set_cons_zero, List.set_cons_succ, Option.toList_none, Option.toList_some, nI_1]
        refine xg 8 rfl rfl rfl hx.obj rfl ?_
        refine xgo 80 rfl ?_
        try simp only [xlo0, List.map_cons, List.map_nil, List.length_cons, List.length_nil, xrs, xr0, Nat.reduceAdd, Nat.reduceSub, List.cons_append, List.nil_append, List.set_cons_zero, List.set_cons_succ, Option.toList_none, Option.toList_some, nI_1]
        refine xg 8 rfl rfl rfl hx.cont.obj rfl ?_
        refine xgo 80 rfl ?_
        try simp only [xlo0, List.map_cons, List.map_nil, List.length_cons, List.length_nil, xrs, xr0, Nat.reduceAdd, Nat.reduceSub, List.cons_append, List.nil_append, List.set_cons_zero, List.set_cons_succ, Option.toList_none, Option.toList_some, nI_1]
        refine xi_ret_i rfl rfl rfl (ppost.same h rfl)
      by_cases w1 : w = 1
      · subst w1
        refine xi_tableIn (off := 55) (tgt := 76) dX8_entry_21 (by decide) (by decide) (by decide) (by decide) ?_
        refine xgo 80 rfl ?_
        try simp only [xlo0, List.map_cons, List.map_nil, List.length_cons, List.length_nil, xrs, xr0, Nat.reduceAdd, Nat.reduceSub, List.cons_append, List.nil_append, List.set_cons_zero, List.set_cons_succ, Option.toList_none, Option.toList_some, nI_1]
        refine xg 8 rfl rfl rfl hx.obj rfl ?_
        refine xgo 80 rfl ?_
        try simp only [xlo0, List.map_cons, List.map_nil, List.length_cons, List.length_nil, xrs, xr0, Nat.reduceAdd, Nat.reduceSub, List.cons_append, List.nil_append, List.set_cons_zero, List.set_cons_succ, Option.toList_none, Option.toList_some, nI_1]
        refine xg 8 rfl rfl rfl hx.cont.obj rfl ?_
        refine xgo 80 rfl ?_
        try simp only [xlo0, List.map_cons, List.map_nil, List.length_cons, List.length_nil, xrs, xr0, Nat.reduceAdd, Nat.reduceSub, List.cons_append, List.nil_append, List.set_cons_zero, List.set_cons_succ, Option.toList_none, Option.toList_some, nI_1]
        refine xi_ret_i rfl rfl rfl (ppost.same h rfl)
      by_cases w2 : w = 2
      · subst w2
        refine xi_tableIn (off := 63) (tgt := 84) dX8_entry_21 (by decide) (by decide) (by decide) (by decide) ?_
        refine xgo 80 rfl ?_
        try simp only [xlo0, List.map_cons, List.map_nil, List.length_cons, List.length_nil, xrs, xr0, Nat.reduceAdd, Nat.reduceSub, List.cons_append, List.nil_append, List.set_cons_zero, List.set_cons_succ, Option.toList_none, Option.toList_some, nI_1]
        refine xg 8 rfl rfl rfl hx.obj rfl ?_
        refine xgo 80 rfl ?_
        try simp only [xlo0, List.map_cons, List.map_nil, List.length_cons, List.length_nil, xrs, xr0, Nat.reduceAdd, Nat.reduceSub, List.cons_append, List.nil_append, List.set_cons_zero, List.set_cons_succ, Option.toList_none, Option.toList_some, nI_1]
        refine xg 8 rfl rfl rfl hx.cont.obj rfl ?_
        refine xgo 80 rfl ?_
        try simp only [xlo0, List.map_cons, List.map_nil, List.length_cons, List.length_nil, xrs, xr0, Nat.reduceAdd, Nat.reduceSub, List.cons_append, List.nil_append, List.set_cons_zero, List.set_cons_succ, Option.toList_none, Option.toList_some, nI_1]
        refine xi_ret_i rfl rfl rfl (ppost.same h rfl)
      by_cases w3 : w = 3
      · subst w3
        refine xi_tableIn (off := 71) (tgt := 92) dX8_entry_21 (by decide) (by decide) (by decide) (by decide) ?_
        refine xgo 80 rfl ?_
        try simp only [xlo0, List.map_cons, List.map_nil, List.length_cons, List.length_nil, xrs, xr0, Nat.reduceAdd, Nat.reduceSub, List.cons_append, List.nil_append, List.set_cons_zero, List.set_cons_succ, Option.toList_none, Option.toList_some, nI_1]
        refine xg 8 rfl rfl rfl hx.obj rfl ?_
        refine xgo 80 rfl ?_
        try simp only [xlo0, List.map_cons, List.map_nil, List.length_cons, List.length_nil, xrs, xr0, Nat.reduceAdd, Nat.reduceSub, List.cons_append, List.nil_append, List.set_cons_zero, List.set_cons_succ, Option.toList_none, Option.toList_some, nI_1]
        refine xg 8 rfl rfl rfl hx.cont.obj rfl ?_
        refine xgo 80 rfl ?_
        try simp only [xlo0, List.map_cons, List.map_nil, List.length_cons, List.length_nil, xrs, xr0, Nat.reduceAdd, Nat.reduceSub, List.cons_append, List.nil_append, List.set_cons_zero, List.set_cons_succ, Option.toList_none, Option.toList_some, nI_1]
        refine xi_ret_i rfl rfl rfl (ppost.same h rfl)
      by_cases w4 : w = 4
      · subst w4
        refine xi_tableIn (off := 79) (tgt := 100) dX8_entry_21 (by decide) (by decide) (by decide) (by decide) ?_
        refine xgo 80 rfl ?_
        try simp only [xlo0, List.map_cons, List.map_nil, List.length_cons, List.length_nil, xrs, xr0, Nat.reduceAdd, Nat.reduceSub, List.cons_append, List.nil_append, List.set_cons_zero, List.set_cons_succ, Option.toList_none, Option.toList_some, nI_1]
        refine xg 8 rfl rfl rfl hx.obj rfl ?_
        refine xgo 80 rfl ?_
        try simp only [xlo0, List.map_cons, List.map_nil, List.length_cons, List.length_nil, xrs, xr0, Nat.reduceAdd, Nat.reduceSub, List.cons_append, List.nil_append, List.set_cons_zero, List.set_cons_succ, Option.toList_none, Option.toList_some, nI_1]
        refine xg 8 rfl rfl rfl hx.cont.obj rfl ?_
        refine xgo 80 rfl ?_
        try simp only [xlo0, List.map_cons, List.map_nil, List.length_cons, List.length_nil, xrs, xr0, Nat.reduceAdd, Nat.reduceSub, List.cons_append, List.nil_append, List.set_cons_zero, List.set_cons_succ, Option.toList_none, Option.toList_some, nI_1]
        refine xi_ret_i rfl rfl rfl (ppost.same h rfl)
      by_cases w5 : w = 5
      · subst w5
        refine xi_tableIn (off := 87) (tgt := 108) dX8_entry_21 (by decide) (by decide) (by decide) (by decide) ?_
        refine xgo 80 rfl ?_
        try simp only [xlo0, List.map_cons, List.map_nil, List.length_cons, List.length_nil, xrs, xr0, Nat.reduceAdd, Nat.reduceSub, List.cons_append, List.nil_append, List.set_cons_zero, List.set_cons_succ, Option.toList_none, Option.toList_some, nI_1]
        refine xg 8 rfl rfl rfl hx.obj rfl ?_
        refine xgo 80 rfl ?_
        try simp only [xlo0, List.map_cons, List.map_nil, List.length_cons, List.length_nil, xrs, xr0, Nat.reduceAdd, Nat.reduceSub, List.cons_append, List.nil_append, List.set_cons_zero, List.set_cons_succ, Option.toList_none, Option.toList_some, nI_1]
        refine xg 8 rfl rfl rfl hx.cont.obj rfl ?_
        refine xgo 80 rfl ?_
        try simp only [xlo0, List.map_cons, List.map_nil, List.length_cons, List.length_nil, xrs, xr0, Nat.reduceAdd, Nat.reduceSub, List.cons_append, List.nil_append, List.set_cons_zero, List.set_cons_succ, Option.toList_none, Option.toList_some, nI_1]
        refine xi_ret_i rfl rfl rfl (ppost.same h rfl)
      by_cases w6 : w = 6
      · subst w6
        have hE : entA x.2.2 6 = if x.2.2.2.2.2.1 = 0 then 0 else 1 := rfl
        rw [hE]
        refine xi_tableIn (off := 95) (tgt := 116) dX8_entry_21 (by decide) (by decide) (by decide) (by decide) ?_
        refine xgo 80 rfl ?_
        try simp only [xlo0, List.map_cons, List.map_nil, List.length_cons, List.length_nil, xrs, xr0, Nat.reduceAdd, Nat.reduceSub, List.cons_append, List.nil_append, List.set_cons_zero, List.set_cons_succ, Option.toList_none, Option.toList_some, nI_1]
        refine xg 8 rfl rfl rfl hx.obj rfl ?_
        refine xgo 80 rfl ?_
        try simp only [xlo0, List.map_cons, List.map_nil, List.length_cons, List.length_nil, xrs, xr0, Nat.reduceAdd, Nat.reduceSub, List.cons_append, List.nil_append, List.set_cons_zero, List.set_cons_succ, Option.toList_none, Option.toList_some, nI_1]
        refine xi_ifeq rfl (fun c2 => ?_) (fun c2 => ?_)
        · rw [if_pos c2]
          refine xgo 80 rfl ?_
          try simp only [xlo0, List.map_cons, List.map_nil, List.length_cons, List.length_nil, xrs, xr0, Nat.reduceAdd, Nat.reduceSub, List.cons_append, List.nil_append, List.set_cons_zero, List.set_cons_succ, Option.toList_none, Option.toList_some, nI_1]
          refine xi_ret_i rfl rfl rfl (ppost.same h rfl)
        · rw [if_neg c2]
          refine xgo 80 rfl ?_
          try simp only [xlo0, List.map_cons, List.map_nil, List.length_cons, List.length_nil, xrs, xr0, Nat.reduceAdd, Nat.reduceSub, List.cons_append, List.nil_append, List.set_cons_zero, List.set_cons_succ, Option.toList_none, Option.toList_some, nI_1]
          refine xi_ret_i rfl rfl rfl (ppost.same h rfl)
      by_cases w7 : w = 7
      · subst w7
        refine xi_tableIn (off := 108) (tgt := 129) dX8_entry_21 (by decide) (by decide) (by decide) (by decide) ?_
        refine xgo 80 rfl ?_
        try simp only [xlo0, List.map_cons, List.map_nil, List.length_cons, List.length_nil, xrs, xr0, Nat.reduceAdd, Nat.reduceSub, List.cons_append, List.nil_append, List.set_cons_zero, List.set_cons_succ, Option.toList_none, Option.toList_some, nI_1]
        refine xg 8 rfl rfl rfl hx.obj rfl ?_
        refine xgo 80 rfl ?_
        try simp only [xlo0, List.map_cons, List.map_nil, List.length_cons, List.length_nil, xrs, xr0, Nat.reduceAdd, Nat.reduceSub, List.cons_append, List.nil_append, List.set_cons_zero, List.set_cons_succ, Option.toList_none, Option.toList_some, nI_1]
        refine xi_ret_i rfl rfl rfl (ppost.same h rfl)
      have hw : 7 < w.toInt := by
        rw [i_eq] at w0 w1 w2 w3 w4 w5 w6 w7
        have : (1 : Int32).toInt = 1 := rfl
        have : (2 : Int32).toInt = 2 := rfl
        have : (3 : Int32).toInt = 3 := rfl
        have : (4 : Int32).toInt = 4 := rfl
        have : (5 : Int32).toInt = 5 := rfl
        have : (6 : Int32).toInt = 6 := rfl
        have : (7 : Int32).toInt = 7 := rfl
        omega
      have hE : entA x.2.2 w = bat x.2.2.2.1 (w - 8) := by
        unfold entA
        rw [if_neg w0, if_neg w1, if_neg w2, if_neg w3, if_neg w4, if_neg w5, if_neg w6, if_neg w7]
      rw [hE]
      refine xi_tableOut (tgt := 134) dX8_entry_21 (Or.inr hw) (by decide) ?_
      refine xgo 80 rfl ?_
      try simp only [xlo0, List.map_cons, List.map_nil, List.length_cons, List.length_nil, xrs, xr0, Nat.reduceAdd, Nat.reduceSub, List.cons_append, List.nil_append, List.set_cons_zero, List.set_cons_succ, Option.toList_none, Option.toList_some, nI_1]
      refine xcV 8 rfl rfl rfl (c_EN_meeting hx) rfl kX3_meeting iX3_meeting hx.obj ⟨_, rfl, rfl⟩ rfl rfl (Nat.le_of_ble_eq_true rfl) (fun v2 s2 q2 => ?_)
      obtain ⟨rfl, rfl⟩ := q2
      refine xgo 80 rfl ?_
      try simp only [xlo0, List.map_cons, List.map_nil, List.length_cons, List.length_nil, xrs, xr0, Nat.reduceAdd, Nat.reduceSub, List.cons_append, List.nil_append, List.set_cons_zero, List.set_cons_succ, Option.toList_none, Option.toList_some, nI_1]
      refine xi_ret_i rfl rfl rfl (ppost.same h rfl)
    · rw [i_le] at c1
      rw [if_pos (by omega)]
      refine xgo 80 rfl ?_
      try simp only [xlo0, List.map_cons, List.map_nil, List.length_cons, List.length_nil, xrs, xr0, Nat.reduceAdd, Nat.reduceSub, List.cons_append, List.nil_append, List.set_cons_zero, List.set_cons_succ, Option.toList_none, Option.toList_some, nI_1]
      refine xi_ret_i rfl rfl rfl (ppost.same h rfl)
theorem ent.close {G : xG} {h h' : Nat → Option xC} {k c : Nat} {V : eV} {z : Int32} (H : ent G h k c V) (hck : c + 17 ≤ k ∨ k + 3 ≤ c) (f : ∀ q, q ≠ k + 1 → h' q = h q) (h0 : h' (k + 1) = some (3, [rf G c, rf G k, .int V.2.2.1, .int z, rf G (k + 2), .int (nI V.2.2.2.2.length)])) : ent G h' k c (V.1, V.2.1, V.2.2.1, z, V.2.2.2.2) := by
  obtain ⟨mb, ovs, h1, h2, h3, h4, h5⟩ := H
  exact ⟨mb, ovs, (f _ (by omega)).trans h1, h0, (f _ (by omega)).trans h3, h4.keepQ (fun q _ _ => f q (by omega)), h5⟩
theorem pw.ck {G : xG} {σ : xS} {own : Nat → Nat} {rc j : Nat} {Z : pZ} {x : Nat × Nat × eV} (H : pw G σ own rc Z) (hj : Z.2.2.2.2.2.1[j]? = some x) : x.2.1 + 17 ≤ x.1 ∨ x.1 + 3 ≤ x.2.1 := by
  obtain ⟨b1, b2, b3⟩ := H.2.2.2.2.2.2.2.2.1.2 j x hj
  have hl := H.2.2.2.2.2.2.2.2.1.1.1
  have hjl := (List.getElem?_eq_some_iff.mp hj).1
  by_cases hc : x.2.1 + 17 ≤ x.1 ∨ x.1 + 3 ≤ x.2.1
  · exact hc
  · exfalso
    by_cases c1 : x.1 ≤ x.2.1
    · have e1 := b1 x.2.1 (by omega) (by omega)
      have e2 := b2 x.2.1 (by omega) (by omega)
      omega
    · have e1 := b1 x.1 (by omega) (by omega)
      have e2 := b2 x.1 (by omega) (by omega)
      omega
def F_closed (e c : Int32) (Z : pZ) : Int32 × pZ := match sget Z.2.2.2.2.2.1 e with
  | none => (-1, Z)
  | some x => if x.2.2.2.2.2.1 = c then (-2, Z) else (1, zL Z (Z.2.2.2.2.2.1.set e.toInt.toNat (x.1, x.2.1, (x.2.2.1, x.2.2.2.1, x.2.2.2.2.1, c, x.2.2.2.2.2.2))))
set_option maxRecDepth 100000 in
set_option maxHeartbeats 2000000 in
theorem c_PP_setClosed {G : xG} {d rc : Nat} {own : Nat → Nat} {e c : Int32} {Z : pZ} {σ : xS} (h : pw G σ own rc Z) (hc : c = 0 ∨ c = 1) : xm G (d + 1) mX8_setClosed [rf G 0, .int e, .int c] σ (ppost G σ (F_closed e c Z)) := by
  have hs := h.2.2.2.2.2.2.2.2.1.1
  unfold F_closed
  cases he : sget Z.2.2.2.2.2.1 e with
  | none =>
    refine xm_at 4 rfl (by decide) (Nat.le_of_ble_eq_true rfl) (by simp [Value.category]) tX8_setClosed_ok ?_
    try simp only [xlo0, List.map_cons, List.map_nil, List.length_cons, List.length_nil, xrs, xr0, Nat.reduceAdd, Nat.reduceSub, List.cons_append, List.nil_append, List.set_cons_zero, List.set_cons_succ, Option.toList_none, Option.toList_some, nI_1]
    refine xgo 80 rfl ?_
    try simp only [xlo0, List.map_cons, List.map_nil, List.length_cons, List.length_nil, xrs, xr0, Nat.reduceAdd, Nat.reduceSub, List.cons_append, List.nil_append, List.set_cons_zero, List.set_cons_succ, Option.toList_none, Option.toList_some, nI_1]
    refine xg 8 rfl rfl rfl h.obj rfl ?_
    refine xgo 80 rfl ?_
    try simp only [xlo0, List.map_cons, List.map_nil, List.length_cons, List.length_nil, xrs, xr0, Nat.reduceAdd, Nat.reduceSub, List.cons_append, List.nil_append, List.set_cons_zero, List.set_cons_succ, Option.toList_none, Option.toList_some, nI_1]
    refine xcV 8 rfl rfl rfl (c_SH_atN hs (sget_n he)) rfl kX7_at iX7_at hs.2.1 ⟨_, rfl, rfl⟩ rfl rfl (Nat.le_of_ble_eq_true rfl) (fun v1 s1 q1 => ?_)
    obtain ⟨rfl, rfl⟩ := q1
    refine xgo 80 rfl ?_
    try simp only [xlo0, List.map_cons, List.map_nil, List.length_cons, List.length_nil, xrs, xr0, Nat.reduceAdd, Nat.reduceSub, List.cons_append, List.nil_append, List.set_cons_zero, List.set_cons_succ, Option.toList_none, Option.toList_some, nI_1]
    refine xi_ifnonnull_n rfl ?_
    refine xgo 80 rfl ?_
    try simp only [xlo0, List.map_cons, List.map_nil, List.length_cons, List.length_nil, xrs, xr0, Nat.reduceAdd, Nat.reduceSub, List.cons_append, List.nil_append, List.set_cons_zero, List.set_cons_succ, Option.toList_none, Option.toList_some, nI_1]
    refine xi_ret_i rfl rfl rfl (ppost.same h rfl)
  | some x =>
    obtain ⟨j, rfl, hj, hj12⟩ := sget_s he hs.1
    have hjj : (nI j).toInt.toNat = j := by rw [i_n (by omega)]; rfl
    have hx := hs.ent hj
    dsimp only
    rw [hjj]
    refine xm_at 4 rfl (by decide) (Nat.le_of_ble_eq_true rfl) (by simp [Value.category]) tX8_setClosed_ok ?_
    try simp only [xlo0, List.map_cons, List.map_nil, List.length_cons, List.length_nil, xrs, xr0, Nat.reduceAdd, Nat.reduceSub, List.cons_append, List.nil_append, List.set_cons_zero, List.set_cons_succ, Option.toList_none, Option.toList_some, nI_1]
    refine xgo 80 rfl ?_
    try simp only [xlo0, List.map_cons, List.map_nil, List.length_cons, List.length_nil, xrs, xr0, Nat.reduceAdd, Nat.reduceSub, List.cons_append, List.nil_append, List.set_cons_zero, List.set_cons_succ, Option.toList_none, Option.toList_some, nI_1]
    refine xg 8 rfl rfl rfl h.obj rfl ?_
    refine xgo 80 rfl ?_
    try simp only [xlo0, List.map_cons, List.map_nil, List.length_cons, List.length_nil, xrs, xr0, Nat.reduceAdd, Nat.reduceSub, List.cons_append, List.nil_append, List.set_cons_zero, List.set_cons_succ, Option.toList_none, Option.toList_some, nI_1]
    refine xcV 8 rfl rfl rfl (c_SH_at hs hj) rfl kX7_at iX7_at hs.2.1 ⟨_, rfl, rfl⟩ rfl rfl (Nat.le_of_ble_eq_true rfl) (fun v1 s1 q1 => ?_)
    obtain ⟨rfl, rfl⟩ := q1
    refine xgo 80 rfl ?_
    try simp only [xlo0, List.map_cons, List.map_nil, List.length_cons, List.length_nil, xrs, xr0, Nat.reduceAdd, Nat.reduceSub, List.cons_append, List.nil_append, List.set_cons_zero, List.set_cons_succ, Option.toList_none, Option.toList_some, nI_1]
    refine xi_ifnonnull_r rfl ?_
    refine xgo 80 rfl ?_
    try simp only [xlo0, List.map_cons, List.map_nil, List.length_cons, List.length_nil, xrs, xr0, Nat.reduceAdd, Nat.reduceSub, List.cons_append, List.nil_append, List.set_cons_zero, List.set_cons_succ, Option.toList_none, Option.toList_some, nI_1]
    refine xg 8 rfl rfl rfl hx.obj rfl ?_
    refine xgo 80 rfl ?_
    try simp only [xlo0, List.map_cons, List.map_nil, List.length_cons, List.length_nil, xrs, xr0, Nat.reduceAdd, Nat.reduceSub, List.cons_append, List.nil_append, List.set_cons_zero, List.set_cons_succ, Option.toList_none, Option.toList_some, nI_1]
    refine xi_icmpne rfl (fun c1 => ?_) (fun c1 => ?_)
    · rw [if_neg c1]
      refine xgo 80 rfl ?_
      try simp only [xlo0, List.map_cons, List.map_nil, List.length_cons, List.length_nil, xrs, xr0, Nat.reduceAdd, Nat.reduceSub, List.cons_append, List.nil_append, List.set_cons_zero, List.set_cons_succ, Option.toList_none, Option.toList_some, nI_1]
      refine xp 8 rfl rfl rfl hx.obj rfl (by rcases hc with e | e <;> subst e <;> decide) (by rcases hc with e | e <;> subst e <;> decide) (fun s2 n2 f2 e2 => ?_)
      have hp := h.entry1 hj (frz.one f2 (by omega) (by omega)) e2 (hx.close (h.ck hj) f2 n2)
      refine xgo 80 rfl ?_
      try simp only [xlo0, List.map_cons, List.map_nil, List.length_cons, List.length_nil, xrs, xr0, Nat.reduceAdd, Nat.reduceSub, List.cons_append, List.nil_append, List.set_cons_zero, List.set_cons_succ, Option.toList_none, Option.toList_some, nI_1]
      refine xi_ret_i rfl rfl rfl ⟨rfl, ⟨own, rc, hp.1⟩, hp.2⟩
    · rw [if_pos c1]
      refine xgo 80 rfl ?_
      try simp only [xlo0, List.map_cons, List.map_nil, List.length_cons, List.length_nil, xrs, xr0, Nat.reduceAdd, Nat.reduceSub, List.cons_append, List.nil_append, List.set_cons_zero, List.set_cons_succ, Option.toList_none, Option.toList_some, nI_1]
      refine xi_ret_i rfl rfl rfl (ppost.same h rfl)
set_option maxRecDepth 100000 in
set_option maxHeartbeats 2000000 in
theorem c_PP_close {G : xG} {d rc : Nat} {own : Nat → Nat} {e : Int32} {Z : pZ} {σ : xS} (h : pw G σ own rc Z) : xm G (d + 20) mX8_close [rf G 0, .int e] σ (ppost G σ (F_closed e 1 Z)) := by
  refine xm_at 2 rfl (by decide) (Nat.le_of_ble_eq_true rfl) (by simp [Value.category]) tX8_close_ok ?_
  try simp only [xlo0, List.map_cons, List.map_nil, List.length_cons, List.length_nil, xrs, xr0, Nat.reduceAdd, Nat.reduceSub, List.cons_append, List.nil_append, List.set_cons_zero, List.set_cons_succ, Option.toList_none, Option.toList_some, nI_1]
  refine xgo 80 rfl ?_
  try simp only [xlo0, List.map_cons, List.map_nil, List.length_cons, List.length_nil, xrs, xr0, Nat.reduceAdd, Nat.reduceSub, List.cons_append, List.nil_append, List.set_cons_zero, List.set_cons_succ, Option.toList_none, Option.toList_some, nI_1]
  refine xcV 8 rfl rfl rfl (c_PP_setClosed h (Or.inr rfl)) rfl kX8_setClosed iX8_setClosed h.obj ⟨_, rfl, rfl⟩ rfl rfl (Nat.le_of_ble_eq_true rfl) (fun v1 s1 q1 => ?_)
  obtain ⟨rfl, q2, q3⟩ := q1
  refine xgo 80 rfl ?_
  try simp only [xlo0, List.map_cons, List.map_nil, List.length_cons, List.length_nil, xrs, xr0, Nat.reduceAdd, Nat.reduceSub, List.cons_append, List.nil_append, List.set_cons_zero, List.set_cons_succ, Option.toList_none, Option.toList_some, nI_1]
  refine xi_ret_i rfl rfl rfl ⟨rfl, q2, q3⟩
set_option maxRecDepth 100000 in
set_option maxHeartbeats 2000000 in
theorem c_PP_reopen {G : xG} {d rc : Nat} {own : Nat → Nat} {e : Int32} {Z : pZ} {σ : xS} (h : pw G σ own rc Z) : xm G (d + 20) mX8_reopen [rf G 0, .int e] σ (ppost G σ (F_closed e 0 Z)) := by
  refine xm_at 2 rfl (by decide) (Nat.le_of_ble_eq_true rfl) (by simp [Value.category]) tX8_reopen_ok ?_
  try simp only [xlo0, List.map_cons, List.map_nil, List.length_cons, List.length_nil, xrs, xr0, Nat.reduceAdd, Nat.reduceSub, List.cons_append, List.nil_append, List.set_cons_zero, List.set_cons_succ, Option.toList_none, Option.toList_some, nI_1]
  refine xgo 80 rfl ?_
  try simp only [xlo0, List.map_cons, List.map_nil, List.length_cons, List.length_nil, xrs, xr0, Nat.reduceAdd, Nat.reduceSub, List.cons_append, List.nil_append, List.set_cons_zero, List.set_cons_succ, Option.toList_none, Option.toList_some, nI_1]
  refine xcV 8 rfl rfl rfl (c_PP_setClosed h (Or.inl rfl)) rfl kX8_setClosed iX8_setClosed h.obj ⟨_, rfl, rfl⟩ rfl rfl (Nat.le_of_ble_eq_true rfl) (fun v1 s1 q1 => ?_)
  obtain ⟨rfl, q2, q3⟩ := q1
  refine xgo 80 rfl ?_
  try simp only [xlo0, List.map_cons, List.map_nil, List.length_cons, List.length_nil, xrs, xr0, Nat.reduceAdd, Nat.reduceSub, List.cons_append, List.nil_append, List.set_cons_zero, List.set_cons_succ, Option.toList_none, Option.toList_some, nI_1]
  refine xi_ret_i rfl rfl rfl ⟨rfl, q2, q3⟩
def F_overlay (e o : Int32) (Z : pZ) : Int32 × pZ := match sget Z.2.2.2.2.2.1 e with
  | none => (-1, Z)
  | some x => if (sget Z.2.2.2.2.2.1 o).isNone then (-1, Z) else if o = e ∨ x.2.2.2.2.2.2.any (fun y => y == o) = true then (-4, Z) else if 4 ≤ x.2.2.2.2.2.2.length then (-3, Z) else (nI (x.2.2.2.2.2.2.length + 1), zL Z (Z.2.2.2.2.2.1.set e.toInt.toNat (x.1, x.2.1, (x.2.2.1, x.2.2.2.1, x.2.2.2.2.1, x.2.2.2.2.2.1, x.2.2.2.2.2.2 ++ [o]))))
set_option maxRecDepth 100000 in
set_option maxHeartbeats 2000000 in
theorem c_PP_overlay {G : xG} {d rc : Nat} {own : Nat → Nat} {e o : Int32} {Z : pZ} {σ : xS} (h : pw G σ own rc Z) : xm G (d + 20) mX8_overlay [rf G 0, .int e, .int o] σ (ppost G σ (F_overlay e o Z)) := by
  have hs := h.2.2.2.2.2.2.2.2.1.1
  unfold F_overlay
  cases he : sget Z.2.2.2.2.2.1 e with
  | none =>
    refine xm_at 4 rfl (by decide) (Nat.le_of_ble_eq_true rfl) (by simp [Value.category]) tX8_overlay_ok ?_
    try simp only [xlo0, List.map_cons, List.map_nil, List.length_cons, List.length_nil, xrs, xr0, Nat.reduceAdd, Nat.reduceSub, List.cons_append, List.nil_append, List.set_cons_zero, List.set_cons_succ, Option.toList_none, Option.toList_some, nI_1]
    refine xgo 80 rfl ?_
    try simp only [xlo0, List.map_cons, List.map_nil, List.length_cons, List.length_nil, xrs, xr0, Nat.reduceAdd, Nat.reduceSub, List.cons_append, List.nil_append, List.set_cons_zero, List.set_cons_succ, Option.toList_none, Option.toList_some, nI_1]
    refine xg 8 rfl rfl rfl h.obj rfl ?_
    refine xgo 80 rfl ?_
    try simp only [xlo0, List.map_cons, List.map_nil, List.length_cons, List.length_nil, xrs, xr0, Nat.reduceAdd, Nat.reduceSub, List.cons_append, List.nil_append, List.set_cons_zero, List.set_cons_succ, Option.toList_none, Option.toList_some, nI_1]
    refine xcV 8 rfl rfl rfl (c_SH_atN hs (sget_n he)) rfl kX7_at iX7_at hs.2.1 ⟨_, rfl, rfl⟩ rfl rfl (Nat.le_of_ble_eq_true rfl) (fun v1 s1 q1 => ?_)
    obtain ⟨rfl, rfl⟩ := q1
    refine xgo 80 rfl ?_
    try simp only [xlo0, List.map_cons, List.map_nil, List.length_cons, List.length_nil, xrs, xr0, Nat.reduceAdd, Nat.reduceSub, List.cons_append, List.nil_append, List.set_cons_zero, List.set_cons_succ, Option.toList_none, Option.toList_some, nI_1]
    refine xi_ifnull_n rfl ?_
    refine xgo 80 rfl ?_
    try simp only [xlo0, List.map_cons, List.map_nil, List.length_cons, List.length_nil, xrs, xr0, Nat.reduceAdd, Nat.reduceSub, List.cons_append, List.nil_append, List.set_cons_zero, List.set_cons_succ, Option.toList_none, Option.toList_some, nI_1]
    refine xi_ret_i rfl rfl rfl (ppost.same h rfl)
  | some x =>
    obtain ⟨j, rfl, hj, hj12⟩ := sget_s he hs.1
    have hjj : (nI j).toInt.toNat = j := by rw [i_n (by omega)]; rfl
    have hx := hs.ent hj
    have hx4 : x.2.2.2.2.2.2.length ≤ 4 := by
      obtain ⟨mb, ovs, -, -, -, -, -, -, -, -, h9, -⟩ := hx
      exact h9
    have z4 : (4 : Int32).toInt = 4 := rfl
    dsimp only
    rw [hjj]
    refine xm_at 4 rfl (by decide) (Nat.le_of_ble_eq_true rfl) (by simp [Value.category]) tX8_overlay_ok ?_
    try simp only [xlo0, List.map_cons, List.map_nil, List.length_cons, List.length_nil, xrs, xr0, Nat.reduceAdd, Nat.reduceSub, List.cons_append, List.nil_append, List.set_cons_zero, List.set_cons_succ, Option.toList_none, Option.toList_some, nI_1]
    refine xgo 80 rfl ?_
    try simp only [xlo0, List.map_cons, List.map_nil, List.length_cons, List.length_nil, xrs, xr0, Nat.reduceAdd, Nat.reduceSub, List.cons_append, List.nil_append, List.set_cons_zero, List.set_cons_succ, Option.toList_none, Option.toList_some, nI_1]
    refine xg 8 rfl rfl rfl h.obj rfl ?_
    refine xgo 80 rfl ?_
    try simp only [xlo0, List.map_cons, List.map_nil, List.length_cons, List.length_nil, xrs, xr0, Nat.reduceAdd, Nat.reduceSub, List.cons_append, List.nil_append, List.set_cons_zero, List.set_cons_succ, Option.toList_none, Option.toList_some, nI_1]
    refine xcV 8 rfl rfl rfl (c_SH_at hs hj) rfl kX7_at iX7_at hs.2.1 ⟨_, rfl, rfl⟩ rfl rfl (Nat.le_of_ble_eq_true rfl) (fun v1 s1 q1 => ?_)
    obtain ⟨rfl, rfl⟩ := q1
    refine xgo 80 rfl ?_
    try simp only [xlo0, List.map_cons, List.map_nil, List.length_cons, List.length_nil, xrs, xr0, Nat.reduceAdd, Nat.reduceSub, List.cons_append, List.nil_append, List.set_cons_zero, List.set_cons_succ, Option.toList_none, Option.toList_some, nI_1]
    refine xi_ifnull_r rfl ?_
    refine xgo 80 rfl ?_
    try simp only [xlo0, List.map_cons, List.map_nil, List.length_cons, List.length_nil, xrs, xr0, Nat.reduceAdd, Nat.reduceSub, List.cons_append, List.nil_append, List.set_cons_zero, List.set_cons_succ, Option.toList_none, Option.toList_some, nI_1]
    refine xg 8 rfl rfl rfl h.obj rfl ?_
    cases ho : sget Z.2.2.2.2.2.1 o with
    | none =>
      refine xgo 80 rfl ?_
      try simp only [xlo0, List.map_cons, List.map_nil, List.length_cons, List.length_nil, xrs, xr0, Nat.reduceAdd, Nat.reduceSub, List.cons_append, List.nil_append, List.set_cons_zero, List.set_cons_succ, Option.toList_none, Option.toList_some, nI_1]
      refine xcV 8 rfl rfl rfl (c_SH_atN hs (sget_n ho)) rfl kX7_at iX7_at hs.2.1 ⟨_, rfl, rfl⟩ rfl rfl (Nat.le_of_ble_eq_true rfl) (fun v2 s2 q2 => ?_)
      obtain ⟨rfl, rfl⟩ := q2
      refine xgo 80 rfl ?_
      try simp only [xlo0, List.map_cons, List.map_nil, List.length_cons, List.length_nil, xrs, xr0, Nat.reduceAdd, Nat.reduceSub, List.cons_append, List.nil_append, List.set_cons_zero, List.set_cons_succ, Option.toList_none, Option.toList_some, nI_1]
      refine xi_ifnonnull_n rfl ?_
      refine xgo 80 rfl ?_
      try simp only [xlo0, List.map_cons, List.map_nil, List.length_cons, List.length_nil, xrs, xr0, Nat.reduceAdd, Nat.reduceSub, List.cons_append, List.nil_append, List.set_cons_zero, List.set_cons_succ, Option.toList_none, Option.toList_some, nI_1]
      refine xi_ret_i rfl rfl rfl (ppost.same h rfl)
    | some y =>
      have hF : (Option.isNone (some y) = true) = False := by simp
      simp only [hF, if_false]
      obtain ⟨jo, rfl, hjo, hjo12⟩ := sget_s ho hs.1
      refine xgo 80 rfl ?_
      try simp only [xlo0, List.map_cons, List.map_nil, List.length_cons, List.length_nil, xrs, xr0, Nat.reduceAdd, Nat.reduceSub, List.cons_append, List.nil_append, List.set_cons_zero, List.set_cons_succ, Option.toList_none, Option.toList_some, nI_1]
      refine xcV 8 rfl rfl rfl (c_SH_at hs hjo) rfl kX7_at iX7_at hs.2.1 ⟨_, rfl, rfl⟩ rfl rfl (Nat.le_of_ble_eq_true rfl) (fun v2 s2 q2 => ?_)
      obtain ⟨rfl, rfl⟩ := q2
      refine xgo 80 rfl ?_
      try simp only [xlo0, List.map_cons, List.map_nil, List.length_cons, List.length_nil, xrs, xr0, Nat.reduceAdd, Nat.reduceSub, List.cons_append, List.nil_append, List.set_cons_zero, List.set_cons_succ, Option.toList_none, Option.toList_some, nI_1]
      refine xi_ifnonnull_r rfl ?_
      refine xgo 80 rfl ?_
      try simp only [xlo0, List.map_cons, List.map_nil, List.length_cons, List.length_nil, xrs, xr0, Nat.reduceAdd, Nat.reduceSub, List.cons_append, List.nil_append, List.set_cons_zero, List.set_cons_succ, Option.toList_none, Option.toList_some, nI_1]
      refine xi_icmpeq rfl (fun c1 => ?_) (fun c1 => ?_)
      · rw [if_pos (Or.inl c1)]
        refine xgo 80 rfl ?_
        try simp only [xlo0, List.map_cons, List.map_nil, List.length_cons, List.length_nil, xrs, xr0, Nat.reduceAdd, Nat.reduceSub, List.cons_append, List.nil_append, List.set_cons_zero, List.set_cons_succ, Option.toList_none, Option.toList_some, nI_1]
        refine xi_ret_i rfl rfl rfl (ppost.same h rfl)
      refine xgo 80 rfl ?_
      try simp only [xlo0, List.map_cons, List.map_nil, List.length_cons, List.length_nil, xrs, xr0, Nat.reduceAdd, Nat.reduceSub, List.cons_append, List.nil_append, List.set_cons_zero, List.set_cons_succ, Option.toList_none, Option.toList_some, nI_1]
      refine xcV 8 rfl rfl rfl (c_EN_hasOverlay hx) rfl kX3_hasOverlay iX3_hasOverlay hx.obj ⟨_, rfl, rfl⟩ rfl rfl (Nat.le_of_ble_eq_true rfl) (fun v3 s3 q3 => ?_)
      obtain ⟨rfl, rfl⟩ := q3
      refine xgo 80 rfl ?_
      try simp only [xlo0, List.map_cons, List.map_nil, List.length_cons, List.length_nil, xrs, xr0, Nat.reduceAdd, Nat.reduceSub, List.cons_append, List.nil_append, List.set_cons_zero, List.set_cons_succ, Option.toList_none, Option.toList_some, nI_1]
      refine xi_ifeq rfl (fun c2 => ?_) (fun c2 => ?_)
      · rw [bI_z] at c2
        rw [if_neg (by intro hc; rcases hc with hc | hc; exact c1 hc; rw [c2] at hc; cases hc)]
        refine xgo 80 rfl ?_
        try simp only [xlo0, List.map_cons, List.map_nil, List.length_cons, List.length_nil, xrs, xr0, Nat.reduceAdd, Nat.reduceSub, List.cons_append, List.nil_append, List.set_cons_zero, List.set_cons_succ, Option.toList_none, Option.toList_some, nI_1]
        refine xg 8 rfl rfl rfl hx.obj rfl ?_
        refine xgo 80 rfl ?_
        try simp only [xlo0, List.map_cons, List.map_nil, List.length_cons, List.length_nil, xrs, xr0, Nat.reduceAdd, Nat.reduceSub, List.cons_append, List.nil_append, List.set_cons_zero, List.set_cons_succ, Option.toList_none, Option.toList_some, nI_1]
        refine xi_icmplt rfl (fun c3 => ?_) (fun c3 => ?_)
        · rw [i_lt, i_n (by omega)] at c3
          rw [if_neg (by omega)]
          refine xgo 80 rfl ?_
          try simp only [xlo0, List.map_cons, List.map_nil, List.length_cons, List.length_nil, xrs, xr0, Nat.reduceAdd, Nat.reduceSub, List.cons_append, List.nil_append, List.set_cons_zero, List.set_cons_succ, Option.toList_none, Option.toList_some, nI_1]
          refine xcV 8 rfl rfl rfl (c_EN_putOverlay hx (by omega) (h.ck hj)) rfl kX3_putOverlay iX3_putOverlay hx.obj ⟨_, rfl, rfl⟩ rfl rfl (Nat.le_of_ble_eq_true rfl) (fun v4 s4 q4 => ?_)
          obtain ⟨rfl, p1, p2, p3⟩ := q4
          have hp := h.entry1 hj p2 p3 p1
          refine xgo 80 rfl ?_
          try simp only [xlo0, List.map_cons, List.map_nil, List.length_cons, List.length_nil, xrs, xr0, Nat.reduceAdd, Nat.reduceSub, List.cons_append, List.nil_append, List.set_cons_zero, List.set_cons_succ, Option.toList_none, Option.toList_some, nI_1]
          refine xg 8 rfl rfl rfl p1.obj rfl ?_
          refine xgo 80 rfl ?_
          try simp only [xlo0, List.map_cons, List.map_nil, List.length_cons, List.length_nil, xrs, xr0, Nat.reduceAdd, Nat.reduceSub, List.cons_append, List.nil_append, List.set_cons_zero, List.set_cons_succ, Option.toList_none, Option.toList_some, nI_1]
          refine xi_ret_i rfl rfl rfl ⟨by simp, ⟨own, rc, hp.1⟩, hp.2⟩
        · rw [i_lt, i_n (by omega)] at c3
          rw [if_pos (by omega)]
          refine xgo 80 rfl ?_
          try simp only [xlo0, List.map_cons, List.map_nil, List.length_cons, List.length_nil, xrs, xr0, Nat.reduceAdd, Nat.reduceSub, List.cons_append, List.nil_append, List.set_cons_zero, List.set_cons_succ, Option.toList_none, Option.toList_some, nI_1]
          refine xi_ret_i rfl rfl rfl (ppost.same h rfl)
      · rw [bI_z, Bool.not_eq_false] at c2
        rw [if_pos (Or.inr c2)]
        refine xgo 80 rfl ?_
        try simp only [xlo0, List.map_cons, List.map_nil, List.length_cons, List.length_nil, xrs, xr0, Nat.reduceAdd, Nat.reduceSub, List.cons_append, List.nil_append, List.set_cons_zero, List.set_cons_succ, Option.toList_none, Option.toList_some, nI_1]
        refine xi_ret_i rfl rfl rfl (ppost.same h rfl)
