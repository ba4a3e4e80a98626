/-- row r with the bytes bs -/
def rset (rw : List (Int32 × Int32 × List Int32)) (r : Nat) (bs : List Int32) : List (Int32 × Int32 × List Int32) := match rw[r]? with
  | some e => rw.set r (e.1, e.2.1, bs)
  | none => rw
theorem rset_eq {rw : List (Int32 × Int32 × List Int32)} {r : Nat} {e : Int32 × Int32 × List Int32} (h : rw[r]? = some e) (bs : List Int32) : rset rw r bs = rw.set r (e.1, e.2.1, bs) := by unfold rset; rw [h]
theorem rset_len (rw : List (Int32 × Int32 × List Int32)) (r : Nat) (bs : List Int32) : (rset rw r bs).length = rw.length := by
  unfold rset
  split
  · rw [List.length_set]
  · rfl
theorem rset_get {rw : List (Int32 × Int32 × List Int32)} {r : Nat} {e : Int32 × Int32 × List Int32} (h : rw[r]? = some e) (bs : List Int32) : (rset rw r bs)[r]? = some (e.1, e.2.1, bs) := by
  rw [rset_eq h, List.getElem?_set_self (List.getElem?_eq_some_iff.mp h).1]
theorem rset_ne {rw : List (Int32 × Int32 × List Int32)} {r i : Nat} (bs : List Int32) (h : i ≠ r) : (rset rw r bs)[i]? = rw[i]? := by
  unfold rset
  split
  · rw [List.getElem?_set_ne (Ne.symm h)]
  · rfl
theorem rset_set {rw : List (Int32 × Int32 × List Int32)} {r : Nat} (bs bs' : List Int32) : rset (rset rw r bs) r bs' = rset rw r bs' := by
  cases h : rw[r]? with
  | none => simp [rset, h]
  | some e =>
    rw [rset_eq (rset_get h bs), rset_eq h, rset_eq h, List.set_set]
theorem rset_self {rw : List (Int32 × Int32 × List Int32)} {r : Nat} {e : Int32 × Int32 × List Int32} (h : rw[r]? = some e) : rset rw r e.2.2 = rw := by
  rw [rset_eq h]
  apply List.ext_getElem?
  intro i
  by_cases hi : r = i
  · subst hi
    rw [List.getElem?_set_self (List.getElem?_eq_some_iff.mp h).1, h]
  · rw [List.getElem?_set_ne hi]
set_option maxRecDepth 100000 in
set_option maxHeartbeats 8000000 in
theorem c_CT_putByte {G : xG} {d c r : Nat} {K : cV} {b : Int32} {e : Int32 × Int32 × List Int32} {σ : xS} (h : cont G σ.1 c K) (he : K.2.2.2[r]? = some e) (hl : e.2.2.length < 120) : xm G (d + 1) mX2_putByte [rf G c, .int (nI r), .int b] σ (fun v σ' => v = none ∧ cont G σ'.1 c (K.1, K.2.1, K.2.2.1, rset K.2.2.2 r (e.2.2 ++ [b])) ∧ frz σ.1 σ'.1 c 17 ∧ σ'.2 = σ.2) := by
  obtain ⟨nn, ne, nx, sa, ks, ps, ln, pg, h0, h1, h2, h3, h4, h5, h6, h7, h8, hp, r1, r2, r3⟩ := h
  obtain ⟨hb, l1, l2, l3, lp, hc⟩ := r3
  have hn : (nI K.2.2.2.length).toInt = K.2.2.2.length := i_n (by omega)
  have hrl : r < K.2.2.2.length := (List.getElem?_eq_some_iff.mp he).1
  have hr : (nI r).toInt = r := i_n (by omega)
  have hcl : (nI r).toNatClampNeg = r := nI_clamp (by omega)
  obtain ⟨a1, a2, a3, a4, a5⟩ := hc r e he
  have hcl2 : (nI e.2.2.length).toNatClampNeg = e.2.2.length := nI_clamp (by omega)
  have hr8 : r < 8 := by omega
  refine xm_at 3 rfl (by decide) (Nat.le_of_ble_eq_true rfl) (by simp [Value.category]) tX2_putByte_ok ?_
  try simp only [xlo0, List.map_cons, List.map_nil, List.length_cons, List.length_nil, xrs, xr0, Nat.reduceAdd, Nat.reduceSub, List.cons_append, List.nil_append, List.set_cons_zero, List.set_cons_succ, Option.toList_none, Option.toList_some, nI_1]
  refine xgo 80 rfl ?_
  try simp only [xlo0, List.map_cons, List.map_nil, List.length_cons, List.length_nil, xrs, xr0, Nat.reduceAdd, Nat.reduceSub, List.cons_append, List.nil_append, List.set_cons_zero, List.set_cons_succ, Option.toList_none, Option.toList_some, nI_1]
  refine xg 2 rfl rfl rfl h0 rfl ?_
  refine xgo 80 rfl ?_
  try simp only [xlo0, List.map_cons, List.map_nil, List.length_cons, List.length_nil, xrs, xr0, Nat.reduceAdd, Nat.reduceSub, List.cons_append, List.nil_append, List.set_cons_zero, List.set_cons_succ, Option.toList_none, Option.toList_some, nI_1]
  refine xcS 2 rfl rfl rfl c_isBelow rfl kX8_isBelow iX8_isBelow rfl rfl (Nat.le_of_ble_eq_true rfl) (fun v1 s1 q1 => ?_)
  obtain ⟨rfl, rfl⟩ := q1
  rw [if_pos (by omega)]
  refine xgo 80 rfl ?_
  try simp only [xlo0, List.map_cons, List.map_nil, List.length_cons, List.length_nil, xrs, xr0, Nat.reduceAdd, Nat.reduceSub, List.cons_append, List.nil_append, List.set_cons_zero, List.set_cons_succ, Option.toList_none, Option.toList_some, nI_1]
  refine xi_ifeq rfl (fun c1 => ?_) (fun c1 => ?_)
  · exact absurd c1 (by decide)
  refine xgo 80 rfl ?_
  try simp only [xlo0, List.map_cons, List.map_nil, List.length_cons, List.length_nil, xrs, xr0, Nat.reduceAdd, Nat.reduceSub, List.cons_append, List.nil_append, List.set_cons_zero, List.set_cons_succ, Option.toList_none, Option.toList_some, nI_1]
  refine xg 2 rfl rfl rfl h0 rfl ?_
  refine xgo 80 rfl ?_
  try simp only [xlo0, List.map_cons, List.map_nil, List.length_cons, List.length_nil, xrs, xr0, Nat.reduceAdd, Nat.reduceSub, List.cons_append, List.nil_append, List.set_cons_zero, List.set_cons_succ, Option.toList_none, Option.toList_some, nI_1]
  refine xi_iald rfl h7 (nI_pos (by omega)) (by rw [hcl]; exact vi_get a3) ?_
  refine xgo 80 rfl ?_
  try simp only [xlo0, List.map_cons, List.map_nil, List.length_cons, List.length_nil, xrs, xr0, Nat.reduceAdd, Nat.reduceSub, List.cons_append, List.nil_append, List.set_cons_zero, List.set_cons_succ, Option.toList_none, Option.toList_some, nI_1]
  refine xi_icmpge rfl (fun c2 => ?_) (fun c2 => ?_)
  · exact absurd c2 (by rw [i_le, i_n (by omega)]; have : (120 : Int32).toInt = 120 := rfl; omega)
  refine xgo 80 rfl ?_
  try simp only [xlo0, List.map_cons, List.map_nil, List.length_cons, List.length_nil, xrs, xr0, Nat.reduceAdd, Nat.reduceSub, List.cons_append, List.nil_append, List.set_cons_zero, List.set_cons_succ, Option.toList_none, Option.toList_some, nI_1]
  refine xg 2 rfl rfl rfl h0 rfl ?_
  refine xgo 80 rfl ?_
  try simp only [xlo0, List.map_cons, List.map_nil, List.length_cons, List.length_nil, xrs, xr0, Nat.reduceAdd, Nat.reduceSub, List.cons_append, List.nil_append, List.set_cons_zero, List.set_cons_succ, Option.toList_none, Option.toList_some, nI_1]
  refine xi_aald rfl h8 (by decide) (nI_pos (by omega)) (by rw [hcl]; exact cpgs_get hr8) ?_
  refine xgo 80 rfl ?_
  try simp only [xlo0, List.map_cons, List.map_nil, List.length_cons, List.length_nil, xrs, xr0, Nat.reduceAdd, Nat.reduceSub, List.cons_append, List.nil_append, List.set_cons_zero, List.set_cons_succ, Option.toList_none, Option.toList_some, nI_1]
  refine xg 2 rfl rfl rfl h0 rfl ?_
  refine xgo 80 rfl ?_
  try simp only [xlo0, List.map_cons, List.map_nil, List.length_cons, List.length_nil, xrs, xr0, Nat.reduceAdd, Nat.reduceSub, List.cons_append, List.nil_append, List.set_cons_zero, List.set_cons_succ, Option.toList_none, Option.toList_some, nI_1]
  refine xi_iald rfl h7 (nI_pos (by omega)) (by rw [hcl]; exact vi_get a3) ?_
  refine xgo 80 rfl ?_
  try simp only [xlo0, List.map_cons, List.map_nil, List.length_cons, List.length_nil, xrs, xr0, Nat.reduceAdd, Nat.reduceSub, List.cons_append, List.nil_append, List.set_cons_zero, List.set_cons_succ, Option.toList_none, Option.toList_some, nI_1]
  refine xsi rfl (hp r hr8) (nI_pos (by omega)) (by rw [hcl2, vi_len, lp]; omega) (fun s2 n2 f2 e2 => ?_)
  have h0 := (f2 _ (by omega)).trans h0
  have h1 := (f2 _ (by omega)).trans h1
  have h2 := (f2 _ (by omega)).trans h2
  have h3 := (f2 _ (by omega)).trans h3
  have h4 := (f2 _ (by omega)).trans h4
  have h5 := (f2 _ (by omega)).trans h5
  have h6 := (f2 _ (by omega)).trans h6
  have h7 := (f2 _ (by omega)).trans h7
  have h8 := (f2 _ (by omega)).trans h8
  refine xgo 80 rfl ?_
  try simp only [xlo0, List.map_cons, List.map_nil, List.length_cons, List.length_nil, xrs, xr0, Nat.reduceAdd, Nat.reduceSub, List.cons_append, List.nil_append, List.set_cons_zero, List.set_cons_succ, Option.toList_none, Option.toList_some, nI_1]
  refine xg 2 rfl rfl rfl h0 rfl ?_
  refine xgo 80 rfl ?_
  try simp only [xlo0, List.map_cons, List.map_nil, List.length_cons, List.length_nil, xrs, xr0, Nat.reduceAdd, Nat.reduceSub, List.cons_append, List.nil_append, List.set_cons_zero, List.set_cons_succ, Option.toList_none, Option.toList_some, nI_1]
  refine xi_iald rfl h7 (nI_pos (by omega)) (by rw [hcl]; exact vi_get a3) ?_
  refine xgo 80 rfl ?_
  try simp only [xlo0, List.map_cons, List.map_nil, List.length_cons, List.length_nil, xrs, xr0, Nat.reduceAdd, Nat.reduceSub, List.cons_append, List.nil_append, List.set_cons_zero, List.set_cons_succ, Option.toList_none, Option.toList_some, nI_1]
  refine xsi rfl h7 (nI_pos (by omega)) (by rw [hcl, vi_len]; omega) (fun s3 n3 f3 e3 => ?_)
  have h0 := (f3 _ (by omega)).trans h0
  have h1 := (f3 _ (by omega)).trans h1
  have h2 := (f3 _ (by omega)).trans h2
  have h3 := (f3 _ (by omega)).trans h3
  have h4 := (f3 _ (by omega)).trans h4
  have h5 := (f3 _ (by omega)).trans h5
  have h6 := (f3 _ (by omega)).trans h6
  have n2 := (f3 _ (by omega)).trans n2
  have h8 := (f3 _ (by omega)).trans h8
  have hp : ∀ q, q < 8 → s3.1 (c + 9 + q) = some (11, vi (if q = r then (pg r).set e.2.2.length b else pg q)) := fun q hq => by
    by_cases hqr : q = r
    · subst hqr
      rw [if_pos rfl, n2, hcl2, vi_set]
    · rw [if_neg hqr, f3 _ (by omega), f2 _ (by omega)]
      exact hp q hq
  refine xgo 80 rfl ?_
  try simp only [xlo0, List.map_cons, List.map_nil, List.length_cons, List.length_nil, xrs, xr0, Nat.reduceAdd, Nat.reduceSub, List.cons_append, List.nil_append, List.set_cons_zero, List.set_cons_succ, Option.toList_none, Option.toList_some, nI_1]
  refine xi_ret_v rfl rfl ⟨rfl, ⟨nn, ne, nx, sa, ks, ps, ln.set r (nI (e.2.2.length + 1)), fun q => if q = r then (pg r).set e.2.2.length b else pg q, ?_, h1, h2, h3, h4, h5, h6, by rw [n3, hcl, vi_set], h8, hp, r1, r2, ⟨by rw [rset_len]; omega, l1, l2, by simp [l3], fun q => ?_, fun i e' he' => ?_⟩⟩, fun q hq => by rw [f3 q (by omega), f2 q (by omega)], by rw [e3, e2]⟩
  · rw [h0]
    simp [cobj, rset_len]
  · dsimp only
    split
    · rw [List.length_set]; exact lp r
    · exact lp q
  · by_cases hir : i = r
    · subst hir
      rw [rset_get he] at he'
      cases he'
      refine ⟨a1, a2, by rw [set_eq (by omega)]; simp, by simp; omega, ?_⟩
      dsimp only
      rw [if_pos rfl]
      exact take_snoc a5 (by rw [lp]; omega)
    · rw [rset_ne _ hir] at he'
      obtain ⟨b1, b2, b3, b4, b5⟩ := hc i e' he'
      refine ⟨b1, b2, by rw [List.getElem?_set_ne (Ne.symm hir)]; exact b3, b4, ?_⟩
      dsimp only
      rw [if_neg hir]
      exact b5
/-- n bytes more, each as the one back ahead of it -/
def rep (back : Nat) : Nat → List Int32 → List Int32
  | 0, bs => bs
  | n + 1, bs => rep back n (bs ++ [bs.getD (bs.length - back) (-1)])
theorem rep_len (back : Nat) : ∀ (n : Nat) (bs : List Int32), (rep back n bs).length = bs.length + n
  | 0, bs => rfl
  | n + 1, bs => by
    show (rep back n _).length = _
    rw [rep_len back n]
    simp
    omega
theorem nI_subN {a b : Nat} (h : b ≤ a) : nI a - nI b = nI (a - b) := pk_sub h
set_option maxRecDepth 100000 in
set_option maxHeartbeats 8000000 in
theorem l_CT_putCopies {G : xG} {d c r back m : Nat} {K : cV} {e : Int32 × Int32 × List Int32} {σ : xS} (he : K.2.2.2[r]? = some e) (hr : r < 1000) (hm : m < 1000) (hb : 1 ≤ back) : ∀ (n j : Nat) (bs : List Int32) (s : xS), j + n = m → back ≤ bs.length → bs.length + n ≤ 120 → cont G s.1 c (K.1, K.2.1, K.2.2.1, rset K.2.2.2 r bs) → frz σ.1 s.1 c 17 → s.2 = σ.2 → rep back n bs = rep back m e.2.2 →
    xw G (d + 2) mX2_putCopies 3 [some (rf G c), some (.int (nI r)), some (.int (nI back)), some (.int (nI m)), some (.int (nI j))] [] s (fun v σ' => v = none ∧ cont G σ'.1 c (K.1, K.2.1, K.2.2.1, rset K.2.2.2 r (rep back m e.2.2)) ∧ frz σ.1 σ'.1 c 17 ∧ σ'.2 = σ.2) := by
  intro n
  induction n with
  | zero =>
    intro j bs s hj hbl hl h hf h2 hrep
    have : j = m := by omega
    subst this
    refine xgo 80 rfl ?_
    try simp only [xlo0, List.map_cons, List.map_nil, List.length_cons, List.length_nil, xrs, xr0, Nat.reduceAdd, Nat.reduceSub, List.cons_append, List.nil_append, List.set_cons_zero, List.set_cons_succ, Option.toList_none, Option.toList_some, nI_1]
    refine xi_icmpge rfl (fun c1 => ?_) (fun c1 => ?_)
    · refine xgo 80 rfl ?_
      try simp only [xlo0, List.map_cons, List.map_nil, List.length_cons, List.length_nil, xrs, xr0, Nat.reduceAdd, Nat.reduceSub, List.cons_append, List.nil_append, List.set_cons_zero, List.set_cons_succ, Option.toList_none, Option.toList_some, nI_1]
      refine xi_ret_v rfl rfl ⟨rfl, by rw [← hrep]; exact h, hf, h2⟩
    · exact absurd (i_le.mpr (Int.le_refl _)) c1
  | succ n ih =>
    intro j bs s hj hbl hl h hf h2 hrep
    have hg := rset_get he bs
    refine xgo 80 rfl ?_
    try simp only [xlo0, List.map_cons, List.map_nil, List.length_cons, List.length_nil, xrs, xr0, Nat.reduceAdd, Nat.reduceSub, List.cons_append, List.nil_append, List.set_cons_zero, List.set_cons_succ, Option.toList_none, Option.toList_some, nI_1]
    refine xi_icmpge rfl (fun c1 => ?_) (fun c1 => ?_)
    · exact absurd c1 (by rw [i_le, i_n (by omega), i_n (by omega)]; omega)
    refine xgo 80 rfl ?_
    try simp only [xlo0, List.map_cons, List.map_nil, List.length_cons, List.length_nil, xrs, xr0, Nat.reduceAdd, Nat.reduceSub, List.cons_append, List.nil_append, List.set_cons_zero, List.set_cons_succ, Option.toList_none, Option.toList_some, nI_1]
    refine xcV 2 rfl rfl rfl (c_CT_pageLength h) rfl kX2_pageLength iX2_pageLength h.obj ⟨_, rfl, rfl⟩ rfl rfl (Nat.le_of_ble_eq_true rfl) (fun v1 s1 q1 => ?_)
    obtain ⟨rfl, rfl⟩ := q1
    rw [rby_n hg (by omega)]
    refine xgo 80 rfl ?_
    try simp only [xlo0, List.map_cons, List.map_nil, List.length_cons, List.length_nil, xrs, xr0, Nat.reduceAdd, Nat.reduceSub, List.cons_append, List.nil_append, List.set_cons_zero, List.set_cons_succ, Option.toList_none, Option.toList_some, nI_1]
    refine xcV 2 rfl rfl rfl (c_CT_byteAt h) rfl kX2_byteAt iX2_byteAt h.obj ⟨_, rfl, rfl⟩ rfl rfl (Nat.le_of_ble_eq_true rfl) (fun v2 s2 q2 => ?_)
    obtain ⟨rfl, rfl⟩ := q2
    rw [rby_n hg (by omega), nI_subN hbl, bat_n (by omega)]
    refine xgo 80 rfl ?_
    try simp only [xlo0, List.map_cons, List.map_nil, List.length_cons, List.length_nil, xrs, xr0, Nat.reduceAdd, Nat.reduceSub, List.cons_append, List.nil_append, List.set_cons_zero, List.set_cons_succ, Option.toList_none, Option.toList_some, nI_1]
    refine xcV 2 rfl rfl rfl (c_CT_putByte h hg (by show bs.length < 120; omega)) rfl kX2_putByte iX2_putByte h.obj ⟨_, rfl, rfl⟩ rfl rfl (Nat.le_of_ble_eq_true rfl) (fun v3 s3 q3 => ?_)
    obtain ⟨rfl, p1, p2, p3⟩ := q3
    refine xto 3 80 rfl ?_
    try simp only [xlo0, List.map_cons, List.map_nil, List.length_cons, List.length_nil, xrs, xr0, Nat.reduceAdd, Nat.reduceSub, List.cons_append, List.nil_append, List.set_cons_zero, List.set_cons_succ, Option.toList_none, Option.toList_some, nI_1]
    refine ih (j + 1) (bs ++ [bs.getD (bs.length - back) (-1)]) s3 (by omega) (by simp; omega) (by simp; omega) ?_ (hf.tr p2) (p3.trans h2) hrep
    rw [rset_set] at p1
    exact p1
set_option maxRecDepth 100000 in
set_option maxHeartbeats 8000000 in
theorem c_CT_putCopies {G : xG} {d c r back m : Nat} {K : cV} {e : Int32 × Int32 × List Int32} {σ : xS} (h : cont G σ.1 c K) (he : K.2.2.2[r]? = some e) (hb : 1 ≤ back) (hb2 : back ≤ e.2.2.length) (hl : e.2.2.length + m ≤ 120) : xm G (d + 2) mX2_putCopies [rf G c, .int (nI r), .int (nI back), .int (nI m)] σ (fun v σ' => v = none ∧ cont G σ'.1 c (K.1, K.2.1, K.2.2.1, rset K.2.2.2 r (rep back m e.2.2)) ∧ frz σ.1 σ'.1 c 17 ∧ σ'.2 = σ.2) := by
  have hbn := h.bnd
  have hrl : r < K.2.2.2.length := (List.getElem?_eq_some_iff.mp he).1
  refine xm_at 5 rfl (by decide) (Nat.le_of_ble_eq_true rfl) (by simp [Value.category]) tX2_putCopies_ok ?_
  try simp only [xlo0, List.map_cons, List.map_nil, List.length_cons, List.length_nil, xrs, xr0, Nat.reduceAdd, Nat.reduceSub, List.cons_append, List.nil_append, List.set_cons_zero, List.set_cons_succ, Option.toList_none, Option.toList_some, nI_1]
  refine xto 3 80 rfl ?_
  try simp only [xlo0, List.map_cons, List.map_nil, List.length_cons, List.length_nil, xrs, xr0, Nat.reduceAdd, Nat.reduceSub, List.cons_append, List.nil_append, List.set_cons_zero, List.set_cons_succ, Option.toList_none, Option.toList_some, nI_1]
  exact l_CT_putCopies he (by omega) (by omega) hb m 0 e.2.2 σ (by omega) hb2 hl (by rw [rset_self he]; exact h) frz.rf rfl rfl
set_option maxRecDepth 100000 in
set_option maxHeartbeats 8000000 in
theorem l_CT_putLike {G : xG} {d c r m : Nat} {b : Int32} {K : cV} {e : Int32 × Int32 × List Int32} {σ : xS} (he : K.2.2.2[r]? = some e) (hm : m < 1000) : ∀ (n j : Nat) (bs : List Int32) (s : xS), j + n = m → bs.length + n ≤ 120 → cont G s.1 c (K.1, K.2.1, K.2.2.1, rset K.2.2.2 r bs) → frz σ.1 s.1 c 17 → s.2 = σ.2 → bs = e.2.2 ++ List.replicate j b →
    xw G (d + 2) mX2_putLike 3 [some (rf G c), some (.int (nI r)), some (.int b), some (.int (nI m)), some (.int (nI j))] [] s (fun v σ' => v = none ∧ cont G σ'.1 c (K.1, K.2.1, K.2.2.1, rset K.2.2.2 r (e.2.2 ++ List.replicate m b)) ∧ frz σ.1 σ'.1 c 17 ∧ σ'.2 = σ.2) := by
  intro n
  induction n with
  | zero =>
    intro j bs s hj hl h hf h2 hrep
    have : j = m := by omega
    subst this
    refine xgo 80 rfl ?_
    try simp only [xlo0, List.map_cons, List.map_nil, List.length_cons, List.length_nil, xrs, xr0, Nat.reduceAdd, Nat.reduceSub, List.cons_append, List.nil_append, List.set_cons_zero, List.set_cons_succ, Option.toList_none, Option.toList_some, nI_1]
    refine xi_icmpge rfl (fun c1 => ?_) (fun c1 => ?_)
    · refine xgo 80 rfl ?_
      try simp only [xlo0, List.map_cons, List.map_nil, List.length_cons, List.length_nil, xrs, xr0, Nat.reduceAdd, Nat.reduceSub, List.cons_append, List.nil_append, List.set_cons_zero, List.set_cons_succ, Option.toList_none, Option.toList_some, nI_1]
      refine xi_ret_v rfl rfl ⟨rfl, by rw [← hrep]; exact h, hf, h2⟩
    · exact absurd (i_le.mpr (Int.le_refl _)) c1
  | succ n ih =>
    intro j bs s hj hl h hf h2 hrep
    have hg := rset_get he bs
    refine xgo 80 rfl ?_
    try simp only [xlo0, List.map_cons, List.map_nil, List.length_cons, List.length_nil, xrs, xr0, Nat.reduceAdd, Nat.reduceSub, List.cons_append, List.nil_append, List.set_cons_zero, List.set_cons_succ, Option.toList_none, Option.toList_some, nI_1]
    refine xi_icmpge rfl (fun c1 => ?_) (fun c1 => ?_)
    · exact absurd c1 (by rw [i_le, i_n (by omega), i_n (by omega)]; omega)
    refine xgo 80 rfl ?_
    try simp only [xlo0, List.map_cons, List.map_nil, List.length_cons, List.length_nil, xrs, xr0, Nat.reduceAdd, Nat.reduceSub, List.cons_append, List.nil_append, List.set_cons_zero, List.set_cons_succ, Option.toList_none, Option.toList_some, nI_1]
    refine xcV 2 rfl rfl rfl (c_CT_putByte h hg (by show bs.length < 120; omega)) rfl kX2_putByte iX2_putByte h.obj ⟨_, rfl, rfl⟩ rfl rfl (Nat.le_of_ble_eq_true rfl) (fun v3 s3 q3 => ?_)
    obtain ⟨rfl, p1, p2, p3⟩ := q3
    refine xto 3 80 rfl ?_
    try simp only [xlo0, List.map_cons, List.map_nil, List.length_cons, List.length_nil, xrs, xr0, Nat.reduceAdd, Nat.reduceSub, List.cons_append, List.nil_append, List.set_cons_zero, List.set_cons_succ, Option.toList_none, Option.toList_some, nI_1]
    refine ih (j + 1) (bs ++ [b]) s3 (by omega) (by simp; omega) ?_ (hf.tr p2) (p3.trans h2) (by rw [hrep, List.append_assoc, List.replicate_succ'])
    rw [rset_set] at p1
    exact p1
set_option maxRecDepth 100000 in
set_option maxHeartbeats 8000000 in
theorem c_CT_putLike {G : xG} {d c r m : Nat} {b : Int32} {K : cV} {e : Int32 × Int32 × List Int32} {σ : xS} (h : cont G σ.1 c K) (he : K.2.2.2[r]? = some e) (hl : e.2.2.length + m ≤ 120) : xm G (d + 2) mX2_putLike [rf G c, .int (nI r), .int b, .int (nI m)] σ (fun v σ' => v = none ∧ cont G σ'.1 c (K.1, K.2.1, K.2.2.1, rset K.2.2.2 r (e.2.2 ++ List.replicate m b)) ∧ frz σ.1 σ'.1 c 17 ∧ σ'.2 = σ.2) := by
  refine xm_at 5 rfl (by decide) (Nat.le_of_ble_eq_true rfl) (by simp [Value.category]) tX2_putLike_ok ?_
  try simp only [xlo0, List.map_cons, List.map_nil, List.length_cons, List.length_nil, xrs, xr0, Nat.reduceAdd, Nat.reduceSub, List.cons_append, List.nil_append, List.set_cons_zero, List.set_cons_succ, Option.toList_none, Option.toList_some, nI_1]
  refine xto 3 80 rfl ?_
  try simp only [xlo0, List.map_cons, List.map_nil, List.length_cons, List.length_nil, xrs, xr0, Nat.reduceAdd, Nat.reduceSub, List.cons_append, List.nil_append, List.set_cons_zero, List.set_cons_succ, Option.toList_none, Option.toList_some, nI_1]
  exact l_CT_putLike he (by omega) m 0 e.2.2 σ (by omega) hl (by rw [rset_self he]; exact h) frz.rf rfl (by simp)
