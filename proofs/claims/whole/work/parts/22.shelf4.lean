def rnkI (L : sL) (name rank : Int32) : sL → Nat → Int32
  | [], _ => -1
  | x :: xs, e => if x.2.2.1.1.1 = name ∧ nI (cahead x.2.2.1 (nI e) L 0) = rank then nI e else rnkI L name rank xs (e + 1)
set_option maxRecDepth 100000 in
set_option maxHeartbeats 8000000 in
theorem l_SH_ranked {G : xG} {d s : Nat} {L : sL} {name rank : Int32} {σ : xS} (h : shf G σ.1 s L) : ∀ (n e : Nat) (x4 : Option Value), e + n = L.length → rnkI L name rank (L.drop e) e = rnkI L name rank L 0 →
    xw G (d + 2) mX7_ranked 2 [some (rf G s), some (.int name), some (.int rank), some (.int (nI e)), x4] [] σ (fun v σ' => v = some (.int (rnkI L name rank L 0)) ∧ σ' = σ) := by
  have hL := h.1
  have h2 := h.2.1
  intro n
  induction n with
  | zero =>
    intro f x4 hf hm
    have hf' : f = L.length := by omega
    subst hf'
    rw [List.drop_length] at hm
    refine xgo 80 rfl ?_
    try simp only [xlo0, List.map_cons, List.map_nil, List.length_cons, List.length_nil, xrs, xr0, Nat.reduceAdd, Nat.reduceSub, List.cons_append, List.nil_append, List.set_cons_zero, List.set_cons_succ, Option.toList_none, Option.toList_some, nI_1]
    refine xg 7 rfl rfl rfl h2 rfl ?_
    refine xgo 80 rfl ?_
    try simp only [xlo0, List.map_cons, List.map_nil, List.length_cons, List.length_nil, xrs, xr0, Nat.reduceAdd, Nat.reduceSub, List.cons_append, List.nil_append, List.set_cons_zero, List.set_cons_succ, Option.toList_none, Option.toList_some, nI_1]
    refine xi_icmpge rfl (fun c1 => ?_) (fun c1 => ?_)
    · refine xgo 80 rfl ?_
      try simp only [xlo0, List.map_cons, List.map_nil, List.length_cons, List.length_nil, xrs, xr0, Nat.reduceAdd, Nat.reduceSub, List.cons_append, List.nil_append, List.set_cons_zero, List.set_cons_succ, Option.toList_none, Option.toList_some, nI_1]
      refine xi_ret_i rfl rfl rfl ⟨by rw [← hm]; rfl, rfl⟩
    · exact absurd (i_le.mpr (Int.le_refl _)) c1
  | succ n ih =>
    intro f x4 hf hm
    obtain ⟨x, hx⟩ := lt_get (l := L) (j := f) (by omega)
    have hen := h.ent hx
    rw [drop_cons hx] at hm
    have hm : (if x.2.2.1.1.1 = name ∧ nI (cahead x.2.2.1 (nI f) L 0) = rank then nI f else rnkI L name rank (L.drop (f + 1)) (f + 1)) = rnkI L name rank L 0 := hm
    refine xgo 80 rfl ?_
    try simp only [xlo0, List.map_cons, List.map_nil, List.length_cons, List.length_nil, xrs, xr0, Nat.reduceAdd, Nat.reduceSub, List.cons_append, List.nil_append, List.set_cons_zero, List.set_cons_succ, Option.toList_none, Option.toList_some, nI_1]
    refine xg 7 rfl rfl rfl h2 rfl ?_
    refine xgo 80 rfl ?_
    try simp only [xlo0, List.map_cons, List.map_nil, List.length_cons, List.length_nil, xrs, xr0, Nat.reduceAdd, Nat.reduceSub, List.cons_append, List.nil_append, List.set_cons_zero, List.set_cons_succ, Option.toList_none, Option.toList_some, nI_1]
    refine xi_icmpge rfl (fun c1 => ?_) (fun c1 => ?_)
    · exact absurd c1 (by rw [i_le, i_n (by omega), i_n (by omega)]; omega)
    refine xgo 80 rfl ?_
    try simp only [xlo0, List.map_cons, List.map_nil, List.length_cons, List.length_nil, xrs, xr0, Nat.reduceAdd, Nat.reduceSub, List.cons_append, List.nil_append, List.set_cons_zero, List.set_cons_succ, Option.toList_none, Option.toList_some, nI_1]
    refine xcV 7 rfl rfl rfl (c_SH_at h hx) rfl kX7_at iX7_at h2 ⟨_, rfl, rfl⟩ rfl rfl (Nat.le_of_ble_eq_true rfl) (fun v1 s1 q1 => ?_)
    obtain ⟨rfl, rfl⟩ := q1
    refine xgo 80 rfl ?_
    try simp only [xlo0, List.map_cons, List.map_nil, List.length_cons, List.length_nil, xrs, xr0, Nat.reduceAdd, Nat.reduceSub, List.cons_append, List.nil_append, List.set_cons_zero, List.set_cons_succ, Option.toList_none, Option.toList_some, nI_1]
    refine xi_ifnull_r rfl ?_
    refine xgo 80 rfl ?_
    try simp only [xlo0, List.map_cons, List.map_nil, List.length_cons, List.length_nil, xrs, xr0, Nat.reduceAdd, Nat.reduceSub, List.cons_append, List.nil_append, List.set_cons_zero, List.set_cons_succ, Option.toList_none, Option.toList_some, nI_1]
    refine xg 7 rfl rfl rfl hen.obj rfl ?_
    refine xgo 80 rfl ?_
    try simp only [xlo0, List.map_cons, List.map_nil, List.length_cons, List.length_nil, xrs, xr0, Nat.reduceAdd, Nat.reduceSub, List.cons_append, List.nil_append, List.set_cons_zero, List.set_cons_succ, Option.toList_none, Option.toList_some, nI_1]
    refine xg 7 rfl rfl rfl hen.cont.obj rfl ?_
    refine xgo 80 rfl ?_
    try simp only [xlo0, List.map_cons, List.map_nil, List.length_cons, List.length_nil, xrs, xr0, Nat.reduceAdd, Nat.reduceSub, List.cons_append, List.nil_append, List.set_cons_zero, List.set_cons_succ, Option.toList_none, Option.toList_some, nI_1]
    refine xi_icmpne rfl (fun c2 => ?_) (fun c2 => ?_)
    · refine xto 2 80 rfl ?_
      try simp only [xlo0, List.map_cons, List.map_nil, List.length_cons, List.length_nil, xrs, xr0, Nat.reduceAdd, Nat.reduceSub, List.cons_append, List.nil_append, List.set_cons_zero, List.set_cons_succ, Option.toList_none, Option.toList_some, nI_1]
      refine ih (f + 1) _ (by omega) ?_
      rw [if_neg (fun q => c2 q.1)] at hm
      exact hm
    refine xgo 80 rfl ?_
    try simp only [xlo0, List.map_cons, List.map_nil, List.length_cons, List.length_nil, xrs, xr0, Nat.reduceAdd, Nat.reduceSub, List.cons_append, List.nil_append, List.set_cons_zero, List.set_cons_succ, Option.toList_none, Option.toList_some, nI_1]
    refine xg 7 rfl rfl rfl hen.obj rfl ?_
    refine xgo 80 rfl ?_
    try simp only [xlo0, List.map_cons, List.map_nil, List.length_cons, List.length_nil, xrs, xr0, Nat.reduceAdd, Nat.reduceSub, List.cons_append, List.nil_append, List.set_cons_zero, List.set_cons_succ, Option.toList_none, Option.toList_some, nI_1]
    refine xcV 7 rfl rfl rfl (c_SH_countAhead h hen.cont) rfl kX7_countAhead iX7_countAhead h2 ⟨_, rfl, rfl⟩ rfl rfl (Nat.le_of_ble_eq_true rfl) (fun v2 s2 q2 => ?_)
    obtain ⟨rfl, rfl⟩ := q2
    refine xgo 80 rfl ?_
    try simp only [xlo0, List.map_cons, List.map_nil, List.length_cons, List.length_nil, xrs, xr0, Nat.reduceAdd, Nat.reduceSub, List.cons_append, List.nil_append, List.set_cons_zero, List.set_cons_succ, Option.toList_none, Option.toList_some, nI_1]
    refine xi_icmpne rfl (fun c3 => ?_) (fun c3 => ?_)
    · refine xto 2 80 rfl ?_
      try simp only [xlo0, List.map_cons, List.map_nil, List.length_cons, List.length_nil, xrs, xr0, Nat.reduceAdd, Nat.reduceSub, List.cons_append, List.nil_append, List.set_cons_zero, List.set_cons_succ, Option.toList_none, Option.toList_some, nI_1]
      refine ih (f + 1) _ (by omega) ?_
      rw [if_neg (fun q => c3 q.2)] at hm
      exact hm
    · rw [if_pos ⟨c2, c3⟩] at hm
      refine xgo 80 rfl ?_
      try simp only [xlo0, List.map_cons, List.map_nil, List.length_cons, List.length_nil, xrs, xr0, Nat.reduceAdd, Nat.reduceSub, List.cons_append, List.nil_append, List.set_cons_zero, List.set_cons_succ, Option.toList_none, Option.toList_some, nI_1]
      refine xi_ret_i rfl rfl rfl ⟨by rw [hm], rfl⟩
set_option maxRecDepth 100000 in
set_option maxHeartbeats 8000000 in
theorem c_SH_ranked {G : xG} {d s : Nat} {L : sL} {name rank : Int32} {σ : xS} (h : shf G σ.1 s L) : xm G (d + 2) mX7_ranked [rf G s, .int name, .int rank] σ (fun v σ' => v = some (.int (rnkI L name rank L 0)) ∧ σ' = σ) := by
  refine xm_at 5 rfl (by decide) (Nat.le_of_ble_eq_true rfl) (by simp [Value.category]) tX7_ranked_ok ?_
  try simp only [xlo0, List.map_cons, List.map_nil, List.length_cons, List.length_nil, xrs, xr0, Nat.reduceAdd, Nat.reduceSub, List.cons_append, List.nil_append, List.set_cons_zero, List.set_cons_succ, Option.toList_none, Option.toList_some, nI_1]
  refine xto 2 80 rfl ?_
  try simp only [xlo0, List.map_cons, List.map_nil, List.length_cons, List.length_nil, xrs, xr0, Nat.reduceAdd, Nat.reduceSub, List.cons_append, List.nil_append, List.set_cons_zero, List.set_cons_succ, Option.toList_none, Option.toList_some, nI_1]
  exact l_SH_ranked h L.length 0 none (by omega) rfl
def leanI (e rank : Int32) : sL → Nat → Nat → Int32
  | [], _, _ => -1
  | x :: xs, f, b => if x.2.2.2.1.any (fun m => m == e) then (if nI b = rank then nI f else leanI e rank xs (f + 1) (b + 1)) else leanI e rank xs (f + 1) b
set_option maxRecDepth 100000 in
set_option maxHeartbeats 8000000 in
theorem l_SH_leaning {G : xG} {d s : Nat} {L : sL} {e rank : Int32} {σ : xS} (h : shf G σ.1 s L) : ∀ (n f b : Nat) (x5 : Option Value), f + n = L.length → leanI e rank (L.drop f) f b = leanI e rank L 0 0 →
    xw G (d + 2) mX7_leaning 5 [some (rf G s), some (.int e), some (.int rank), some (.int (nI b)), some (.int (nI f)), x5] [] σ (fun v σ' => v = some (.int (leanI e rank L 0 0)) ∧ σ' = σ) := by
  have hL := h.1
  have h2 := h.2.1
  intro n
  induction n with
  | zero =>
    intro f b x5 hf hm
    have hf' : f = L.length := by omega
    subst hf'
    rw [List.drop_length] at hm
    refine xgo 80 rfl ?_
    try simp only [xlo0, List.map_cons, List.map_nil, List.length_cons, List.length_nil, xrs, xr0, Nat.reduceAdd, Nat.reduceSub, List.cons_append, List.nil_append, List.set_cons_zero, List.set_cons_succ, Option.toList_none, Option.toList_some, nI_1]
    refine xg 7 rfl rfl rfl h2 rfl ?_
    refine xgo 80 rfl ?_
    try simp only [xlo0, List.map_cons, List.map_nil, List.length_cons, List.length_nil, xrs, xr0, Nat.reduceAdd, Nat.reduceSub, List.cons_append, List.nil_append, List.set_cons_zero, List.set_cons_succ, Option.toList_none, Option.toList_some, nI_1]
    refine xi_icmpge rfl (fun c1 => ?_) (fun c1 => ?_)
    · refine xgo 80 rfl ?_
      try simp only [xlo0, List.map_cons, List.map_nil, List.length_cons, List.length_nil, xrs, xr0, Nat.reduceAdd, Nat.reduceSub, List.cons_append, List.nil_append, List.set_cons_zero, List.set_cons_succ, Option.toList_none, Option.toList_some, nI_1]
      refine xi_ret_i rfl rfl rfl ⟨by rw [← hm]; rfl, rfl⟩
    · exact absurd (i_le.mpr (Int.le_refl _)) c1
  | succ n ih =>
    intro f b x5 hf hm
    obtain ⟨x, hx⟩ := lt_get (l := L) (j := f) (by omega)
    have hen := h.ent hx
    rw [drop_cons hx] at hm
    have hm : (if x.2.2.2.1.any (fun m => m == e) = true then (if nI b = rank then nI f else leanI e rank (L.drop (f + 1)) (f + 1) (b + 1)) else leanI e rank (L.drop (f + 1)) (f + 1) b) = leanI e rank L 0 0 := hm
    refine xgo 80 rfl ?_
    try simp only [xlo0, List.map_cons, List.map_nil, List.length_cons, List.length_nil, xrs, xr0, Nat.reduceAdd, Nat.reduceSub, List.cons_append, List.nil_append, List.set_cons_zero, List.set_cons_succ, Option.toList_none, Option.toList_some, nI_1]
    refine xg 7 rfl rfl rfl h2 rfl ?_
    refine xgo 80 rfl ?_
    try simp only [xlo0, List.map_cons, List.map_nil, List.length_cons, List.length_nil, xrs, xr0, Nat.reduceAdd, Nat.reduceSub, List.cons_append, List.nil_append, List.set_cons_zero, List.set_cons_succ, Option.toList_none, Option.toList_some, nI_1]
    refine xi_icmpge rfl (fun c1 => ?_) (fun c1 => ?_)
    · exact absurd c1 (by rw [i_le, i_n (by omega), i_n (by omega)]; omega)
    refine xgo 80 rfl ?_
    try simp only [xlo0, List.map_cons, List.map_nil, List.length_cons, List.length_nil, xrs, xr0, Nat.reduceAdd, Nat.reduceSub, List.cons_append, List.nil_append, List.set_cons_zero, List.set_cons_succ, Option.toList_none, Option.toList_some, nI_1]
    refine xcV 7 rfl rfl rfl (c_SH_at h hx) rfl kX7_at iX7_at h2 ⟨_, rfl, rfl⟩ rfl rfl (Nat.le_of_ble_eq_true rfl) (fun v1 s1 q1 => ?_)
    obtain ⟨rfl, rfl⟩ := q1
    refine xgo 80 rfl ?_
    try simp only [xlo0, List.map_cons, List.map_nil, List.length_cons, List.length_nil, xrs, xr0, Nat.reduceAdd, Nat.reduceSub, List.cons_append, List.nil_append, List.set_cons_zero, List.set_cons_succ, Option.toList_none, Option.toList_some, nI_1]
    refine xi_ifnull_r rfl ?_
    refine xgo 80 rfl ?_
    try simp only [xlo0, List.map_cons, List.map_nil, List.length_cons, List.length_nil, xrs, xr0, Nat.reduceAdd, Nat.reduceSub, List.cons_append, List.nil_append, List.set_cons_zero, List.set_cons_succ, Option.toList_none, Option.toList_some, nI_1]
    refine xcV 7 rfl rfl rfl (c_EN_leansOn hen) rfl kX3_leansOn iX3_leansOn hen.obj ⟨_, rfl, rfl⟩ rfl rfl (Nat.le_of_ble_eq_true rfl) (fun v2 s2 q2 => ?_)
    obtain ⟨rfl, rfl⟩ := q2
    cases hl : x.2.2.2.1.any (fun m => m == e) with
    | false =>
      rw [hl, if_neg (by decide)] at hm
      refine xgo 80 rfl ?_
      try simp only [xlo0, List.map_cons, List.map_nil, List.length_cons, List.length_nil, xrs, xr0, Nat.reduceAdd, Nat.reduceSub, List.cons_append, List.nil_append, List.set_cons_zero, List.set_cons_succ, Option.toList_none, Option.toList_some, nI_1]
      refine xi_ifeq rfl (fun c2 => ?_) (fun c2 => ?_)
      · refine xto 5 80 rfl ?_
        try simp only [xlo0, List.map_cons, List.map_nil, List.length_cons, List.length_nil, xrs, xr0, Nat.reduceAdd, Nat.reduceSub, List.cons_append, List.nil_append, List.set_cons_zero, List.set_cons_succ, Option.toList_none, Option.toList_some, nI_1]
        exact ih (f + 1) b _ (by omega) hm
      · exact absurd rfl c2
    | true =>
      rw [hl, if_pos rfl] at hm
      refine xgo 80 rfl ?_
      try simp only [xlo0, List.map_cons, List.map_nil, List.length_cons, List.length_nil, xrs, xr0, Nat.reduceAdd, Nat.reduceSub, List.cons_append, List.nil_append, List.set_cons_zero, List.set_cons_succ, Option.toList_none, Option.toList_some, nI_1]
      refine xi_ifeq rfl (fun c2 => ?_) (fun c2 => ?_)
      · exact absurd c2 (by decide)
      refine xgo 80 rfl ?_
      try simp only [xlo0, List.map_cons, List.map_nil, List.length_cons, List.length_nil, xrs, xr0, Nat.reduceAdd, Nat.reduceSub, List.cons_append, List.nil_append, List.set_cons_zero, List.set_cons_succ, Option.toList_none, Option.toList_some, nI_1]
      refine xi_icmpne rfl (fun c3 => ?_) (fun c3 => ?_)
      · rw [if_neg c3] at hm
        refine xto 5 80 rfl ?_
        try simp only [xlo0, List.map_cons, List.map_nil, List.length_cons, List.length_nil, xrs, xr0, Nat.reduceAdd, Nat.reduceSub, List.cons_append, List.nil_append, List.set_cons_zero, List.set_cons_succ, Option.toList_none, Option.toList_some, nI_1]
        exact ih (f + 1) (b + 1) _ (by omega) hm
      · rw [if_pos c3] at hm
        refine xgo 80 rfl ?_
        try simp only [xlo0, List.map_cons, List.map_nil, List.length_cons, List.length_nil, xrs, xr0, Nat.reduceAdd, Nat.reduceSub, List.cons_append, List.nil_append, List.set_cons_zero, List.set_cons_succ, Option.toList_none, Option.toList_some, nI_1]
        refine xi_ret_i rfl rfl rfl ⟨by rw [hm], rfl⟩
set_option maxRecDepth 100000 in
set_option maxHeartbeats 8000000 in
theorem c_SH_leaning {G : xG} {d s : Nat} {L : sL} {e rank : Int32} {σ : xS} (h : shf G σ.1 s L) : xm G (d + 2) mX7_leaning [rf G s, .int e, .int rank] σ (fun v σ' => v = some (.int (leanI e rank L 0 0)) ∧ σ' = σ) := by
  refine xm_at 6 rfl (by decide) (Nat.le_of_ble_eq_true rfl) (by simp [Value.category]) tX7_leaning_ok ?_
  try simp only [xlo0, List.map_cons, List.map_nil, List.length_cons, List.length_nil, xrs, xr0, Nat.reduceAdd, Nat.reduceSub, List.cons_append, List.nil_append, List.set_cons_zero, List.set_cons_succ, Option.toList_none, Option.toList_some, nI_1]
  refine xto 5 80 rfl ?_
  try simp only [xlo0, List.map_cons, List.map_nil, List.length_cons, List.length_nil, xrs, xr0, Nat.reduceAdd, Nat.reduceSub, List.cons_append, List.nil_append, List.set_cons_zero, List.set_cons_succ, Option.toList_none, Option.toList_some, nI_1]
  exact l_SH_leaning h L.length 0 0 none (by omega) rfl
/-- the shelf's cells and those of its entries lie apart, all below n -/
def shsep (s n : Nat) (L : sL) : Prop := s + 2 ≤ n ∧ ∀ (i : Nat) (x : Nat × Nat × eV), L[i]? = some x → s + 2 ≤ x.1 ∧ x.1 + 3 ≤ n ∧ (s + 2 ≤ x.2.1 ∨ x.2.1 + 17 ≤ s) ∧ x.2.1 + 17 ≤ n
theorem shf.keepN {G : xG} {h h' : Nat → Option xC} {s n : Nat} {L : sL} (H : shf G h s L) (hs : shsep s n L) (f : ∀ q, q < n → h' q = h q) : shf G h' s L := by
  obtain ⟨h1, h2, ⟨ar, h3, h4⟩, h5⟩ := H
  have f' : frz h h' n (0) → True := fun _ => trivial
  refine ⟨h1, by rw [f s (by have := hs.1; omega)]; exact h2, ⟨ar, by rw [f (s + 1) (by have := hs.1; omega)]; exact h3, h4⟩, fun i x hx => ?_⟩
  obtain ⟨a1, a2, a3, a4⟩ := hs.2 i x hx
  obtain ⟨mb, ovs, b1, b2, b3, b4, r⟩ := h5 i x hx
  obtain ⟨nn, ne, nx, sa, ks, ps, ln, pg, g0, g1, g2, g3, g4, g5, g6, g7, g8, hp, rr⟩ := b4
  exact ⟨mb, ovs, by rw [f _ (by omega)]; exact b1, by rw [f _ (by omega)]; exact b2, by rw [f _ (by omega)]; exact b3, ⟨nn, ne, nx, sa, ks, ps, ln, pg, by rw [f _ (by omega)]; exact g0, by rw [f _ (by omega)]; exact g1, by rw [f _ (by omega)]; exact g2, by rw [f _ (by omega)]; exact g3, by rw [f _ (by omega)]; exact g4, by rw [f _ (by omega)]; exact g5, by rw [f _ (by omega)]; exact g6, by rw [f _ (by omega)]; exact g7, by rw [f _ (by omega)]; exact g8, fun r hr => by rw [f _ (by omega)]; exact hp r hr, rr⟩, r⟩
theorem cont.keepN {G : xG} {h h' : Nat → Option xC} {c n : Nat} {K : cV} (H : cont G h c K) (hc : c + 17 ≤ n) (f : ∀ q, q < n → h' q = h q) : cont G h' c K := by
  obtain ⟨nn, ne, nx, sa, ks, ps, ln, pg, g0, g1, g2, g3, g4, g5, g6, g7, g8, hp, rr⟩ := H
  exact ⟨nn, ne, nx, sa, ks, ps, ln, pg, by rw [f _ (by omega)]; exact g0, by rw [f _ (by omega)]; exact g1, by rw [f _ (by omega)]; exact g2, by rw [f _ (by omega)]; exact g3, by rw [f _ (by omega)]; exact g4, by rw [f _ (by omega)]; exact g5, by rw [f _ (by omega)]; exact g6, by rw [f _ (by omega)]; exact g7, by rw [f _ (by omega)]; exact g8, fun r hr => by rw [f _ (by omega)]; exact hp r hr, rr⟩
theorem ent.keepQ {G : xG} {h h' : Nat → Option xC} {k c : Nat} {V : eV} (H : ent G h k c V) (f : ∀ q, ((k ≤ q ∧ q < k + 3) ∨ (c ≤ q ∧ q < c + 17)) → h' q = h q) : ent G h' k c V := by
  obtain ⟨mb, ovs, b1, b2, b3, b4, r⟩ := H
  obtain ⟨nn, ne, nx, sa, ks, ps, ln, pg, g0, g1, g2, g3, g4, g5, g6, g7, g8, hp, rr⟩ := b4
  exact ⟨mb, ovs, by rw [f _ (by omega)]; exact b1, by rw [f _ (by omega)]; exact b2, by rw [f _ (by omega)]; exact b3, ⟨nn, ne, nx, sa, ks, ps, ln, pg, by rw [f _ (by omega)]; exact g0, by rw [f _ (by omega)]; exact g1, by rw [f _ (by omega)]; exact g2, by rw [f _ (by omega)]; exact g3, by rw [f _ (by omega)]; exact g4, by rw [f _ (by omega)]; exact g5, by rw [f _ (by omega)]; exact g6, by rw [f _ (by omega)]; exact g7, by rw [f _ (by omega)]; exact g8, fun r hr => by rw [f _ (by omega)]; exact hp r hr, rr⟩, r⟩
theorem map_snoc {nd : List (Int32 × Int32 × Int32)} {f : Int32 × Int32 × Int32 → Int32} {j : Nat} {e : Int32 × Int32 × Int32} (h : nd[j]? = some e) : (nd.take (j + 1)).map f = (nd.take j).map f ++ [f e] := by
  rw [List.take_succ, h]
  simp
set_option maxRecDepth 100000 in
set_option maxHeartbeats 8000000 in
theorem l_SH_put {G : xG} {d s c k : Nat} {L : sL} {K : cV} {σ : xS} {Q : Option Value → xS → Prop} (hc : c + 17 ≤ k) (hs : shsep s k L)
    (kk : ∀ (mb : List Int32) (t : xS) (x3 : Option Value), shf G t.1 s L → cont G t.1 c K → t.1 k = some (11, vi mb) → mb.length = 4 → mb.take K.2.1.length = K.2.1.map (meetI L) → (∀ q, q < k → t.1 q = σ.1 q) → t.2.1 = k + 1 → t.2.2 = σ.2.2 + 4 → xw G (d + 3) mX7_put 41 [some (rf G s), some (rf G c), some (rf G k), x3] [] t Q) :
    ∀ (n j : Nat) (mb : List Int32) (t : xS), j + n = K.2.1.length → shf G t.1 s L → cont G t.1 c K → t.1 k = some (11, vi mb) → mb.length = 4 → mb.take j = (K.2.1.take j).map (meetI L) → (∀ q, q < k → t.1 q = σ.1 q) → t.2.1 = k + 1 → t.2.2 = σ.2.2 + 4 →
    xw G (d + 3) mX7_put 18 [some (rf G s), some (rf G c), some (rf G k), some (.int (nI j))] [] t Q := by
  intro n
  induction n with
  | zero =>
    intro j mb t hj h hK hk hl hm hf g1 g2
    have hb := hK.bnd
    have hj' : j = K.2.1.length := by omega
    subst hj'
    rw [List.take_length] at hm
    refine xgo 80 rfl ?_
    try simp only [xlo0, List.map_cons, List.map_nil, List.length_cons, List.length_nil, xrs, xr0, Nat.reduceAdd, Nat.reduceSub, List.cons_append, List.nil_append, List.set_cons_zero, List.set_cons_succ, Option.toList_none, Option.toList_some, nI_1]
    refine xg 7 rfl rfl rfl hK.obj rfl ?_
    refine xgo 80 rfl ?_
    try simp only [xlo0, List.map_cons, List.map_nil, List.length_cons, List.length_nil, xrs, xr0, Nat.reduceAdd, Nat.reduceSub, List.cons_append, List.nil_append, List.set_cons_zero, List.set_cons_succ, Option.toList_none, Option.toList_some, nI_1]
    refine xi_icmpge rfl (fun c1 => ?_) (fun c1 => ?_)
    · exact kk mb t _ h hK hk hl hm hf g1 g2
    · exact absurd (i_le.mpr (Int.le_refl _)) c1
  | succ n ih =>
    intro j mb t hj h hK hk hl hm hf g1 g2
    have hb := hK.bnd
    obtain ⟨e, he⟩ := lt_get (l := K.2.1) (j := j) (by omega)
    have hcl : (nI j).toNatClampNeg = j := nI_clamp (by omega)
    refine xgo 80 rfl ?_
    try simp only [xlo0, List.map_cons, List.map_nil, List.length_cons, List.length_nil, xrs, xr0, Nat.reduceAdd, Nat.reduceSub, List.cons_append, List.nil_append, List.set_cons_zero, List.set_cons_succ, Option.toList_none, Option.toList_some, nI_1]
    refine xg 7 rfl rfl rfl hK.obj rfl ?_
    refine xgo 80 rfl ?_
    try simp only [xlo0, List.map_cons, List.map_nil, List.length_cons, List.length_nil, xrs, xr0, Nat.reduceAdd, Nat.reduceSub, List.cons_append, List.nil_append, List.set_cons_zero, List.set_cons_succ, Option.toList_none, Option.toList_some, nI_1]
    refine xi_icmpge rfl (fun c1 => ?_) (fun c1 => ?_)
    · exact absurd c1 (by rw [i_le, i_n (by omega), i_n (by omega)]; omega)
    refine xgo 80 rfl ?_
    try simp only [xlo0, List.map_cons, List.map_nil, List.length_cons, List.length_nil, xrs, xr0, Nat.reduceAdd, Nat.reduceSub, List.cons_append, List.nil_append, List.set_cons_zero, List.set_cons_succ, Option.toList_none, Option.toList_some, nI_1]
    refine xcV 7 rfl rfl rfl (c_SH_meeting h hK he) rfl kX7_meeting iX7_meeting h.2.1 ⟨_, rfl, rfl⟩ rfl rfl (Nat.le_of_ble_eq_true rfl) (fun v1 s1 q1 => ?_)
    obtain ⟨rfl, rfl⟩ := q1
    refine xgo 80 rfl ?_
    try simp only [xlo0, List.map_cons, List.map_nil, List.length_cons, List.length_nil, xrs, xr0, Nat.reduceAdd, Nat.reduceSub, List.cons_append, List.nil_append, List.set_cons_zero, List.set_cons_succ, Option.toList_none, Option.toList_some, nI_1]
    refine xsi rfl hk (nI_pos (by omega)) (by rw [hcl, vi_len]; omega) (fun s2 n2 f2 e2 => ?_)
    refine xto 18 80 rfl ?_
    try simp only [xlo0, List.map_cons, List.map_nil, List.length_cons, List.length_nil, xrs, xr0, Nat.reduceAdd, Nat.reduceSub, List.cons_append, List.nil_append, List.set_cons_zero, List.set_cons_succ, Option.toList_none, Option.toList_some, nI_1]
    have hf2 : ∀ q, q < k → s2.1 q = s1.1 q := fun q hq => f2 q (by omega)
    refine ih (j + 1) (mb.set j (meetI L e)) s2 (by omega) (h.keepN hs hf2) (hK.keepN hc hf2) (by rw [n2, hcl, vi_set]) (by simp [hl]) ?_ (fun q hq => (hf2 q hq).trans (hf q hq)) ((congrArg Prod.fst e2).trans g1) ((congrArg Prod.snd e2).trans g2)
    rw [map_snoc he, ← hm]
    have hlen : (mb.take j).length = j := by simp; omega
    have := take_snoc (xs := mb) (bs := mb.take j) (b := meetI L e) (by rw [hlen]) (by omega)
    rw [hlen] at this
    simpa [hlen, Nat.min_eq_left (show j ≤ mb.length by omega)] using this
set_option maxRecDepth 100000 in
set_option maxHeartbeats 8000000 in
theorem c_SH_put {G : xG} {d s c : Nat} {L : sL} {K : cV} {σ : xS} (h : shf G σ.1 s L) (hK : cont G σ.1 c K) (hL : L.length < 12) (hc : c + 17 ≤ σ.2.1) (hs : shsep s σ.2.1 L) (hcs : s + 2 ≤ c ∨ c + 17 ≤ s) : xm G (d + 4) mX7_put [rf G s, rf G c] σ (fun v σ' => v = some (.int (nI L.length)) ∧ shf G σ'.1 s (L ++ [(σ.2.1, c, K, K.2.1.map (meetI L), seenI L K, 0, [])]) ∧ (∀ q, q < σ.2.1 → q ≠ s → q ≠ s + 1 → σ'.1 q = σ.1 q) ∧ σ'.2.1 = σ.2.1 + 3 ∧ σ'.2.2 = σ.2.2 + 14) := by
  obtain ⟨k, hk⟩ : ∃ k, σ.2.1 = k := ⟨_, rfl⟩
  rw [hk] at hc hs ⊢
  have hb := hK.bnd
  have z12 : (12 : Int32).toInt = 12 := rfl
  refine xm_at 4 rfl (by decide) (Nat.le_of_ble_eq_true rfl) (by simp [Value.category]) tX7_put_ok ?_
  try simp only [xlo0, List.map_cons, List.map_nil, List.length_cons, List.length_nil, xrs, xr0, Nat.reduceAdd, Nat.reduceSub, List.cons_append, List.nil_append, List.set_cons_zero, List.set_cons_succ, Option.toList_none, Option.toList_some, nI_1]
  refine xgo 80 rfl ?_
  try simp only [xlo0, List.map_cons, List.map_nil, List.length_cons, List.length_nil, xrs, xr0, Nat.reduceAdd, Nat.reduceSub, List.cons_append, List.nil_append, List.set_cons_zero, List.set_cons_succ, Option.toList_none, Option.toList_some, nI_1]
  refine xg 7 rfl rfl rfl h.2.1 rfl ?_
  refine xgo 80 rfl ?_
  try simp only [xlo0, List.map_cons, List.map_nil, List.length_cons, List.length_nil, xrs, xr0, Nat.reduceAdd, Nat.reduceSub, List.cons_append, List.nil_append, List.set_cons_zero, List.set_cons_succ, Option.toList_none, Option.toList_some, nI_1]
  refine xi_icmplt rfl (fun c1 => ?_) (fun c1 => ?_)
  · refine xgo 80 rfl ?_
    try simp only [xlo0, List.map_cons, List.map_nil, List.length_cons, List.length_nil, xrs, xr0, Nat.reduceAdd, Nat.reduceSub, List.cons_append, List.nil_append, List.set_cons_zero, List.set_cons_succ, Option.toList_none, Option.toList_some, nI_1]
    refine xna (t := 11) (atype := .int) (N := 4) hk rfl rfl (by decide) (by decide) rfl a_11 (by decide) rfl (by decide) (fun s1 n1 f1 g1 k1 => ?_)
    have hf1 : ∀ q, q < k → s1.1 q = σ.1 q := fun q hq => f1 q (by omega)
    refine xto 18 80 rfl ?_
    try simp only [xlo0, List.map_cons, List.map_nil, List.length_cons, List.length_nil, xrs, xr0, Nat.reduceAdd, Nat.reduceSub, List.cons_append, List.nil_append, List.set_cons_zero, List.set_cons_succ, Option.toList_none, Option.toList_some, nI_1]
    refine l_SH_put (σ := σ) hc hs (fun mb t x3 h hK hk' hl hm hf g1 g2 => ?_) K.2.1.length 0 [0, 0, 0, 0] s1 (by omega) (h.keepN hs hf1) (hK.keepN hc hf1) (by rw [n1]; rfl) rfl rfl hf1 g1 k1
    obtain ⟨h1, h2, ⟨ar, h3, h4, h5⟩, h6⟩ := id h
    refine xgo 80 rfl ?_
    try simp only [xlo0, List.map_cons, List.map_nil, List.length_cons, List.length_nil, xrs, xr0, Nat.reduceAdd, Nat.reduceSub, List.cons_append, List.nil_append, List.set_cons_zero, List.set_cons_succ, Option.toList_none, Option.toList_some, nI_1]
    refine xg 7 rfl rfl rfl h2 rfl ?_
    refine xgo 80 rfl ?_
    try simp only [xlo0, List.map_cons, List.map_nil, List.length_cons, List.length_nil, xrs, xr0, Nat.reduceAdd, Nat.reduceSub, List.cons_append, List.nil_append, List.set_cons_zero, List.set_cons_succ, Option.toList_none, Option.toList_some, nI_1]
    refine xg 7 rfl rfl rfl h2 rfl ?_
    refine xgo 80 rfl ?_
    try simp only [xlo0, List.map_cons, List.map_nil, List.length_cons, List.length_nil, xrs, xr0, Nat.reduceAdd, Nat.reduceSub, List.cons_append, List.nil_append, List.set_cons_zero, List.set_cons_succ, Option.toList_none, Option.toList_some, nI_1]
    refine xnn g1 rfl nX7_9 (fun s2 n2 f2 g2' k2 => ?_)
    have hf2 : ∀ q, q < k → s2.1 q = t.1 q := fun q hq => f2 q (by omega)
    have hS2 := h.keepN hs hf2
    have hK2 := hK.keepN hc hf2
    refine xgo 80 rfl ?_
    try simp only [xlo0, List.map_cons, List.map_nil, List.length_cons, List.length_nil, xrs, xr0, Nat.reduceAdd, Nat.reduceSub, List.cons_append, List.nil_append, List.set_cons_zero, List.set_cons_succ, Option.toList_none, Option.toList_some, nI_1]
    refine xcV 7 rfl rfl rfl (c_SH_seenBy hS2 hK2) rfl kX7_seenBy iX7_seenBy hS2.2.1 ⟨_, rfl, rfl⟩ rfl rfl (Nat.le_of_ble_eq_true rfl) (fun v3 s3 q3 => ?_)
    obtain ⟨rfl, rfl⟩ := q3
    refine xgo 80 rfl ?_
    try simp only [xlo0, List.map_cons, List.map_nil, List.length_cons, List.length_nil, xrs, xr0, Nat.reduceAdd, Nat.reduceSub, List.cons_append, List.nil_append, List.set_cons_zero, List.set_cons_succ, Option.toList_none, Option.toList_some, nI_1]
    refine xcI 7 rfl rfl rfl (c_EN_init (k := k) (c := c) (K := K) (met := K.2.1.map (meetI L)) (mb := mb) ((f2 _ (by omega)).trans hk') n2 g2' hK2 hc hl (by simp) (by simpa using hm)) rfl kX3_init iX3_init rfl rfl rfl rfl (Nat.le_of_ble_eq_true rfl) (fun v4 s4 q4 => ?_)
    obtain ⟨rfl, p1, p2, p3, p4⟩ := q4
    have hf4 : ∀ q, q < k → s4.1 q = t.1 q := fun q hq => (p2 q hq).trans (hf2 q hq)
    have hsl := hs.1
    refine xgo 80 rfl ?_
    try simp only [xlo0, List.map_cons, List.map_nil, List.length_cons, List.length_nil, xrs, xr0, Nat.reduceAdd, Nat.reduceSub, List.cons_append, List.nil_append, List.set_cons_zero, List.set_cons_succ, Option.toList_none, Option.toList_some, nI_1]
    refine xsa rfl ((hf4 _ (by omega)).trans h3) (by decide) (by decide) p1.obj (nI_pos (by omega)) (by rw [nI_clamp (by omega), h4]; omega) (fun s5 n5 f5 e5 => ?_)
    have n5' := n5
    have o5 : s5.1 s = some (7, [rf G (s + 1), .int (nI L.length)]) := (f5 _ (by omega)).trans ((hf4 _ (by omega)).trans h2)
    refine xgo 80 rfl ?_
    try simp only [xlo0, List.map_cons, List.map_nil, List.length_cons, List.length_nil, xrs, xr0, Nat.reduceAdd, Nat.reduceSub, List.cons_append, List.nil_append, List.set_cons_zero, List.set_cons_succ, Option.toList_none, Option.toList_some, nI_1]
    refine xg 7 rfl rfl rfl o5 rfl ?_
    refine xgo 80 rfl ?_
    try simp only [xlo0, List.map_cons, List.map_nil, List.length_cons, List.length_nil, xrs, xr0, Nat.reduceAdd, Nat.reduceSub, List.cons_append, List.nil_append, List.set_cons_zero, List.set_cons_succ, Option.toList_none, Option.toList_some, nI_1]
    refine xp 7 rfl rfl rfl o5 rfl rfl rfl (fun s6 n6 f6 e6 => ?_)
    have n5 := (f6 _ (by omega)).trans n5
    refine xgo 80 rfl ?_
    try simp only [xlo0, List.map_cons, List.map_nil, List.length_cons, List.length_nil, xrs, xr0, Nat.reduceAdd, Nat.reduceSub, List.cons_append, List.nil_append, List.set_cons_zero, List.set_cons_succ, Option.toList_none, Option.toList_some, nI_1]
    refine xg 7 rfl rfl rfl n6 rfl ?_
    refine xgo 80 rfl ?_
    try simp only [xlo0, List.map_cons, List.map_nil, List.length_cons, List.length_nil, xrs, xr0, Nat.reduceAdd, Nat.reduceSub, List.cons_append, List.nil_append, List.set_cons_zero, List.set_cons_succ, Option.toList_none, Option.toList_some, nI_1]
    have hf6 : ∀ q, q ≠ s → q ≠ s + 1 → s6.1 q = s4.1 q := fun q x1 x2 => (f6 q x1).trans (f5 q x2)
    have hkk : s6.2 = s4.2 := e6.trans e5
    have g61 : s6.2.1 = s4.2.1 := congrArg Prod.fst hkk
    have g62 : s6.2.2 = s4.2.2 := congrArg Prod.snd hkk
    have hN3 : xN 3 = 6 := rfl
    refine xgo 80 rfl ?_
    try simp only [xlo0, List.map_cons, List.map_nil, List.length_cons, List.length_nil, xrs, xr0, Nat.reduceAdd, Nat.reduceSub, List.cons_append, List.nil_append, List.set_cons_zero, List.set_cons_succ, Option.toList_none, Option.toList_some, nI_1]
    refine xi_ret_i rfl rfl rfl ⟨by rw [nI_pred], ⟨by simp; omega, by rw [n6]; simp, ⟨ar.set L.length (rf G (k + 1)), by rw [n5, nI_clamp (by omega)], by simp [h4], fun i y hy => ?_⟩, fun i y hy => ?_⟩, fun q x1 x2 x3 => by rw [hf6 q x2 x3, hf4 q x1, hf q x1], by omega, by omega⟩
    · rcases snoc_get hy with ⟨q1, q2⟩ | ⟨q1, q2⟩
      · rw [List.getElem?_set_ne (by omega)]
        exact h5 i y q2
      · rw [q1, q2]
        exact List.getElem?_set_self (by omega)
    · rcases snoc_get hy with ⟨q1, q2⟩ | ⟨q1, q2⟩
      · obtain ⟨a1, a2, a3, a4⟩ := hs.2 i y q2
        exact (h6 i y q2).keepQ (fun q hq => by rw [hf6 q (by omega) (by omega), hf4 q (by omega)])
      · rw [q2]
        exact p1.keepQ (fun q hq => hf6 q (by omega) (by omega))
  · exact absurd (by rw [i_lt, i_n (by omega), z12]; omega) c1
