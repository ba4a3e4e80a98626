/-! ===== Content ===== -/
abbrev cV : Type := (Int32 × Int32 × Int32 × Int32) × List (Int32 × Int32 × Int32) × List Int32 × List (Int32 × Int32 × List Int32)
abbrev cobj (G : xG) (c : Nat) (K : cV) : xC := (2, [.int K.1.1, .int K.1.2.1, .int K.1.2.2.1, .int K.1.2.2.2, rf G (c + 1), rf G (c + 2), rf G (c + 3), .int (nI K.2.1.length), rf G (c + 4), .int (nI K.2.2.1.length), rf G (c + 5), rf G (c + 6), rf G (c + 7), rf G (c + 8), .int (nI K.2.2.2.length)])
abbrev cpgs (G : xG) (c : Nat) : List Value := (List.range 8).map (fun r => rf G (c + 9 + r))
def cneeds (nd : List (Int32 × Int32 × Int32)) (nn ne nx : List Int32) : Prop := nd.length ≤ 4 ∧ nn.length = 4 ∧ ne.length = 4 ∧ nx.length = 4 ∧ ∀ (i : Nat) (e : Int32 × Int32 × Int32), nd[i]? = some e → nn[i]? = some e.1 ∧ ne[i]? = some e.2.1 ∧ nx[i]? = some e.2.2
def cseals (sl sa : List Int32) : Prop := sl.length ≤ 4 ∧ sa.length = 4 ∧ ∀ (i : Nat) (e : Int32), sl[i]? = some e → sa[i]? = some e
def crows (rw : List (Int32 × Int32 × List Int32)) (ks ps ln : List Int32) (pg : Nat → List Int32) : Prop := rw.length ≤ 8 ∧ ks.length = 8 ∧ ps.length = 8 ∧ ln.length = 8 ∧ (∀ r, (pg r).length = 120) ∧ ∀ (r : Nat) (e : Int32 × Int32 × List Int32), rw[r]? = some e → ks[r]? = some e.1 ∧ ps[r]? = some e.2.1 ∧ ln[r]? = some (nI e.2.2.length) ∧ e.2.2.length ≤ 120 ∧ (pg r).take e.2.2.length = e.2.2
/-- a Content at c: what it says -/
def cont (G : xG) (h : Nat → Option xC) (c : Nat) (K : cV) : Prop := ∃ (nn ne nx sa ks ps ln : List Int32) (pg : Nat → List Int32), h c = some (cobj G c K) ∧ h (c + 1) = some (11, vi nn) ∧ h (c + 2) = some (11, vi ne) ∧ h (c + 3) = some (12, vi nx) ∧ h (c + 4) = some (11, vi sa) ∧ h (c + 5) = some (11, vi ks) ∧ h (c + 6) = some (11, vi ps) ∧ h (c + 7) = some (11, vi ln) ∧ h (c + 8) = some (16, cpgs G c) ∧ (∀ r, r < 8 → h (c + 9 + r) = some (11, vi (pg r))) ∧ cneeds K.2.1 nn ne nx ∧ cseals K.2.2.1 sa ∧ crows K.2.2.2 ks ps ln pg
theorem cont.keep {G : xG} {h h' : Nat → Option xC} {c b n : Nat} {K : cV} (H : cont G h c K) (f : frz h h' b n) (hd : c + 17 ≤ b ∨ b + n ≤ c) : cont G h' c K := by
  obtain ⟨nn, ne, nx, sa, ks, ps, ln, pg, h0, h1, h2, h3, h4, h5, h6, h7, h8, hp, r⟩ := H
  exact ⟨nn, ne, nx, sa, ks, ps, ln, pg, by rw [f.at (by omega)]; exact h0, by rw [f.at (by omega)]; exact h1, by rw [f.at (by omega)]; exact h2, by rw [f.at (by omega)]; exact h3, by rw [f.at (by omega)]; exact h4, by rw [f.at (by omega)]; exact h5, by rw [f.at (by omega)]; exact h6, by rw [f.at (by omega)]; exact h7, by rw [f.at (by omega)]; exact h8, fun r hr => by rw [f.at (by omega)]; exact hp r hr, r⟩
theorem cont.obj {G : xG} {h : Nat → Option xC} {c : Nat} {K : cV} (H : cont G h c K) : h c = some (cobj G c K) := by
  obtain ⟨nn, ne, nx, sa, ks, ps, ln, pg, h0, -⟩ := H
  exact h0
theorem cont.bnd {G : xG} {h : Nat → Option xC} {c : Nat} {K : cV} (H : cont G h c K) : K.2.1.length ≤ 4 ∧ K.2.2.1.length ≤ 4 ∧ K.2.2.2.length ≤ 8 := by
  obtain ⟨nn, ne, nx, sa, ks, ps, ln, pg, h0, h1, h2, h3, h4, h5, h6, h7, h8, hp, r1, r2, r3⟩ := H
  exact ⟨r1.1, r2.1, r3.1⟩
theorem cont.row {G : xG} {h : Nat → Option xC} {c : Nat} {K : cV} (H : cont G h c K) {r : Nat} {e : Int32 × Int32 × List Int32} (he : K.2.2.2[r]? = some e) : e.2.2.length ≤ 120 := by
  obtain ⟨nn, ne, nx, sa, ks, ps, ln, pg, h0, h1, h2, h3, h4, h5, h6, h7, h8, hp, r1, r2, r3⟩ := H
  exact (r3.2.2.2.2.2 r e he).2.2.2.1
/-- the same cells but the object -/
theorem cont.reobj {G : xG} {h h' : Nat → Option xC} {c : Nat} {K K' : cV} (H : cont G h c K) (f : ∀ q, q ≠ c → h' q = h q) (h0' : h' c = some (cobj G c K')) (e1 : K'.2.1 = K.2.1 ∨ K'.2.1 = []) (e2 : K'.2.2.1 = K.2.2.1 ∨ K'.2.2.1 = []) (e3 : K'.2.2.2 = K.2.2.2 ∨ K'.2.2.2 = []) : cont G h' c K' := by
  obtain ⟨nn, ne, nx, sa, ks, ps, ln, pg, h0, h1, h2, h3, h4, h5, h6, h7, h8, hp, r1, r2, r3⟩ := H
  refine ⟨nn, ne, nx, sa, ks, ps, ln, pg, h0', by rw [f _ (by omega)]; exact h1, by rw [f _ (by omega)]; exact h2, by rw [f _ (by omega)]; exact h3, by rw [f _ (by omega)]; exact h4, by rw [f _ (by omega)]; exact h5, by rw [f _ (by omega)]; exact h6, by rw [f _ (by omega)]; exact h7, by rw [f _ (by omega)]; exact h8, fun r hr => by rw [f _ (by omega)]; exact hp r hr, ?_, ?_, ?_⟩
  · rcases e1 with e | e
    · rw [e]; exact r1
    · rw [e]; exact ⟨by simp, r1.2.1, r1.2.2.1, r1.2.2.2.1, fun i e h => by simp at h⟩
  · rcases e2 with e | e
    · rw [e]; exact r2
    · rw [e]; exact ⟨by simp, r2.2.1, fun i e h => by simp at h⟩
  · rcases e3 with e | e
    · rw [e]; exact r3
    · rw [e]; exact ⟨by simp, r3.2.1, r3.2.2.1, r3.2.2.2.1, r3.2.2.2.2.1, fun i e h => by simp at h⟩
set_option maxRecDepth 100000 in
set_option maxHeartbeats 8000000 in
theorem c_CT_begin {G : xG} {d c : Nat} {K : cV} {σ : xS} (h : cont G σ.1 c K) : xm G d mX2_begin [rf G c] σ (fun v σ' => v = none ∧ cont G σ'.1 c ((K.1.1, K.1.2.1, K.1.2.2.1, 0), [], [], []) ∧ frz σ.1 σ'.1 c 17 ∧ σ'.2 = σ.2) := by
  have h0 := h.obj
  refine xm_at 1 rfl (by decide) (Nat.le_of_ble_eq_true rfl) (by simp [Value.category]) tX2_begin_ok ?_
  try simp only [xlo0, List.map_cons, List.map_nil, List.length_cons, List.length_nil, xrs, xr0, Nat.reduceAdd, Nat.reduceSub, List.cons_append, List.nil_append, List.set_cons_zero, List.set_cons_succ, Option.toList_none, Option.toList_some, nI_1]
  refine xgo 80 rfl ?_
  try simp only [xlo0, List.map_cons, List.map_nil, List.length_cons, List.length_nil, xrs, xr0, Nat.reduceAdd, Nat.reduceSub, List.cons_append, List.nil_append, List.set_cons_zero, List.set_cons_succ, Option.toList_none, Option.toList_some, nI_1]
  refine xp 2 rfl rfl rfl h0 rfl rfl rfl (fun s1 n1 f1 e1 => ?_)
  refine xgo 80 rfl ?_
  try simp only [xlo0, List.map_cons, List.map_nil, List.length_cons, List.length_nil, xrs, xr0, Nat.reduceAdd, Nat.reduceSub, List.cons_append, List.nil_append, List.set_cons_zero, List.set_cons_succ, Option.toList_none, Option.toList_some, nI_1]
  refine xp 2 rfl rfl rfl n1 rfl rfl rfl (fun s2 n2 f2 e2 => ?_)
  refine xgo 80 rfl ?_
  try simp only [xlo0, List.map_cons, List.map_nil, List.length_cons, List.length_nil, xrs, xr0, Nat.reduceAdd, Nat.reduceSub, List.cons_append, List.nil_append, List.set_cons_zero, List.set_cons_succ, Option.toList_none, Option.toList_some, nI_1]
  refine xp 2 rfl rfl rfl n2 rfl rfl rfl (fun s3 n3 f3 e3 => ?_)
  refine xgo 80 rfl ?_
  try simp only [xlo0, List.map_cons, List.map_nil, List.length_cons, List.length_nil, xrs, xr0, Nat.reduceAdd, Nat.reduceSub, List.cons_append, List.nil_append, List.set_cons_zero, List.set_cons_succ, Option.toList_none, Option.toList_some, nI_1]
  refine xp 2 rfl rfl rfl n3 rfl rfl rfl (fun s4 n4 f4 e4 => ?_)
  refine xgo 80 rfl ?_
  try simp only [xlo0, List.map_cons, List.map_nil, List.length_cons, List.length_nil, xrs, xr0, Nat.reduceAdd, Nat.reduceSub, List.cons_append, List.nil_append, List.set_cons_zero, List.set_cons_succ, Option.toList_none, Option.toList_some, nI_1]
  refine xi_ret_v rfl rfl ⟨rfl, h.reobj (fun q hq => by rw [f4 q hq, f3 q hq, f2 q hq, f1 q hq]) n4 (Or.inr rfl) (Or.inr rfl) (Or.inr rfl), fun q hq => by rw [f4 q (by omega), f3 q (by omega), f2 q (by omega), f1 q (by omega)], by rw [e4, e3, e2, e1]⟩
set_option maxRecDepth 100000 in
set_option maxHeartbeats 8000000 in
theorem c_CT_title {G : xG} {d c : Nat} {K : cV} {x y z : Int32} {σ : xS} (h : cont G σ.1 c K) : xm G d mX2_title [rf G c, .int x, .int y, .int z] σ (fun v σ' => v = none ∧ cont G σ'.1 c ((x, y, z, K.1.2.2.2), K.2) ∧ frz σ.1 σ'.1 c 17 ∧ σ'.2 = σ.2) := by
  have h0 := h.obj
  refine xm_at 4 rfl (by decide) (Nat.le_of_ble_eq_true rfl) (by simp [Value.category]) tX2_title_ok ?_
  try simp only [xlo0, List.map_cons, List.map_nil, List.length_cons, List.length_nil, xrs, xr0, Nat.reduceAdd, Nat.reduceSub, List.cons_append, List.nil_append, List.set_cons_zero, List.set_cons_succ, Option.toList_none, Option.toList_some, nI_1]
  refine xgo 80 rfl ?_
  try simp only [xlo0, List.map_cons, List.map_nil, List.length_cons, List.length_nil, xrs, xr0, Nat.reduceAdd, Nat.reduceSub, List.cons_append, List.nil_append, List.set_cons_zero, List.set_cons_succ, Option.toList_none, Option.toList_some, nI_1]
  refine xp 2 rfl rfl rfl h0 rfl rfl rfl (fun s1 n1 f1 e1 => ?_)
  refine xgo 80 rfl ?_
  try simp only [xlo0, List.map_cons, List.map_nil, List.length_cons, List.length_nil, xrs, xr0, Nat.reduceAdd, Nat.reduceSub, List.cons_append, List.nil_append, List.set_cons_zero, List.set_cons_succ, Option.toList_none, Option.toList_some, nI_1]
  refine xp 2 rfl rfl rfl n1 rfl rfl rfl (fun s2 n2 f2 e2 => ?_)
  refine xgo 80 rfl ?_
  try simp only [xlo0, List.map_cons, List.map_nil, List.length_cons, List.length_nil, xrs, xr0, Nat.reduceAdd, Nat.reduceSub, List.cons_append, List.nil_append, List.set_cons_zero, List.set_cons_succ, Option.toList_none, Option.toList_some, nI_1]
  refine xp 2 rfl rfl rfl n2 rfl rfl rfl (fun s3 n3 f3 e3 => ?_)
  refine xgo 80 rfl ?_
  try simp only [xlo0, List.map_cons, List.map_nil, List.length_cons, List.length_nil, xrs, xr0, Nat.reduceAdd, Nat.reduceSub, List.cons_append, List.nil_append, List.set_cons_zero, List.set_cons_succ, Option.toList_none, Option.toList_some, nI_1]
  refine xi_ret_v rfl rfl ⟨rfl, h.reobj (fun q hq => by rw [f3 q hq, f2 q hq, f1 q hq]) n3 (Or.inl rfl) (Or.inl rfl) (Or.inl rfl), fun q hq => by rw [f3 q (by omega), f2 q (by omega), f1 q (by omega)], by rw [e3, e2, e1]⟩
theorem snoc_get {α : Type} {l : List α} {a e : α} {i : Nat} (h : (l ++ [a])[i]? = some e) : (i < l.length ∧ l[i]? = some e) ∨ (i = l.length ∧ e = a) := by
  by_cases hi : i < l.length
  · rw [List.getElem?_append_left hi] at h
    exact Or.inl ⟨hi, h⟩
  · rw [List.getElem?_append_right (by omega)] at h
    by_cases h0 : i = l.length
    · subst h0
      simp at h
      exact Or.inr ⟨rfl, h.symm⟩
    · rw [List.getElem?_eq_none (by simp; omega)] at h
      cases h
theorem set_lt {l : List Int32} {i n : Nat} {x e : Int32} (hi : i < n) (h : l[i]? = some e) : (l.set n x)[i]? = some e := by rw [List.getElem?_set_ne (by omega)]; exact h
theorem set_eq {l : List Int32} {n : Nat} {x : Int32} (hn : n < l.length) : (l.set n x)[n]? = some x := List.getElem?_set_self hn
set_option maxRecDepth 100000 in
set_option maxHeartbeats 8000000 in
theorem c_CT_putSeal {G : xG} {d c : Nat} {K : cV} {x : Int32} {σ : xS} (h : cont G σ.1 c K) (hl : K.2.2.1.length < 4) : xm G d mX2_putSeal [rf G c, .int x] σ (fun v σ' => v = none ∧ cont G σ'.1 c (K.1, K.2.1, K.2.2.1 ++ [x], K.2.2.2) ∧ frz σ.1 σ'.1 c 17 ∧ σ'.2 = σ.2) := by
  obtain ⟨nn, ne, nx, sa, ks, ps, ln, pg, h0, h1, h2, h3, h4, h5, h6, h7, h8, hp, r1, r2, r3⟩ := h
  have hcl : (nI K.2.2.1.length).toNatClampNeg = K.2.2.1.length := nI_clamp (by omega)
  have hsa := r2.2.1
  refine xm_at 2 rfl (by decide) (Nat.le_of_ble_eq_true rfl) (by simp [Value.category]) tX2_putSeal_ok ?_
  try simp only [xlo0, List.map_cons, List.map_nil, List.length_cons, List.length_nil, xrs, xr0, Nat.reduceAdd, Nat.reduceSub, List.cons_append, List.nil_append, List.set_cons_zero, List.set_cons_succ, Option.toList_none, Option.toList_some, nI_1]
  refine xgo 80 rfl ?_
  try simp only [xlo0, List.map_cons, List.map_nil, List.length_cons, List.length_nil, xrs, xr0, Nat.reduceAdd, Nat.reduceSub, List.cons_append, List.nil_append, List.set_cons_zero, List.set_cons_succ, Option.toList_none, Option.toList_some, nI_1]
  refine xg 2 rfl rfl rfl h0 rfl ?_
  refine xgo 80 rfl ?_
  try simp only [xlo0, List.map_cons, List.map_nil, List.length_cons, List.length_nil, xrs, xr0, Nat.reduceAdd, Nat.reduceSub, List.cons_append, List.nil_append, List.set_cons_zero, List.set_cons_succ, Option.toList_none, Option.toList_some, nI_1]
  refine xi_icmpge rfl (fun c1 => ?_) (fun c1 => ?_)
  · exact absurd c1 (by rw [i_le, i_n (by omega)]; have : (4 : Int32).toInt = 4 := rfl; omega)
  refine xgo 80 rfl ?_
  try simp only [xlo0, List.map_cons, List.map_nil, List.length_cons, List.length_nil, xrs, xr0, Nat.reduceAdd, Nat.reduceSub, List.cons_append, List.nil_append, List.set_cons_zero, List.set_cons_succ, Option.toList_none, Option.toList_some, nI_1]
  refine xg 2 rfl rfl rfl h0 rfl ?_
  refine xgo 80 rfl ?_
  try simp only [xlo0, List.map_cons, List.map_nil, List.length_cons, List.length_nil, xrs, xr0, Nat.reduceAdd, Nat.reduceSub, List.cons_append, List.nil_append, List.set_cons_zero, List.set_cons_succ, Option.toList_none, Option.toList_some, nI_1]
  refine xg 2 rfl rfl rfl h0 rfl ?_
  refine xgo 80 rfl ?_
  try simp only [xlo0, List.map_cons, List.map_nil, List.length_cons, List.length_nil, xrs, xr0, Nat.reduceAdd, Nat.reduceSub, List.cons_append, List.nil_append, List.set_cons_zero, List.set_cons_succ, Option.toList_none, Option.toList_some, nI_1]
  refine xsi rfl h4 (nI_pos (by omega)) (by rw [hcl, vi_len]; omega) (fun s1 n1 f1 e1 => ?_)
  have h0 := (f1 _ (by omega)).trans h0
  have h1 := (f1 _ (by omega)).trans h1
  have h2 := (f1 _ (by omega)).trans h2
  have h3 := (f1 _ (by omega)).trans h3
  have h5 := (f1 _ (by omega)).trans h5
  have h6 := (f1 _ (by omega)).trans h6
  have h7 := (f1 _ (by omega)).trans h7
  have h8 := (f1 _ (by omega)).trans h8
  have hp := fun r (hr : r < 8) => (f1 _ (by omega)).trans (hp r hr)
  refine xgo 80 rfl ?_
  try simp only [xlo0, List.map_cons, List.map_nil, List.length_cons, List.length_nil, xrs, xr0, Nat.reduceAdd, Nat.reduceSub, List.cons_append, List.nil_append, List.set_cons_zero, List.set_cons_succ, Option.toList_none, Option.toList_some, nI_1]
  refine xg 2 rfl rfl rfl h0 rfl ?_
  refine xgo 80 rfl ?_
  try simp only [xlo0, List.map_cons, List.map_nil, List.length_cons, List.length_nil, xrs, xr0, Nat.reduceAdd, Nat.reduceSub, List.cons_append, List.nil_append, List.set_cons_zero, List.set_cons_succ, Option.toList_none, Option.toList_some, nI_1]
  refine xp 2 rfl rfl rfl h0 rfl rfl rfl (fun s2 n2 f2 e2 => ?_)
  have h1 := (f2 _ (by omega)).trans h1
  have h2 := (f2 _ (by omega)).trans h2
  have h3 := (f2 _ (by omega)).trans h3
  have n1 := (f2 _ (by omega)).trans n1
  have h5 := (f2 _ (by omega)).trans h5
  have h6 := (f2 _ (by omega)).trans h6
  have h7 := (f2 _ (by omega)).trans h7
  have h8 := (f2 _ (by omega)).trans h8
  have hp := fun r (hr : r < 8) => (f2 _ (by omega)).trans (hp r hr)
  refine xgo 80 rfl ?_
  try simp only [xlo0, List.map_cons, List.map_nil, List.length_cons, List.length_nil, xrs, xr0, Nat.reduceAdd, Nat.reduceSub, List.cons_append, List.nil_append, List.set_cons_zero, List.set_cons_succ, Option.toList_none, Option.toList_some, nI_1]
  refine xi_ret_v rfl rfl ⟨rfl, ⟨nn, ne, nx, sa.set K.2.2.1.length x, ks, ps, ln, pg, by rw [n2]; simp [cobj, nI_1], h1, h2, h3, by rw [n1, hcl, vi_set], h5, h6, h7, h8, hp, r1, ⟨by simp; omega, by simp [hsa], fun i e he => ?_⟩, r3⟩, fun q hq => by rw [f2 q (by omega), f1 q (by omega)], by rw [e2, e1]⟩
  rcases snoc_get he with ⟨q1, q2⟩ | ⟨q1, q2⟩
  · exact set_lt q1 (r2.2.2 i e q2)
  · rw [q1, q2]; exact set_eq (by omega)
set_option maxRecDepth 100000 in
set_option maxHeartbeats 8000000 in
theorem c_CT_putNeed {G : xG} {d c : Nat} {K : cV} {x y z : Int32} {σ : xS} (h : cont G σ.1 c K) (hl : K.2.1.length < 4) (hz : z &&& 1 = z) : xm G d mX2_putNeed [rf G c, .int x, .int y, .int z] σ (fun v σ' => v = none ∧ cont G σ'.1 c (K.1, K.2.1 ++ [(x, y, z)], K.2.2) ∧ frz σ.1 σ'.1 c 17 ∧ σ'.2 = σ.2) := by
  obtain ⟨nn, ne, nx, sa, ks, ps, ln, pg, h0, h1, h2, h3, h4, h5, h6, h7, h8, hp, r1, r2, r3⟩ := h
  have hcl : (nI K.2.1.length).toNatClampNeg = K.2.1.length := nI_clamp (by omega)
  obtain ⟨_, l1, l2, l3, hc⟩ := r1
  refine xm_at 4 rfl (by decide) (Nat.le_of_ble_eq_true rfl) (by simp [Value.category]) tX2_putNeed_ok ?_
  try simp only [xlo0, List.map_cons, List.map_nil, List.length_cons, List.length_nil, xrs, xr0, Nat.reduceAdd, Nat.reduceSub, List.cons_append, List.nil_append, List.set_cons_zero, List.set_cons_succ, Option.toList_none, Option.toList_some, nI_1]
  refine xgo 80 rfl ?_
  try simp only [xlo0, List.map_cons, List.map_nil, List.length_cons, List.length_nil, xrs, xr0, Nat.reduceAdd, Nat.reduceSub, List.cons_append, List.nil_append, List.set_cons_zero, List.set_cons_succ, Option.toList_none, Option.toList_some, nI_1]
  refine xg 2 rfl rfl rfl h0 rfl ?_
  refine xgo 80 rfl ?_
  try simp only [xlo0, List.map_cons, List.map_nil, List.length_cons, List.length_nil, xrs, xr0, Nat.reduceAdd, Nat.reduceSub, List.cons_append, List.nil_append, List.set_cons_zero, List.set_cons_succ, Option.toList_none, Option.toList_some, nI_1]
  refine xi_icmpge rfl (fun c1 => ?_) (fun c1 => ?_)
  · exact absurd c1 (by rw [i_le, i_n (by omega)]; have : (4 : Int32).toInt = 4 := rfl; omega)
  refine xgo 80 rfl ?_
  try simp only [xlo0, List.map_cons, List.map_nil, List.length_cons, List.length_nil, xrs, xr0, Nat.reduceAdd, Nat.reduceSub, List.cons_append, List.nil_append, List.set_cons_zero, List.set_cons_succ, Option.toList_none, Option.toList_some, nI_1]
  refine xg 2 rfl rfl rfl h0 rfl ?_
  refine xgo 80 rfl ?_
  try simp only [xlo0, List.map_cons, List.map_nil, List.length_cons, List.length_nil, xrs, xr0, Nat.reduceAdd, Nat.reduceSub, List.cons_append, List.nil_append, List.set_cons_zero, List.set_cons_succ, Option.toList_none, Option.toList_some, nI_1]
  refine xg 2 rfl rfl rfl h0 rfl ?_
  refine xgo 80 rfl ?_
  try simp only [xlo0, List.map_cons, List.map_nil, List.length_cons, List.length_nil, xrs, xr0, Nat.reduceAdd, Nat.reduceSub, List.cons_append, List.nil_append, List.set_cons_zero, List.set_cons_succ, Option.toList_none, Option.toList_some, nI_1]
  refine xsi rfl h1 (nI_pos (by omega)) (by rw [hcl, vi_len]; omega) (fun s1 n1 f1 e1 => ?_)
  have h0 := (f1 _ (by omega)).trans h0
  have h2 := (f1 _ (by omega)).trans h2
  have h3 := (f1 _ (by omega)).trans h3
  have h4 := (f1 _ (by omega)).trans h4
  have h5 := (f1 _ (by omega)).trans h5
  have h6 := (f1 _ (by omega)).trans h6
  have h7 := (f1 _ (by omega)).trans h7
  have h8 := (f1 _ (by omega)).trans h8
  have hp := fun r (hr : r < 8) => (f1 _ (by omega)).trans (hp r hr)
  refine xgo 80 rfl ?_
  try simp only [xlo0, List.map_cons, List.map_nil, List.length_cons, List.length_nil, xrs, xr0, Nat.reduceAdd, Nat.reduceSub, List.cons_append, List.nil_append, List.set_cons_zero, List.set_cons_succ, Option.toList_none, Option.toList_some, nI_1]
  refine xg 2 rfl rfl rfl h0 rfl ?_
  refine xgo 80 rfl ?_
  try simp only [xlo0, List.map_cons, List.map_nil, List.length_cons, List.length_nil, xrs, xr0, Nat.reduceAdd, Nat.reduceSub, List.cons_append, List.nil_append, List.set_cons_zero, List.set_cons_succ, Option.toList_none, Option.toList_some, nI_1]
  refine xg 2 rfl rfl rfl h0 rfl ?_
  refine xgo 80 rfl ?_
  try simp only [xlo0, List.map_cons, List.map_nil, List.length_cons, List.length_nil, xrs, xr0, Nat.reduceAdd, Nat.reduceSub, List.cons_append, List.nil_append, List.set_cons_zero, List.set_cons_succ, Option.toList_none, Option.toList_some, nI_1]
  refine xsi rfl h2 (nI_pos (by omega)) (by rw [hcl, vi_len]; omega) (fun s2 n2 f2 e2 => ?_)
  have h0 := (f2 _ (by omega)).trans h0
  have n1 := (f2 _ (by omega)).trans n1
  have h3 := (f2 _ (by omega)).trans h3
  have h4 := (f2 _ (by omega)).trans h4
  have h5 := (f2 _ (by omega)).trans h5
  have h6 := (f2 _ (by omega)).trans h6
  have h7 := (f2 _ (by omega)).trans h7
  have h8 := (f2 _ (by omega)).trans h8
  have hp := fun r (hr : r < 8) => (f2 _ (by omega)).trans (hp r hr)
  refine xgo 80 rfl ?_
  try simp only [xlo0, List.map_cons, List.map_nil, List.length_cons, List.length_nil, xrs, xr0, Nat.reduceAdd, Nat.reduceSub, List.cons_append, List.nil_append, List.set_cons_zero, List.set_cons_succ, Option.toList_none, Option.toList_some, nI_1]
  refine xg 2 rfl rfl rfl h0 rfl ?_
  refine xgo 80 rfl ?_
  try simp only [xlo0, List.map_cons, List.map_nil, List.length_cons, List.length_nil, xrs, xr0, Nat.reduceAdd, Nat.reduceSub, List.cons_append, List.nil_append, List.set_cons_zero, List.set_cons_succ, Option.toList_none, Option.toList_some, nI_1]
  refine xg 2 rfl rfl rfl h0 rfl ?_
  refine xgo 80 rfl ?_
  try simp only [xlo0, List.map_cons, List.map_nil, List.length_cons, List.length_nil, xrs, xr0, Nat.reduceAdd, Nat.reduceSub, List.cons_append, List.nil_append, List.set_cons_zero, List.set_cons_succ, Option.toList_none, Option.toList_some, nI_1]
  refine xsz rfl h3 (nI_pos (by omega)) (by rw [hcl, vi_len]; omega) hz (fun s3 n3 f3 e3 => ?_)
  have h0 := (f3 _ (by omega)).trans h0
  have n1 := (f3 _ (by omega)).trans n1
  have n2 := (f3 _ (by omega)).trans n2
  have h4 := (f3 _ (by omega)).trans h4
  have h5 := (f3 _ (by omega)).trans h5
  have h6 := (f3 _ (by omega)).trans h6
  have h7 := (f3 _ (by omega)).trans h7
  have h8 := (f3 _ (by omega)).trans h8
  have hp := fun r (hr : r < 8) => (f3 _ (by omega)).trans (hp r hr)
  refine xgo 80 rfl ?_
  try simp only [xlo0, List.map_cons, List.map_nil, List.length_cons, List.length_nil, xrs, xr0, Nat.reduceAdd, Nat.reduceSub, List.cons_append, List.nil_append, List.set_cons_zero, List.set_cons_succ, Option.toList_none, Option.toList_some, nI_1]
  refine xg 2 rfl rfl rfl h0 rfl ?_
  refine xgo 80 rfl ?_
  try simp only [xlo0, List.map_cons, List.map_nil, List.length_cons, List.length_nil, xrs, xr0, Nat.reduceAdd, Nat.reduceSub, List.cons_append, List.nil_append, List.set_cons_zero, List.set_cons_succ, Option.toList_none, Option.toList_some, nI_1]
  refine xp 2 rfl rfl rfl h0 rfl rfl rfl (fun s4 n4 f4 e4 => ?_)
  have n1 := (f4 _ (by omega)).trans n1
  have n2 := (f4 _ (by omega)).trans n2
  have n3 := (f4 _ (by omega)).trans n3
  have h4 := (f4 _ (by omega)).trans h4
  have h5 := (f4 _ (by omega)).trans h5
  have h6 := (f4 _ (by omega)).trans h6
  have h7 := (f4 _ (by omega)).trans h7
  have h8 := (f4 _ (by omega)).trans h8
  have hp := fun r (hr : r < 8) => (f4 _ (by omega)).trans (hp r hr)
  refine xgo 80 rfl ?_
  try simp only [xlo0, List.map_cons, List.map_nil, List.length_cons, List.length_nil, xrs, xr0, Nat.reduceAdd, Nat.reduceSub, List.cons_append, List.nil_append, List.set_cons_zero, List.set_cons_succ, Option.toList_none, Option.toList_some, nI_1]
  refine xi_ret_v rfl rfl ⟨rfl, ⟨nn.set K.2.1.length x, ne.set K.2.1.length y, nx.set K.2.1.length z, sa, ks, ps, ln, pg, by rw [n4]; simp [cobj, nI_1], by rw [n1, hcl, vi_set], by rw [n2, hcl, vi_set], by rw [n3, hcl, vi_set], h4, h5, h6, h7, h8, hp, ⟨by simp; omega, by simp [l1], by simp [l2], by simp [l3], fun i e he => ?_⟩, r2, r3⟩, fun q hq => by rw [f4 q (by omega), f3 q (by omega), f2 q (by omega), f1 q (by omega)], by rw [e4, e3, e2, e1]⟩
  rcases snoc_get he with ⟨q1, q2⟩ | ⟨q1, q2⟩
  · obtain ⟨a1, a2, a3⟩ := hc i e q2
    exact ⟨set_lt q1 a1, set_lt q1 a2, set_lt q1 a3⟩
  · rw [q1, q2]; exact ⟨set_eq (by omega), set_eq (by omega), set_eq (by omega)⟩
set_option maxRecDepth 100000 in
set_option maxHeartbeats 8000000 in
theorem c_CT_putRow {G : xG} {d c : Nat} {K : cV} {x y : Int32} {σ : xS} (h : cont G σ.1 c K) (hl : K.2.2.2.length < 8) : xm G d mX2_putRow [rf G c, .int x, .int y] σ (fun v σ' => v = none ∧ cont G σ'.1 c (K.1, K.2.1, K.2.2.1, K.2.2.2 ++ [(x, y, [])]) ∧ frz σ.1 σ'.1 c 17 ∧ σ'.2 = σ.2) := by
  obtain ⟨nn, ne, nx, sa, ks, ps, ln, pg, h0, h1, h2, h3, h4, h5, h6, h7, h8, hp, r1, r2, r3⟩ := h
  have hcl : (nI K.2.2.2.length).toNatClampNeg = K.2.2.2.length := nI_clamp (by omega)
  obtain ⟨_, l1, l2, l3, lp, hc⟩ := r3
  refine xm_at 3 rfl (by decide) (Nat.le_of_ble_eq_true rfl) (by simp [Value.category]) tX2_putRow_ok ?_
  try simp only [xlo0, List.map_cons, List.map_nil, List.length_cons, List.length_nil, xrs, xr0, Nat.reduceAdd, Nat.reduceSub, List.cons_append, List.nil_append, List.set_cons_zero, List.set_cons_succ, Option.toList_none, Option.toList_some, nI_1]
  refine xgo 80 rfl ?_
  try simp only [xlo0, List.map_cons, List.map_nil, List.length_cons, List.length_nil, xrs, xr0, Nat.reduceAdd, Nat.reduceSub, List.cons_append, List.nil_append, List.set_cons_zero, List.set_cons_succ, Option.toList_none, Option.toList_some, nI_1]
  refine xg 2 rfl rfl rfl h0 rfl ?_
  refine xgo 80 rfl ?_
  try simp only [xlo0, List.map_cons, List.map_nil, List.length_cons, List.length_nil, xrs, xr0, Nat.reduceAdd, Nat.reduceSub, List.cons_append, List.nil_append, List.set_cons_zero, List.set_cons_succ, Option.toList_none, Option.toList_some, nI_1]
  refine xi_icmpge rfl (fun c1 => ?_) (fun c1 => ?_)
  · exact absurd c1 (by rw [i_le, i_n (by omega)]; have : (8 : Int32).toInt = 8 := rfl; omega)
  refine xgo 80 rfl ?_
  try simp only [xlo0, List.map_cons, List.map_nil, List.length_cons, List.length_nil, xrs, xr0, Nat.reduceAdd, Nat.reduceSub, List.cons_append, List.nil_append, List.set_cons_zero, List.set_cons_succ, Option.toList_none, Option.toList_some, nI_1]
  refine xg 2 rfl rfl rfl h0 rfl ?_
  refine xgo 80 rfl ?_
  try simp only [xlo0, List.map_cons, List.map_nil, List.length_cons, List.length_nil, xrs, xr0, Nat.reduceAdd, Nat.reduceSub, List.cons_append, List.nil_append, List.set_cons_zero, List.set_cons_succ, Option.toList_none, Option.toList_some, nI_1]
  refine xg 2 rfl rfl rfl h0 rfl ?_
  refine xgo 80 rfl ?_
  try simp only [xlo0, List.map_cons, List.map_nil, List.length_cons, List.length_nil, xrs, xr0, Nat.reduceAdd, Nat.reduceSub, List.cons_append, List.nil_append, List.set_cons_zero, List.set_cons_succ, Option.toList_none, Option.toList_some, nI_1]
  refine xsi rfl h5 (nI_pos (by omega)) (by rw [hcl, vi_len]; omega) (fun s1 n1 f1 e1 => ?_)
  have h0 := (f1 _ (by omega)).trans h0
  have h1 := (f1 _ (by omega)).trans h1
  have h2 := (f1 _ (by omega)).trans h2
  have h3 := (f1 _ (by omega)).trans h3
  have h4 := (f1 _ (by omega)).trans h4
  have h6 := (f1 _ (by omega)).trans h6
  have h7 := (f1 _ (by omega)).trans h7
  have h8 := (f1 _ (by omega)).trans h8
  have hp := fun r (hr : r < 8) => (f1 _ (by omega)).trans (hp r hr)
  refine xgo 80 rfl ?_
  try simp only [xlo0, List.map_cons, List.map_nil, List.length_cons, List.length_nil, xrs, xr0, Nat.reduceAdd, Nat.reduceSub, List.cons_append, List.nil_append, List.set_cons_zero, List.set_cons_succ, Option.toList_none, Option.toList_some, nI_1]
  refine xg 2 rfl rfl rfl h0 rfl ?_
  refine xgo 80 rfl ?_
  try simp only [xlo0, List.map_cons, List.map_nil, List.length_cons, List.length_nil, xrs, xr0, Nat.reduceAdd, Nat.reduceSub, List.cons_append, List.nil_append, List.set_cons_zero, List.set_cons_succ, Option.toList_none, Option.toList_some, nI_1]
  refine xg 2 rfl rfl rfl h0 rfl ?_
  refine xgo 80 rfl ?_
  try simp only [xlo0, List.map_cons, List.map_nil, List.length_cons, List.length_nil, xrs, xr0, Nat.reduceAdd, Nat.reduceSub, List.cons_append, List.nil_append, List.set_cons_zero, List.set_cons_succ, Option.toList_none, Option.toList_some, nI_1]
  refine xsi rfl h6 (nI_pos (by omega)) (by rw [hcl, vi_len]; omega) (fun s2 n2 f2 e2 => ?_)
  have h0 := (f2 _ (by omega)).trans h0
  have h1 := (f2 _ (by omega)).trans h1
  have h2 := (f2 _ (by omega)).trans h2
  have h3 := (f2 _ (by omega)).trans h3
  have h4 := (f2 _ (by omega)).trans h4
  have n1 := (f2 _ (by omega)).trans n1
  have h7 := (f2 _ (by omega)).trans h7
  have h8 := (f2 _ (by omega)).trans h8
  have hp := fun r (hr : r < 8) => (f2 _ (by omega)).trans (hp r hr)
  refine xgo 80 rfl ?_
  try simp only [xlo0, List.map_cons, List.map_nil, List.length_cons, List.length_nil, xrs, xr0, Nat.reduceAdd, Nat.reduceSub, List.cons_append, List.nil_append, List.set_cons_zero, List.set_cons_succ, Option.toList_none, Option.toList_some, nI_1]
  refine xg 2 rfl rfl rfl h0 rfl ?_
  refine xgo 80 rfl ?_
  try simp only [xlo0, List.map_cons, List.map_nil, List.length_cons, List.length_nil, xrs, xr0, Nat.reduceAdd, Nat.reduceSub, List.cons_append, List.nil_append, List.set_cons_zero, List.set_cons_succ, Option.toList_none, Option.toList_some, nI_1]
  refine xg 2 rfl rfl rfl h0 rfl ?_
  refine xgo 80 rfl ?_
  try simp only [xlo0, List.map_cons, List.map_nil, List.length_cons, List.length_nil, xrs, xr0, Nat.reduceAdd, Nat.reduceSub, List.cons_append, List.nil_append, List.set_cons_zero, List.set_cons_succ, Option.toList_none, Option.toList_some, nI_1]
  refine xsi rfl h7 (nI_pos (by omega)) (by rw [hcl, vi_len]; omega) (fun s3 n3 f3 e3 => ?_)
  have h0 := (f3 _ (by omega)).trans h0
  have h1 := (f3 _ (by omega)).trans h1
  have h2 := (f3 _ (by omega)).trans h2
  have h3 := (f3 _ (by omega)).trans h3
  have h4 := (f3 _ (by omega)).trans h4
  have n1 := (f3 _ (by omega)).trans n1
  have n2 := (f3 _ (by omega)).trans n2
  have h8 := (f3 _ (by omega)).trans h8
  have hp := fun r (hr : r < 8) => (f3 _ (by omega)).trans (hp r hr)
  refine xgo 80 rfl ?_
  try simp only [xlo0, List.map_cons, List.map_nil, List.length_cons, List.length_nil, xrs, xr0, Nat.reduceAdd, Nat.reduceSub, List.cons_append, List.nil_append, List.set_cons_zero, List.set_cons_succ, Option.toList_none, Option.toList_some, nI_1]
  refine xg 2 rfl rfl rfl h0 rfl ?_
  refine xgo 80 rfl ?_
  try simp only [xlo0, List.map_cons, List.map_nil, List.length_cons, List.length_nil, xrs, xr0, Nat.reduceAdd, Nat.reduceSub, List.cons_append, List.nil_append, List.set_cons_zero, List.set_cons_succ, Option.toList_none, Option.toList_some, nI_1]
  refine xp 2 rfl rfl rfl h0 rfl rfl rfl (fun s4 n4 f4 e4 => ?_)
  have h1 := (f4 _ (by omega)).trans h1
  have h2 := (f4 _ (by omega)).trans h2
  have h3 := (f4 _ (by omega)).trans h3
  have h4 := (f4 _ (by omega)).trans h4
  have n1 := (f4 _ (by omega)).trans n1
  have n2 := (f4 _ (by omega)).trans n2
  have n3 := (f4 _ (by omega)).trans n3
  have h8 := (f4 _ (by omega)).trans h8
  have hp := fun r (hr : r < 8) => (f4 _ (by omega)).trans (hp r hr)
  refine xgo 80 rfl ?_
  try simp only [xlo0, List.map_cons, List.map_nil, List.length_cons, List.length_nil, xrs, xr0, Nat.reduceAdd, Nat.reduceSub, List.cons_append, List.nil_append, List.set_cons_zero, List.set_cons_succ, Option.toList_none, Option.toList_some, nI_1]
  refine xi_ret_v rfl rfl ⟨rfl, ⟨nn, ne, nx, sa, ks.set K.2.2.2.length x, ps.set K.2.2.2.length y, ln.set K.2.2.2.length 0, pg, by rw [n4]; simp [cobj, nI_1], h1, h2, h3, h4, by rw [n1, hcl, vi_set], by rw [n2, hcl, vi_set], by rw [n3, hcl, vi_set], h8, hp, r1, r2, ⟨by simp; omega, by simp [l1], by simp [l2], by simp [l3], lp, fun i e he => ?_⟩⟩, fun q hq => by rw [f4 q (by omega), f3 q (by omega), f2 q (by omega), f1 q (by omega)], by rw [e4, e3, e2, e1]⟩
  rcases snoc_get he with ⟨q1, q2⟩ | ⟨q1, q2⟩
  · obtain ⟨a1, a2, a3, a4, a5⟩ := hc i e q2
    exact ⟨set_lt q1 a1, set_lt q1 a2, set_lt q1 a3, a4, a5⟩
  · rw [q1, q2]; exact ⟨set_eq (by omega), set_eq (by omega), set_eq (by omega), by simp, by simp⟩
