theorem pw.keepAll {G : xG} {σ σ' : xS} {own : Nat → Nat} {rc : Nat} {Z : pZ} (H : pw G σ own rc Z) (f : ∀ q, q < σ.2.1 → σ'.1 q = σ.1 q) (hn : σ.2.1 ≤ σ'.2.1) : pw G σ' own rc Z := by
  obtain ⟨a0, a1, a2, ⟨bs, a3⟩, a4, a5, ⟨bw, sz, mb, ml, a6⟩, a7, a8, ⟨st, a9⟩, a10⟩ := H
  have h0 := a10.1
  have ho := a10.2
  refine ⟨(f _ (by omega)).trans a0, a1.keepQ (fun q _ _ => f q (by omega)), a2.keep (fun _ _ => rfl) (fun q hq => f q (by have := ho q; omega)), ⟨bs, a3.keepQ (fun q _ _ => f q (by omega))⟩, a4.keepQ (fun q _ _ => f q (by omega)), a5.keep (fun _ _ => rfl) (fun q hq => f q (by have := ho q; omega)), ⟨bw, sz, mb, ml, a6.keepQ (fun q _ _ => f q (by omega))⟩, a7.keep (fun _ _ => rfl) (fun q hq => f q (by have := ho q; omega)), a8.keep (fun _ _ => rfl) (fun q hq => f q (by have := ho q; omega)), ⟨st, a9.keepQ (fun q _ _ => f q (by omega))⟩, by omega, fun q hq => ⟨(ho q hq).1, by have := ho q hq; omega⟩⟩
theorem tw_take {α : Type} {p : α → Bool} : ∀ (l : List α) (j : Nat), (∀ i x, i < j → l[i]? = some x → p x = true) → (j = l.length ∨ ∃ x, l[j]? = some x ∧ p x = false) → l.takeWhile p = l.take j
  | [], j, _, _ => by simp
  | a :: l, 0, _, h2 => by
    rcases h2 with h | ⟨x, h, hp⟩
    · simp at h
    · have e : a = x := by simpa using h
      subst e
      simp [List.takeWhile, hp]
  | a :: l, j + 1, h1, h2 => by
    have hp := h1 0 a (by omega) rfl
    rw [List.takeWhile_cons, if_pos hp, List.take_succ_cons]
    congr 1
    refine tw_take l j (fun i x hi hx => h1 (i + 1) x (by omega) (by simpa using hx)) ?_
    rcases h2 with h | ⟨x, h, hq⟩
    · left; simpa using h
    · right; exact ⟨x, by simpa using h, hq⟩
theorem tw_mem {α : Type} {p : α → Bool} : ∀ (l : List α) (j : Nat) (y : α), (∀ i x, i < j → l[i]? = some x → p x = true) → l[j]? = some y → p y = true → y ∈ l.takeWhile p
  | [], j, y, _, h, _ => by simp at h
  | a :: l, 0, y, _, h, hp => by
    have e : a = y := by simpa using h
    subst e
    simp [List.takeWhile, hp]
  | a :: l, j + 1, y, h1, h, hp => by
    have ha := h1 0 a (by omega) rfl
    rw [List.takeWhile_cons, if_pos ha]
    exact List.mem_cons_of_mem _ (tw_mem l j y (fun i x hi hx => h1 (i + 1) x (by omega) (by simpa using hx)) (by simpa using h) hp)
def gvn (g : List Int32) : List Int32 := g.takeWhile (fun x => !(x == -1))
def F_add (g : List Int32) (Z : pZ) : Int32 × pZ := if (gvn g).any (fun x => !decide (blw x 256)) then (-1, Z) else if ¬ (Z.2.1 = true ∧ 0 < Z.1.2.2.2.length) then (-2, Z) else if 120 < (lastB Z.1).length + (gvn g).length then (-3, Z) else (nI ((lastB Z.1).length + (gvn g).length), setB Z.1 (lastB Z.1 ++ gvn g), Z.2)
set_option maxRecDepth 100000 in
set_option maxHeartbeats 8000000 in
theorem l_PP_add2 {G : xG} {d rc k r m : Nat} {own : Nat → Nat} {x1 x2 x3 x4 x5 : Int32} {g : List Int32} {e : Int32 × Int32 × List Int32} {Z : pZ} {σ σ0 : xS} (h : pw G σ own rc Z) (hm : mk σ0 σ) (hg : σ.1 k = some (11, vi g)) (hk : 18 ≤ k) (hr : r = Z.1.2.2.2.length - 1) (he : Z.1.2.2.2[r]? = some e) (hmg : m ≤ g.length) (hm5 : m ≤ 5) (hl : e.2.2.length + m ≤ 120) : ∀ (n j : Nat) (s : xS), j + n = m → cont G s.1 1 (Z.1.1, Z.1.2.1, Z.1.2.2.1, rset Z.1.2.2.2 r (e.2.2 ++ g.take j)) → frz σ.1 s.1 1 17 → s.2 = σ.2 →
    xw G (d + 20) mX8_add 113 [some (rf G 0), some (.int x1), some (.int x2), some (.int x3), some (.int x4), some (.int x5), some (rf G k), some (.int (nI m)), some (.int (nI r)), some (.int (nI j))] [] s (ppost G σ0 (nI (e.2.2.length + m), setB Z.1 (e.2.2 ++ g.take m), Z.2)) := by
  have hb := h.2.1.bnd
  intro n
  induction n with
  | zero =>
    intro j s hj h1 hf h2
    have : j = m := by omega
    subst this
    have hp := h.sheet1 hf h2 h1
    refine xgo 80 rfl ?_
    try simp only [xlo0, List.map_cons, List.map_nil, List.length_cons, List.length_nil, xrs, xr0, Nat.reduceAdd, Nat.reduceSub, List.cons_append, List.nil_append, List.set_cons_zero, List.set_cons_succ, Option.toList_none, Option.toList_some, nI_1]
    refine xi_icmpge rfl (fun c => ?_) (fun c => ?_)
    · refine xgo 80 rfl ?_
      try simp only [xlo0, List.map_cons, List.map_nil, List.length_cons, List.length_nil, xrs, xr0, Nat.reduceAdd, Nat.reduceSub, List.cons_append, List.nil_append, List.set_cons_zero, List.set_cons_succ, Option.toList_none, Option.toList_some, nI_1]
      refine xg 8 rfl rfl rfl hp.1.obj rfl ?_
      refine xgo 80 rfl ?_
      try simp only [xlo0, List.map_cons, List.map_nil, List.length_cons, List.length_nil, xrs, xr0, Nat.reduceAdd, Nat.reduceSub, List.cons_append, List.nil_append, List.set_cons_zero, List.set_cons_succ, Option.toList_none, Option.toList_some, nI_1]
      refine xcV 8 rfl rfl rfl (c_CT_pageLength h1) rfl kX2_pageLength iX2_pageLength h1.obj ⟨_, rfl, rfl⟩ rfl rfl (Nat.le_of_ble_eq_true rfl) (fun v1 s1 q1 => ?_)
      obtain ⟨rfl, rfl⟩ := q1
      have hL : rby (rset Z.1.2.2.2 r (e.2.2 ++ g.take j)) (nI r) = e.2.2 ++ g.take j := rby_n (rset_get he _) (by omega)
      rw [hL, List.length_append, List.length_take, Nat.min_eq_left hmg]
      refine xgo 80 rfl ?_
      try simp only [xlo0, List.map_cons, List.map_nil, List.length_cons, List.length_nil, xrs, xr0, Nat.reduceAdd, Nat.reduceSub, List.cons_append, List.nil_append, List.set_cons_zero, List.set_cons_succ, Option.toList_none, Option.toList_some, nI_1]
      refine xi_ret_i rfl rfl rfl ⟨rfl, ⟨own, rc, by rw [hr] at hp; exact hp.1⟩, fun q a1 a2 => (hp.2.1 q a1 a2).trans (hm.1 q a1 a2), by rw [h2]; exact hm.2.1, by rw [h2]; exact hm.2.2.1, by rw [h2]; exact hm.2.2.2⟩
    · exact absurd (i_le.mpr (Int.le_refl _)) c
  | succ n ih =>
    intro j s hj h1 hf h2
    have hp := h.sheet1 hf h2 h1
    obtain ⟨b, hbj⟩ := lt_get (l := g) (j := j) (by omega)
    have hcl : (nI j).toNatClampNeg = j := nI_clamp (by omega)
    refine xgo 80 rfl ?_
    try simp only [xlo0, List.map_cons, List.map_nil, List.length_cons, List.length_nil, xrs, xr0, Nat.reduceAdd, Nat.reduceSub, List.cons_append, List.nil_append, List.set_cons_zero, List.set_cons_succ, Option.toList_none, Option.toList_some, nI_1]
    refine xi_icmpge rfl (fun c => ?_) (fun c => ?_)
    · exact absurd c (by rw [i_le, i_n (by omega), i_n (by omega)]; omega)
    refine xgo 80 rfl ?_
    try simp only [xlo0, List.map_cons, List.map_nil, List.length_cons, List.length_nil, xrs, xr0, Nat.reduceAdd, Nat.reduceSub, List.cons_append, List.nil_append, List.set_cons_zero, List.set_cons_succ, Option.toList_none, Option.toList_some, nI_1]
    refine xg 8 rfl rfl rfl hp.1.obj rfl ?_
    refine xgo 80 rfl ?_
    try simp only [xlo0, List.map_cons, List.map_nil, List.length_cons, List.length_nil, xrs, xr0, Nat.reduceAdd, Nat.reduceSub, List.cons_append, List.nil_append, List.set_cons_zero, List.set_cons_succ, Option.toList_none, Option.toList_some, nI_1]
    refine xi_iald rfl ((hf k (by omega)).trans hg) (nI_pos (by omega)) (by rw [hcl]; exact vi_get hbj) ?_
    refine xgo 80 rfl ?_
    try simp only [xlo0, List.map_cons, List.map_nil, List.length_cons, List.length_nil, xrs, xr0, Nat.reduceAdd, Nat.reduceSub, List.cons_append, List.nil_append, List.set_cons_zero, List.set_cons_succ, Option.toList_none, Option.toList_some, nI_1]
    refine xcV 8 rfl rfl rfl (c_CT_putByte (r := r) h1 (rset_get he _) (by simp only [List.length_append, List.length_take]; omega)) rfl kX2_putByte iX2_putByte h1.obj ⟨_, rfl, rfl⟩ rfl rfl (Nat.le_of_ble_eq_true rfl) (fun v1 s1 q1 => ?_)
    obtain ⟨rfl, p1, p2, p3⟩ := q1
    refine xto 113 80 rfl ?_
    try simp only [xlo0, List.map_cons, List.map_nil, List.length_cons, List.length_nil, xrs, xr0, Nat.reduceAdd, Nat.reduceSub, List.cons_append, List.nil_append, List.set_cons_zero, List.set_cons_succ, Option.toList_none, Option.toList_some, nI_1]
    refine ih (j + 1) s1 (by omega) ?_ (hf.tr p2) (p3.trans h2)
    simp only [rset_set] at p1
    rw [List.take_succ, hbj]
    simpa using p1
set_option maxRecDepth 100000 in
set_option maxHeartbeats 8000000 in
theorem l_PP_add1 {G : xG} {d rc k : Nat} {own : Nat → Nat} {x1 x2 x3 x4 x5 : Int32} {g : List Int32} {Z : pZ} {σ σ0 : xS} (h : pw G σ own rc Z) (hm : mk σ0 σ) (hg : σ.1 k = some (11, vi g)) (hk : 18 ≤ k) (h5 : g.length = 5) : ∀ (n j : Nat), j + n = 5 → (∀ i x, i < j → g[i]? = some x → (!(x == -1)) = true ∧ blw x 256) →
    xw G (d + 20) mX8_add 30 [some (rf G 0), some (.int x1), some (.int x2), some (.int x3), some (.int x4), some (.int x5), some (rf G k), some (.int (nI j)), none, none] [] σ (ppost G σ0 (F_add g Z)) := by
  have hb := h.2.1.bnd
  have go : ∀ j, j ≤ 5 → (∀ i x, i < j → g[i]? = some x → (!(x == -1)) = true ∧ blw x 256) → (j = g.length ∨ ∃ x, g[j]? = some x ∧ (!(x == -1)) = false) → xw G (d + 20) mX8_add 69 [some (rf G 0), some (.int x1), some (.int x2), some (.int x3), some (.int x4), some (.int x5), some (rf G k), some (.int (nI j)), none, none] [] σ (ppost G σ0 (F_add g Z)) := by
    intro j hj5 hall hend
    have hgv : gvn g = g.take j := tw_take g j (fun i x hi hx => (hall i x hi hx).1) hend
    have hany : (g.take j).any (fun x => !decide (blw x 256)) = false := by
      apply any_f
      intro i x hi hx
      rw [List.getElem?_take] at hx
      split at hx
      next hij => have := (hall i x hij hx).2; simpa using this
      next => cases hx
    have hF : F_add g Z = if ¬ (Z.2.1 = true ∧ 0 < Z.1.2.2.2.length) then (-2, Z) else if 120 < (lastB Z.1).length + j then (-3, Z) else (nI ((lastB Z.1).length + j), setB Z.1 (lastB Z.1 ++ g.take j), Z.2) := by
      unfold F_add
      rw [hgv, hany, List.length_take, Nat.min_eq_left (by omega)]
      rfl
    rw [hF]
    have same : ∀ z, ppost G σ0 (z, Z) (some (.int z)) σ := fun z => ⟨rfl, ⟨own, rc, h⟩, hm⟩
    refine xgo 80 rfl ?_
    try simp only [xlo0, List.map_cons, List.map_nil, List.length_cons, List.length_nil, xrs, xr0, Nat.reduceAdd, Nat.reduceSub, List.cons_append, List.nil_append, List.set_cons_zero, List.set_cons_succ, Option.toList_none, Option.toList_some, nI_1]
    refine xcV 8 rfl rfl rfl (c_PP_hasRow h) rfl kX8_hasRowInDraft iX8_hasRowInDraft h.obj ⟨_, rfl, rfl⟩ rfl rfl (Nat.le_of_ble_eq_true rfl) (fun v1 s1 q1 => ?_)
    obtain ⟨rfl, rfl⟩ := q1
    refine xgo 80 rfl ?_
    try simp only [xlo0, List.map_cons, List.map_nil, List.length_cons, List.length_nil, xrs, xr0, Nat.reduceAdd, Nat.reduceSub, List.cons_append, List.nil_append, List.set_cons_zero, List.set_cons_succ, Option.toList_none, Option.toList_some, nI_1]
    refine xi_ifne rfl (fun c5 => ?_) (fun c5 => ?_)
    · simp only [one_z, Classical.not_not] at c5
      rw [if_neg (fun hc => hc c5)]
      obtain ⟨e, he⟩ := lt_get (l := Z.1.2.2.2) (j := Z.1.2.2.2.length - 1) (by omega)
      have hlast : lastB Z.1 = e.2.2 := rby_n he (by omega)
      have hel := h.2.1.row he
      have hs1 : nI Z.1.2.2.2.length - 1 = nI (Z.1.2.2.2.length - 1) := nI_subN (b := 1) (by omega)
      refine xgo 80 rfl ?_
      try simp only [xlo0, List.map_cons, List.map_nil, List.length_cons, List.length_nil, xrs, xr0, Nat.reduceAdd, Nat.reduceSub, List.cons_append, List.nil_append, List.set_cons_zero, List.set_cons_succ, Option.toList_none, Option.toList_some, nI_1]
      refine xg 8 rfl rfl rfl h.obj rfl ?_
      refine xgo 80 rfl ?_
      try simp only [xlo0, List.map_cons, List.map_nil, List.length_cons, List.length_nil, xrs, xr0, Nat.reduceAdd, Nat.reduceSub, List.cons_append, List.nil_append, List.set_cons_zero, List.set_cons_succ, Option.toList_none, Option.toList_some, nI_1]
      refine xg 8 rfl rfl rfl h.2.1.obj rfl ?_
      refine xgo 80 rfl ?_
      try simp only [xlo0, List.map_cons, List.map_nil, List.length_cons, List.length_nil, xrs, xr0, Nat.reduceAdd, Nat.reduceSub, List.cons_append, List.nil_append, List.set_cons_zero, List.set_cons_succ, Option.toList_none, Option.toList_some, nI_1]
      rw [hs1]
      refine xgo 80 rfl ?_
      try simp only [xlo0, List.map_cons, List.map_nil, List.length_cons, List.length_nil, xrs, xr0, Nat.reduceAdd, Nat.reduceSub, List.cons_append, List.nil_append, List.set_cons_zero, List.set_cons_succ, Option.toList_none, Option.toList_some, nI_1]
      refine xg 8 rfl rfl rfl h.obj rfl ?_
      refine xgo 80 rfl ?_
      try simp only [xlo0, List.map_cons, List.map_nil, List.length_cons, List.length_nil, xrs, xr0, Nat.reduceAdd, Nat.reduceSub, List.cons_append, List.nil_append, List.set_cons_zero, List.set_cons_succ, Option.toList_none, Option.toList_some, nI_1]
      refine xcV 8 rfl rfl rfl (c_CT_pageLength h.2.1) rfl kX2_pageLength iX2_pageLength h.2.1.obj ⟨_, rfl, rfl⟩ rfl rfl (Nat.le_of_ble_eq_true rfl) (fun v2 s2 q2 => ?_)
      obtain ⟨rfl, rfl⟩ := q2
      have hl2 : (rby Z.1.2.2.2 (nI (Z.1.2.2.2.length - 1))) = lastB Z.1 := rfl
      rw [hl2, hlast]
      refine xgo 80 rfl ?_
      try simp only [xlo0, List.map_cons, List.map_nil, List.length_cons, List.length_nil, xrs, xr0, Nat.reduceAdd, Nat.reduceSub, List.cons_append, List.nil_append, List.set_cons_zero, List.set_cons_succ, Option.toList_none, Option.toList_some, nI_1]
      rw [nI_addN]
      refine xgo 80 rfl ?_
      try simp only [xlo0, List.map_cons, List.map_nil, List.length_cons, List.length_nil, xrs, xr0, Nat.reduceAdd, Nat.reduceSub, List.cons_append, List.nil_append, List.set_cons_zero, List.set_cons_succ, Option.toList_none, Option.toList_some, nI_1]
      refine xi_icmple rfl (fun c7 => ?_) (fun c7 => ?_)
      · rw [i_le, i_n (by omega)] at c7
        have z120 : (120 : Int32).toInt = 120 := rfl
        rw [if_neg (by omega)]
        refine xto 113 80 rfl ?_
        try simp only [xlo0, List.map_cons, List.map_nil, List.length_cons, List.length_nil, xrs, xr0, Nat.reduceAdd, Nat.reduceSub, List.cons_append, List.nil_append, List.set_cons_zero, List.set_cons_succ, Option.toList_none, Option.toList_some, nI_1]
        refine l_PP_add2 (m := j) h hm hg hk rfl he (by omega) hj5 (by omega) j 0 s2 (by omega) ?_ frz.rf rfl
        rw [List.take_zero, List.append_nil, rset_self he]
        exact h.2.1
      · rw [i_le, i_n (by omega)] at c7
        have z120 : (120 : Int32).toInt = 120 := rfl
        rw [if_pos (by omega)]
        refine xgo 80 rfl ?_
        try simp only [xlo0, List.map_cons, List.map_nil, List.length_cons, List.length_nil, xrs, xr0, Nat.reduceAdd, Nat.reduceSub, List.cons_append, List.nil_append, List.set_cons_zero, List.set_cons_succ, Option.toList_none, Option.toList_some, nI_1]
        refine xi_ret_i rfl rfl rfl (same _)
    · simp only [one_z] at c5
      rw [if_pos c5]
      refine xgo 80 rfl ?_
      try simp only [xlo0, List.map_cons, List.map_nil, List.length_cons, List.length_nil, xrs, xr0, Nat.reduceAdd, Nat.reduceSub, List.cons_append, List.nil_append, List.set_cons_zero, List.set_cons_succ, Option.toList_none, Option.toList_some, nI_1]
      refine xi_ret_i rfl rfl rfl (same _)
  intro n
  induction n with
  | zero =>
    intro j hj hall
    have : j = 5 := by omega
    subst this
    refine xgo 80 rfl ?_
    try simp only [xlo0, List.map_cons, List.map_nil, List.length_cons, List.length_nil, xrs, xr0, Nat.reduceAdd, Nat.reduceSub, List.cons_append, List.nil_append, List.set_cons_zero, List.set_cons_succ, Option.toList_none, Option.toList_some, nI_1]
    refine xi_alen rfl hg (by decide) (by rw [vi_len, h5]) ?_
    refine xgo 80 rfl ?_
    try simp only [xlo0, List.map_cons, List.map_nil, List.length_cons, List.length_nil, xrs, xr0, Nat.reduceAdd, Nat.reduceSub, List.cons_append, List.nil_append, List.set_cons_zero, List.set_cons_succ, Option.toList_none, Option.toList_some, nI_1]
    refine xi_icmpge rfl (fun c => ?_) (fun c => ?_)
    · exact go 5 (by omega) hall (Or.inl h5.symm)
    · exact absurd c (by decide)
  | succ n ih =>
    intro j hj hall
    obtain ⟨b, hbj⟩ := lt_get (l := g) (j := j) (by omega)
    have hcl : (nI j).toNatClampNeg = j := nI_clamp (by omega)
    refine xgo 80 rfl ?_
    try simp only [xlo0, List.map_cons, List.map_nil, List.length_cons, List.length_nil, xrs, xr0, Nat.reduceAdd, Nat.reduceSub, List.cons_append, List.nil_append, List.set_cons_zero, List.set_cons_succ, Option.toList_none, Option.toList_some, nI_1]
    refine xi_alen rfl hg (by decide) (by rw [vi_len, h5]) ?_
    refine xgo 80 rfl ?_
    try simp only [xlo0, List.map_cons, List.map_nil, List.length_cons, List.length_nil, xrs, xr0, Nat.reduceAdd, Nat.reduceSub, List.cons_append, List.nil_append, List.set_cons_zero, List.set_cons_succ, Option.toList_none, Option.toList_some, nI_1]
    refine xi_icmpge rfl (fun c => ?_) (fun c => ?_)
    · exact absurd c (by rw [i_le, i_n (by omega)]; have : (Int32.ofNat 5).toInt = 5 := rfl; omega)
    refine xgo 80 rfl ?_
    try simp only [xlo0, List.map_cons, List.map_nil, List.length_cons, List.length_nil, xrs, xr0, Nat.reduceAdd, Nat.reduceSub, List.cons_append, List.nil_append, List.set_cons_zero, List.set_cons_succ, Option.toList_none, Option.toList_some, nI_1]
    refine xi_iald rfl hg (nI_pos (by omega)) (by rw [hcl]; exact vi_get hbj) ?_
    refine xgo 80 rfl ?_
    try simp only [xlo0, List.map_cons, List.map_nil, List.length_cons, List.length_nil, xrs, xr0, Nat.reduceAdd, Nat.reduceSub, List.cons_append, List.nil_append, List.set_cons_zero, List.set_cons_succ, Option.toList_none, Option.toList_some, nI_1]
    refine xi_icmpeq rfl (fun c2 => ?_) (fun c2 => ?_)
    · exact go j (by omega) hall (Or.inr ⟨b, hbj, by rw [c2]; decide⟩)
    refine xgo 80 rfl ?_
    try simp only [xlo0, List.map_cons, List.map_nil, List.length_cons, List.length_nil, xrs, xr0, Nat.reduceAdd, Nat.reduceSub, List.cons_append, List.nil_append, List.set_cons_zero, List.set_cons_succ, Option.toList_none, Option.toList_some, nI_1]
    refine xi_iald rfl hg (nI_pos (by omega)) (by rw [hcl]; exact vi_get hbj) ?_
    refine xgo 80 rfl ?_
    try simp only [xlo0, List.map_cons, List.map_nil, List.length_cons, List.length_nil, xrs, xr0, Nat.reduceAdd, Nat.reduceSub, List.cons_append, List.nil_append, List.set_cons_zero, List.set_cons_succ, Option.toList_none, Option.toList_some, nI_1]
    refine xcS 8 rfl rfl rfl c_isBelow rfl kX8_isBelow iX8_isBelow rfl rfl (Nat.le_of_ble_eq_true rfl) (fun v3 s3 q3 => ?_)
    obtain ⟨rfl, rfl⟩ := q3
    refine xgo 80 rfl ?_
    try simp only [xlo0, List.map_cons, List.map_nil, List.length_cons, List.length_nil, xrs, xr0, Nat.reduceAdd, Nat.reduceSub, List.cons_append, List.nil_append, List.set_cons_zero, List.set_cons_succ, Option.toList_none, Option.toList_some, nI_1]
    refine xi_ifne rfl (fun c3 => ?_) (fun c3 => ?_)
    · simp only [one_z, Int32.reduceToInt, Classical.not_not] at c3
      refine xto 30 80 rfl ?_
      try simp only [xlo0, List.map_cons, List.map_nil, List.length_cons, List.length_nil, xrs, xr0, Nat.reduceAdd, Nat.reduceSub, List.cons_append, List.nil_append, List.set_cons_zero, List.set_cons_succ, Option.toList_none, Option.toList_some, nI_1]
      refine ih (j + 1) (by omega) (fun i x hi hx => ?_)
      by_cases hij : i = j
      · subst hij
        rw [hbj] at hx
        cases hx
        exact ⟨by simpa using c2, c3⟩
      · exact hall i x (by omega) hx
    · simp only [one_z, Int32.reduceToInt] at c3
      have hF : F_add g Z = (-1, Z) := by
        refine if_pos (List.any_eq_true.mpr ⟨b, tw_mem g j b (fun i x hi hx => (hall i x hi hx).1) hbj (by simpa using c2), ?_⟩)
        simp only [Bool.not_eq_true', decide_eq_false_iff_not]
        exact c3
      rw [hF]
      refine xgo 80 rfl ?_
      try simp only [xlo0, List.map_cons, List.map_nil, List.length_cons, List.length_nil, xrs, xr0, Nat.reduceAdd, Nat.reduceSub, List.cons_append, List.nil_append, List.set_cons_zero, List.set_cons_succ, Option.toList_none, Option.toList_some, nI_1]
      refine xi_ret_i rfl rfl rfl ⟨rfl, ⟨own, rc, h⟩, hm⟩
set_option maxRecDepth 100000 in
set_option maxHeartbeats 8000000 in
theorem c_PP_add {G : xG} {d rc : Nat} {own : Nat → Nat} {x1 x2 x3 x4 x5 : Int32} {Z : pZ} {σ : xS} (h : pw G σ own rc Z) : xm G (d + 20) mX8_add [rf G 0, .int x1, .int x2, .int x3, .int x4, .int x5] σ (ppost G σ (F_add [x1, x2, x3, x4, x5] Z)) := by
  have hN := h.2.2.2.2.2.2.2.2.2.2.1
  refine xm_at 10 rfl (by decide) (Nat.le_of_ble_eq_true rfl) (by simp [Value.category]) tX8_add_ok ?_
  try simp only [xlo0, List.map_cons, List.map_nil, List.length_cons, List.length_nil, xrs, xr0, Nat.reduceAdd, Nat.reduceSub, List.cons_append, List.nil_append, List.set_cons_zero, List.set_cons_succ, Option.toList_none, Option.toList_some, nI_1]
  refine xgo 80 rfl ?_
  try simp only [xlo0, List.map_cons, List.map_nil, List.length_cons, List.length_nil, xrs, xr0, Nat.reduceAdd, Nat.reduceSub, List.cons_append, List.nil_append, List.set_cons_zero, List.set_cons_succ, Option.toList_none, Option.toList_some, nI_1]
  refine xna (t := 11) (atype := .int) (N := 5) rfl rfl rfl (by decide) (by decide) rfl a_11 (by decide) rfl (by decide) (fun s1 n1 f1 g1 k1 => ?_)
  refine xgo 80 rfl ?_
  try simp only [xlo0, List.map_cons, List.map_nil, List.length_cons, List.length_nil, xrs, xr0, Nat.reduceAdd, Nat.reduceSub, List.cons_append, List.nil_append, List.set_cons_zero, List.set_cons_succ, Option.toList_none, Option.toList_some, nI_1]
  refine xsi rfl n1 (by decide) (by decide) (fun s2 n2 f2 e2 => ?_)
  refine xgo 80 rfl ?_
  try simp only [xlo0, List.map_cons, List.map_nil, List.length_cons, List.length_nil, xrs, xr0, Nat.reduceAdd, Nat.reduceSub, List.cons_append, List.nil_append, List.set_cons_zero, List.set_cons_succ, Option.toList_none, Option.toList_some, nI_1]
  refine xsi rfl n2 (by decide) (by simp) (fun s3 n3 f3 e3 => ?_)
  refine xgo 80 rfl ?_
  try simp only [xlo0, List.map_cons, List.map_nil, List.length_cons, List.length_nil, xrs, xr0, Nat.reduceAdd, Nat.reduceSub, List.cons_append, List.nil_append, List.set_cons_zero, List.set_cons_succ, Option.toList_none, Option.toList_some, nI_1]
  refine xsi rfl n3 (by decide) (by simp) (fun s4 n4 f4 e4 => ?_)
  refine xgo 80 rfl ?_
  try simp only [xlo0, List.map_cons, List.map_nil, List.length_cons, List.length_nil, xrs, xr0, Nat.reduceAdd, Nat.reduceSub, List.cons_append, List.nil_append, List.set_cons_zero, List.set_cons_succ, Option.toList_none, Option.toList_some, nI_1]
  refine xsi rfl n4 (by decide) (by simp) (fun s5 n5 f5 e5 => ?_)
  refine xgo 80 rfl ?_
  try simp only [xlo0, List.map_cons, List.map_nil, List.length_cons, List.length_nil, xrs, xr0, Nat.reduceAdd, Nat.reduceSub, List.cons_append, List.nil_append, List.set_cons_zero, List.set_cons_succ, Option.toList_none, Option.toList_some, nI_1]
  refine xsi rfl n5 (by decide) (by simp) (fun s6 n6 f6 e6 => ?_)
  have hv : s6.1 σ.2.1 = some (11, vi [x1, x2, x3, x4, x5]) := by rw [n6]; rfl
  have hf : ∀ q, q < σ.2.1 → s6.1 q = σ.1 q := fun q hq => by rw [f6 q (by omega), f5 q (by omega), f4 q (by omega), f3 q (by omega), f2 q (by omega), f1 q (by omega)]
  have e : s6.2 = s1.2 := e6.trans (e5.trans (e4.trans (e3.trans e2)))
  have hp := h.keepAll hf (by rw [e, g1]; omega)
  refine xto 30 80 rfl ?_
  try simp only [xlo0, List.map_cons, List.map_nil, List.length_cons, List.length_nil, xrs, xr0, Nat.reduceAdd, Nat.reduceSub, List.cons_append, List.nil_append, List.set_cons_zero, List.set_cons_succ, Option.toList_none, Option.toList_some, nI_1]
  exact l_PP_add1 hp ⟨fun q a1 a2 => hf q (by omega), by rw [e, g1]; omega, by rw [e, g1]; omega, by rw [e, k1]; omega⟩ hv (by omega) rfl 5 0 (by omega) (fun i x hi => absurd hi (by omega))
