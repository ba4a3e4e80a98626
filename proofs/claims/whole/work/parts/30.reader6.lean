theorem nI_addN (a b : Nat) : nI a + nI b = nI (a + b) := nI_add a b
set_option maxRecDepth 100000 in
set_option maxHeartbeats 8000000 in
theorem c_RD_hearPairs {G : xG} {d r b c cap k lr z : Nat} {bs : List Int32} {s : pS} {w : Int32 × Int32 × List Int32} {σ : xS} (h : rdw G σ.1 r b c cap bs s) (hs : rsep r b c) (hk : k < 8) (hw : s.2.2.1.2.2.2[k]? = some w) (hlr : lr ≤ 120) (hl : w.2.2.length ≤ lr) (hx : s.2.2.2.1[k]? = some (nI lr)) (hz : s.2.2.2.2[k]? = some (nI z)) (hz2 : z ≤ 250) : xm G (d + 4) mX5_hearPairs [rf G r, .int (nI k)] σ (rpost G σ r b c cap bs none (hPairs bs k z (nI lr) s)) := by
  have hcl : (nI k).toNatClampNeg = k := nI_clamp (by omega)
  have hlen := h.len
  refine xm_at 7 rfl (by decide) (Nat.le_of_ble_eq_true rfl) (by simp [Value.category]) tX5_hearPairs_ok ?_
  try simp only [xlo0, List.map_cons, List.map_nil, List.length_cons, List.length_nil, xrs, xr0, Nat.reduceAdd, Nat.reduceSub, List.cons_append, List.nil_append, List.set_cons_zero, List.set_cons_succ, Option.toList_none, Option.toList_some, nI_1]
  refine xgo 80 rfl ?_
  try simp only [xlo0, List.map_cons, List.map_nil, List.length_cons, List.length_nil, xrs, xr0, Nat.reduceAdd, Nat.reduceSub, List.cons_append, List.nil_append, List.set_cons_zero, List.set_cons_succ, Option.toList_none, Option.toList_some, nI_1]
  refine xg 5 rfl rfl rfl h.1 rfl ?_
  refine xgo 80 rfl ?_
  try simp only [xlo0, List.map_cons, List.map_nil, List.length_cons, List.length_nil, xrs, xr0, Nat.reduceAdd, Nat.reduceSub, List.cons_append, List.nil_append, List.set_cons_zero, List.set_cons_succ, Option.toList_none, Option.toList_some, nI_1]
  refine xg 5 rfl rfl rfl h.1 rfl ?_
  refine xgo 80 rfl ?_
  try simp only [xlo0, List.map_cons, List.map_nil, List.length_cons, List.length_nil, xrs, xr0, Nat.reduceAdd, Nat.reduceSub, List.cons_append, List.nil_append, List.set_cons_zero, List.set_cons_succ, Option.toList_none, Option.toList_some, nI_1]
  refine xi_iald rfl h.2.2.1 (nI_pos (by omega)) (by rw [hcl]; exact vi_get hz) ?_
  refine xto 14 80 rfl ?_
  try simp only [xlo0, List.map_cons, List.map_nil, List.length_cons, List.length_nil, xrs, xr0, Nat.reduceAdd, Nat.reduceSub, List.cons_append, List.nil_append, List.set_cons_zero, List.set_cons_succ, Option.toList_none, Option.toList_some, nI_1]
  rw [nI_addN]
  exact l_RD_hearPairs hs hk (by omega) hlr 250 0 s σ none none none w (by omega) hw hl hx rfl h fr2.rf rfl
def opSt (v : Int32) : Int32 := if 128 ≤ v then v - 125 else v + 1
def opBh (v : Int32) : Int32 := if 128 ≤ v then 1 else v + 1
def hOps1 (bs : List Int32) (k e : Nat) (x : Int32) (s : pS) : pS :=
  let n := nxt bs 0 255 s
  let s1 := if x - nI (rwb s k).length < opSt n.1 ∨ nI e < nI n.2.1 + opBh n.1 then refS s.1 n.2 else n.2
  if 128 ≤ n.1 then hCopy bs k (opSt n.1).toInt.toNat s1 else hPlain bs k (opSt n.1).toInt.toNat s1
def hOps (bs : List Int32) (k z : Nat) (x : Int32) (s : pS) : pS := hLack k x (hUntil (hOps1 bs k (s.1 + z) x) (s.1 + z) 250 s)
/-- a row's bytes and the lengths behind a part of a page -/
def okRow (k lr : Nat) (s : pS) : Prop := (∃ w : Int32 × Int32 × List Int32, s.2.2.1.2.2.2[k]? = some w ∧ w.2.2.length ≤ 120 ∧ (s.2.1 = none → w.2.2.length ≤ lr)) ∧ s.2.2.2.1[k]? = some (nI lr)
theorem opSt_n {v : Int32} (h0 : 0 ≤ v) (h1 : v ≤ 255) : ∃ m : Nat, opSt v = nI m ∧ 1 ≤ m ∧ m ≤ 130 := by
  rw [i_le] at h0 h1
  have z0 : (0 : Int32).toInt = 0 := rfl
  have z255 : (255 : Int32).toInt = 255 := rfl
  have z128 : (128 : Int32).toInt = 128 := rfl
  have hv : v = nI v.toInt.toNat := by rw [i_eq, i_n (by omega)]; omega
  unfold opSt
  split
  · next c =>
    rw [i_le, z128] at c
    refine ⟨v.toInt.toNat - 125, ?_, by omega, by omega⟩
    exact (congrArg (· - (125 : Int32)) hv).trans (nI_subN (a := v.toInt.toNat) (b := 125) (by omega))
  · next c =>
    rw [i_le, z128] at c
    refine ⟨v.toInt.toNat + 1, ?_, by omega, by omega⟩
    exact (congrArg (· + (1 : Int32)) hv).trans (nI_1 _)
set_option maxRecDepth 100000 in
set_option maxHeartbeats 8000000 in
theorem hPlain_ok {bs : List Int32} {k lr : Nat} (hk : k < 8) : ∀ (n : Nat) (s : pS) (w : Int32 × Int32 × List Int32), s.2.2.1.2.2.2[k]? = some w → w.2.2.length + n ≤ 120 → w.2.2.length + n ≤ lr → s.2.2.2.1[k]? = some (nI lr) → okRow k lr (hLoop (hPlain1 bs k) n s) ∧ (hLoop (hPlain1 bs k) n s).2.2.2 = s.2.2.2
  | 0, s, w, h1, h2, h3, h4 => ⟨⟨⟨w, h1, by omega, fun _ => by omega⟩, h4⟩, rfl⟩
  | n + 1, s, w, h1, h2, h3, h4 => by
    unfold hLoop
    split
    · exact ⟨⟨⟨w, h1, by omega, fun _ => by omega⟩, h4⟩, rfl⟩
    · have hr := nxt_rest bs 0 255 s
      have e1 : (hPlain1 bs k s).2.2.2 = s.2.2.2 := by show (nxt bs 0 255 s).2.2.2.2 = _; rw [hr]
      have e2 : (hPlain1 bs k s).2.2.1.2.2.2[k]? = some (w.1, w.2.1, w.2.2 ++ [(nxt bs 0 255 s).1]) := by
        show (rset (nxt bs 0 255 s).2.2.2.1.2.2.2 k (rwb s k ++ [(nxt bs 0 255 s).1]))[k]? = _
        rw [hr, rwb_eq h1 hk]
        exact rset_get h1 _
      have := hPlain_ok (bs := bs) (lr := lr) hk n (hPlain1 bs k s) _ e2 (by simp; omega) (by simp; omega) (by rw [e1]; exact h4)
      exact ⟨this.1, this.2.trans e1⟩
theorem hCopy_ok {bs : List Int32} {k lr m : Nat} (hk : k < 8) {s : pS} {w : Int32 × Int32 × List Int32} (h1 : s.2.2.1.2.2.2[k]? = some w) (h0 : w.2.2.length ≤ 120) (h2 : s.2.1 = none → w.2.2.length + m ≤ 120 ∧ w.2.2.length + m ≤ lr) (h4 : s.2.2.2.1[k]? = some (nI lr)) : okRow k lr (hCopy bs k m s) ∧ (hCopy bs k m s).2.2.2 = s.2.2.2 := by
  have hr := nxt_rest bs 1 (nI (rwb s k).length) s
  have e0 : (nxt bs 1 (nI (rwb s k).length) s).2.2.2.1.2.2.2[k]? = some w := by rw [hr]; exact h1
  unfold hCopy
  dsimp only
  split
  · next c =>
    refine ⟨⟨⟨w, e0, h0, fun q => ?_⟩, by rw [hr]; exact h4⟩, by rw [hr]⟩
    rw [q] at c
    cases c
  · next c =>
    have hN := isN (o := (nxt bs 1 (nI (rwb s k).length) s).2.2.1) (by simpa using c)
    obtain ⟨f1, -, -, -⟩ := nxt_fine hN
    obtain ⟨g1, g2⟩ := h2 f1
    refine ⟨⟨⟨_, rset_get e0 _, ?_, fun _ => ?_⟩, by show (nxt bs 1 (nI (rwb s k).length) s).2.2.2.2.1[k]? = _; rw [hr]; exact h4⟩, by show (nxt bs 1 (nI (rwb s k).length) s).2.2.2.2 = _; rw [hr]⟩
    · show (rep _ m (rwb s k)).length ≤ 120
      rw [rep_len, rwb_eq h1 hk]; exact g1
    · show (rep _ m (rwb s k)).length ≤ lr
      rw [rep_len, rwb_eq h1 hk]; exact g2
set_option maxRecDepth 100000 in
set_option maxHeartbeats 8000000 in
theorem l_RD_hearOps {G : xG} {d r b c cap k e lr : Nat} {bs : List Int32} {F : pS} {σ : xS} (hs : rsep r b c) (hk : k < 8) (he : e < 200000) (hlr : lr ≤ 120) : ∀ (n i : Nat) (s : pS) (t : xS) (x4 x5 x6 x7 x8 : Option Value), i + n = 250 → okRow k lr s → hLack k (nI lr) (hUntil (hOps1 bs k e (nI lr)) e n s) = F → rdw G t.1 r b c cap bs s → fr2 σ.1 t.1 r c → t.2 = σ.2 →
    xw G (d + 4) mX5_hearOps 14 [some (rf G r), some (.int (nI k)), some (.int (nI e)), some (.int (nI i)), x4, x5, x6, x7, x8] [] t (rpost G σ r b c cap bs none F) := by
  have z250 : (250 : Int32).toInt = 250 := rfl
  have z128 : (128 : Int32).toInt = 128 := rfl
  have fin : ∀ (s : pS) (t : xS) (x3 x4 x5 x6 x7 x8 : Option Value), s.2.2.2.1[k]? = some (nI lr) → hLack k (nI lr) s = F → rdw G t.1 r b c cap bs s → fr2 σ.1 t.1 r c → t.2 = σ.2 → xw G (d + 4) mX5_hearOps 154 [some (rf G r), some (.int (nI k)), some (.int (nI e)), x3, x4, x5, x6, x7, x8] [] t (rpost G σ r b c cap bs none F) := by
    intro s t x3 x4 x5 x6 x7 x8 hx hF h g kk
    refine xgo 80 rfl ?_
    try simp only [xlo0, List.map_cons, List.map_nil, List.length_cons, List.length_nil, xrs, xr0, Nat.reduceAdd, Nat.reduceSub, List.cons_append, List.nil_append, List.set_cons_zero, List.set_cons_succ, Option.toList_none, Option.toList_some, nI_1]
    refine xcV 5 rfl rfl rfl (c_RD_refuseIfLacking h hs hk hx) rfl kX5_refuseIfLacking iX5_refuseIfLacking h.1 ⟨_, rfl, rfl⟩ rfl rfl (Nat.le_of_ble_eq_true rfl) (fun v1 s1 q1 => ?_)
    obtain ⟨rfl, p, g1, k1⟩ := q1
    refine xgo 80 rfl ?_
    try simp only [xlo0, List.map_cons, List.map_nil, List.length_cons, List.length_nil, xrs, xr0, Nat.reduceAdd, Nat.reduceSub, List.cons_append, List.nil_append, List.set_cons_zero, List.set_cons_succ, Option.toList_none, Option.toList_some, nI_1]
    refine xi_ret_v rfl rfl ⟨rfl, by rw [← hF]; exact p, g.tr g1, k1.trans kk⟩
  intro n
  induction n with
  | zero =>
    intro i s t x4 x5 x6 x7 x8 hi hok hF h g kk
    have hi' : i = 250 := by omega
    subst hi'
    refine xgo 80 rfl ?_
    try simp only [xlo0, List.map_cons, List.map_nil, List.length_cons, List.length_nil, xrs, xr0, Nat.reduceAdd, Nat.reduceSub, List.cons_append, List.nil_append, List.set_cons_zero, List.set_cons_succ, Option.toList_none, Option.toList_some, nI_1]
    refine xi_icmpge rfl (fun c1 => ?_) (fun c1 => ?_)
    · exact fin s t _ _ _ _ _ _ hok.2 hF h g kk
    · exact absurd (by decide) c1
  | succ n ih =>
    intro i s t x4 x5 x6 x7 x8 hi hok hF h g kk
    have hU : hUntil (hOps1 bs k e (nI lr)) e (n + 1) s = (if e ≤ s.1 ∨ s.2.1.isSome = true then s else hUntil (hOps1 bs k e (nI lr)) e n (hOps1 bs k e (nI lr) s)) := rfl
    rw [hU] at hF
    have hlen := h.len
    obtain ⟨⟨w, hw, hw120, hwl⟩, hx⟩ := id hok
    have hrw := rwb_eq hw hk
    refine xgo 80 rfl ?_
    try simp only [xlo0, List.map_cons, List.map_nil, List.length_cons, List.length_nil, xrs, xr0, Nat.reduceAdd, Nat.reduceSub, List.cons_append, List.nil_append, List.set_cons_zero, List.set_cons_succ, Option.toList_none, Option.toList_some, nI_1]
    refine xi_icmpge rfl (fun c1 => ?_) (fun c1 => ?_)
    · exact absurd c1 (by rw [i_le, i_n (by omega), z250]; omega)
    refine xgo 80 rfl ?_
    try simp only [xlo0, List.map_cons, List.map_nil, List.length_cons, List.length_nil, xrs, xr0, Nat.reduceAdd, Nat.reduceSub, List.cons_append, List.nil_append, List.set_cons_zero, List.set_cons_succ, Option.toList_none, Option.toList_some, nI_1]
    refine xg 5 rfl rfl rfl h.1 rfl ?_
    refine xgo 80 rfl ?_
    try simp only [xlo0, List.map_cons, List.map_nil, List.length_cons, List.length_nil, xrs, xr0, Nat.reduceAdd, Nat.reduceSub, List.cons_append, List.nil_append, List.set_cons_zero, List.set_cons_succ, Option.toList_none, Option.toList_some, nI_1]
    refine xi_icmpge rfl (fun c2 => ?_) (fun c2 => ?_)
    · rw [i_le, i_n (by omega), i_n (by omega)] at c2
      rw [if_pos (Or.inl (by omega))] at hF
      exact fin s t _ _ _ _ _ _ hx hF h g kk
    rw [i_le, i_n (by omega), i_n (by omega)] at c2
    refine xgo 80 rfl ?_
    try simp only [xlo0, List.map_cons, List.map_nil, List.length_cons, List.length_nil, xrs, xr0, Nat.reduceAdd, Nat.reduceSub, List.cons_append, List.nil_append, List.set_cons_zero, List.set_cons_succ, Option.toList_none, Option.toList_some, nI_1]
    refine xcV 5 rfl rfl rfl (c_RD_isFine h) rfl kX5_isFine iX5_isFine h.1 ⟨_, rfl, rfl⟩ rfl rfl (Nat.le_of_ble_eq_true rfl) (fun v1 s1 q1 => ?_)
    obtain ⟨rfl, rfl⟩ := q1
    cases hwr : s.2.1 with
    | some ww =>
      rw [if_pos (Or.inr (by rw [hwr]; rfl))] at hF
      refine xgo 80 rfl ?_
      try simp only [xlo0, List.map_cons, List.map_nil, List.length_cons, List.length_nil, xrs, xr0, Nat.reduceAdd, Nat.reduceSub, List.cons_append, List.nil_append, List.set_cons_zero, List.set_cons_succ, Option.toList_none, Option.toList_some, nI_1]
      refine xi_ifeq rfl (fun c3 => ?_) (fun c3 => ?_)
      · exact fin s _ _ _ _ _ _ _ hx hF h g kk
      · exact absurd rfl c3
    | none =>
      rw [if_neg (by rw [hwr]; simp; omega)] at hF
      have hwl := hwl hwr
      refine xgo 80 rfl ?_
      try simp only [xlo0, List.map_cons, List.map_nil, List.length_cons, List.length_nil, xrs, xr0, Nat.reduceAdd, Nat.reduceSub, List.cons_append, List.nil_append, List.set_cons_zero, List.set_cons_succ, Option.toList_none, Option.toList_some, nI_1]
      refine xi_ifeq rfl (fun c3 => ?_) (fun c3 => ?_)
      · exact absurd c3 (by decide)
      refine xgo 80 rfl ?_
      try simp only [xlo0, List.map_cons, List.map_nil, List.length_cons, List.length_nil, xrs, xr0, Nat.reduceAdd, Nat.reduceSub, List.cons_append, List.nil_append, List.set_cons_zero, List.set_cons_succ, Option.toList_none, Option.toList_some, nI_1]
      refine xg 5 rfl rfl rfl h.1 rfl ?_
      refine xgo 80 rfl ?_
      try simp only [xlo0, List.map_cons, List.map_nil, List.length_cons, List.length_nil, xrs, xr0, Nat.reduceAdd, Nat.reduceSub, List.cons_append, List.nil_append, List.set_cons_zero, List.set_cons_succ, Option.toList_none, Option.toList_some, nI_1]
      refine xcV 5 rfl rfl rfl (c_RD_next (lo := 0) (hi := 255) h hs) rfl kX5_next iX5_next h.1 ⟨_, rfl, rfl⟩ rfl rfl (Nat.le_of_ble_eq_true rfl) (fun v2 s2 q2 => ?_)
      obtain ⟨rfl, p2, g2, k2⟩ := q2
      have hrng := nxt_rng (bs := bs) (lo := 0) (hi := 255) (s := s) (by decide)
      generalize hn : nxt bs 0 255 s = N at p2 hrng ⊢
      have hNr : N.2.2.2 = s.2.2 := by rw [← hn]; exact nxt_rest ..
      obtain ⟨m, hm, hm1, hm2⟩ := opSt_n hrng.1 hrng.2
      have hxN : N.2.2.2.2.1[k]? = some (nI lr) := by rw [hNr]; exact hx
      have hwN : N.2.2.2.1.2.2.2[k]? = some w := by rw [hNr]; exact hw
      have hrwN : rwb N.2 k = rwb s k := by unfold rwb; rw [hNr]
      have tail : ∀ (ic bh : Int32) (s1 : pS) (t1 : xS), (ic = 0 ∧ ¬ 128 ≤ N.1) ∨ (ic = 1 ∧ 128 ≤ N.1) → s1 = (if nI lr - nI (rwb s k).length < opSt N.1 ∨ nI e < nI N.2.1 + opBh N.1 then refS s.1 N.2 else N.2) → rdw G t1.1 r b c cap bs s1 → fr2 σ.1 t1.1 r c → t1.2 = σ.2 → xw G (d + 4) mX5_hearOps 126 [some (rf G r), some (.int (nI k)), some (.int (nI e)), some (.int (nI i)), some (.int (nI s.1)), some (.int N.1), some (.int ic), some (.int (nI m)), some (.int bh)] [] t1 (rpost G σ r b c cap bs none F) := by
        intro ic bh s1 t1 hic hs1 h1 gg kk1
        have hs1r : s1.2.2 = s.2.2 := by
          rw [hs1]
          split
          · rw [refS_rest, hNr]
          · exact hNr
        have hw1 : s1.2.2.1.2.2.2[k]? = some w := by rw [hs1r]; exact hw
        have hx1 : s1.2.2.2.1[k]? = some (nI lr) := by rw [hs1r]; exact hx
        have hfit : s1.2.1 = none → w.2.2.length + m ≤ lr := by
          intro hq
          rw [hs1] at hq
          split at hq
          · have := refS_some s.1 N.2
            rw [hq] at this
            cases this
          · next cc =>
            rw [hm, hrw, nI_subN hwl, i_lt, i_n (by omega), i_n (by omega)] at cc
            omega
        rcases hic with ⟨rfl, hc⟩ | ⟨rfl, hc⟩
        · have e1 : hOps1 bs k e (nI lr) s = hPlain bs k m s1 := by
            unfold hOps1
            simp only [hn]
            rw [← hs1, if_neg hc, hm, i_n (by omega)]
            rfl
          refine xgo 80 rfl ?_
          try simp only [xlo0, List.map_cons, List.map_nil, List.length_cons, List.length_nil, xrs, xr0, Nat.reduceAdd, Nat.reduceSub, List.cons_append, List.nil_append, List.set_cons_zero, List.set_cons_succ, Option.toList_none, Option.toList_some, nI_1]
          refine xi_ifeq rfl (fun c4 => ?_) (fun c4 => ?_)
          · cases hq : s1.2.1 with
            | none =>
              have hfit := hfit hq
              obtain ⟨ok, okr⟩ := hPlain_ok (bs := bs) (lr := lr) hk m s1 w hw1 (by omega) hfit hx1
              refine xgo 80 rfl ?_
              try simp only [xlo0, List.map_cons, List.map_nil, List.length_cons, List.length_nil, xrs, xr0, Nat.reduceAdd, Nat.reduceSub, List.cons_append, List.nil_append, List.set_cons_zero, List.set_cons_succ, Option.toList_none, Option.toList_some, nI_1]
              refine xcV 5 rfl rfl rfl (c_RD_hearPlain (m := m) h1 hs hk hw1 (by omega)) rfl kX5_hearPlain iX5_hearPlain h1.1 ⟨_, rfl, rfl⟩ rfl rfl (Nat.le_of_ble_eq_true rfl) (fun v5 s5 q5 => ?_)
              obtain ⟨rfl, p5, g5, k5⟩ := q5
              refine xto 14 80 rfl ?_
              try simp only [xlo0, List.map_cons, List.map_nil, List.length_cons, List.length_nil, xrs, xr0, Nat.reduceAdd, Nat.reduceSub, List.cons_append, List.nil_append, List.set_cons_zero, List.set_cons_succ, Option.toList_none, Option.toList_some, nI_1]
              refine ih (i + 1) (hPlain bs k m s1) s5 _ _ _ _ _ (by omega) ok (by rw [← e1]; exact hF) p5 (gg.tr g5) (k5.trans kk1)
            | some ww =>
              have hq' : s1.2.1.isSome = true := by rw [hq]; rfl
              have e2 : hPlain bs k m s1 = s1 := hLoop_wrong hq'
              refine xgo 80 rfl ?_
              try simp only [xlo0, List.map_cons, List.map_nil, List.length_cons, List.length_nil, xrs, xr0, Nat.reduceAdd, Nat.reduceSub, List.cons_append, List.nil_append, List.set_cons_zero, List.set_cons_succ, Option.toList_none, Option.toList_some, nI_1]
              refine xcV 5 rfl rfl rfl (c_RD_hearPlainW h1 hq') rfl kX5_hearPlain iX5_hearPlain h1.1 ⟨_, rfl, rfl⟩ rfl rfl (Nat.le_of_ble_eq_true rfl) (fun v5 s5 q5 => ?_)
              obtain ⟨rfl, p5, g5, k5⟩ := q5
              refine xto 14 80 rfl ?_
              try simp only [xlo0, List.map_cons, List.map_nil, List.length_cons, List.length_nil, xrs, xr0, Nat.reduceAdd, Nat.reduceSub, List.cons_append, List.nil_append, List.set_cons_zero, List.set_cons_succ, Option.toList_none, Option.toList_some, nI_1]
              refine ih (i + 1) s1 s5 _ _ _ _ _ (by omega) ⟨⟨w, hw1, hw120, fun q => by rw [hq] at q; cases q⟩, hx1⟩ (by rw [e1, e2] at hF; exact hF) p5 (gg.tr g5) (k5.trans kk1)
          · exact absurd rfl c4
        · have e1 : hOps1 bs k e (nI lr) s = hCopy bs k m s1 := by
            unfold hOps1
            simp only [hn]
            rw [← hs1, if_pos hc, hm, i_n (by omega)]
            rfl
          obtain ⟨ok, okr⟩ := hCopy_ok (bs := bs) (lr := lr) (m := m) hk hw1 hw120 (fun q => ⟨by have := hfit q; omega, hfit q⟩) hx1
          refine xgo 80 rfl ?_
          try simp only [xlo0, List.map_cons, List.map_nil, List.length_cons, List.length_nil, xrs, xr0, Nat.reduceAdd, Nat.reduceSub, List.cons_append, List.nil_append, List.set_cons_zero, List.set_cons_succ, Option.toList_none, Option.toList_some, nI_1]
          refine xi_ifeq rfl (fun c4 => ?_) (fun c4 => ?_)
          · exact absurd c4 (by decide)
          refine xgo 80 rfl ?_
          try simp only [xlo0, List.map_cons, List.map_nil, List.length_cons, List.length_nil, xrs, xr0, Nat.reduceAdd, Nat.reduceSub, List.cons_append, List.nil_append, List.set_cons_zero, List.set_cons_succ, Option.toList_none, Option.toList_some, nI_1]
          refine xcV 5 rfl rfl rfl (c_RD_hearCopy (m := m) h1 hs hk hw1 (fun q => by have := hfit q; omega) (by omega)) rfl kX5_hearCopy iX5_hearCopy h1.1 ⟨_, rfl, rfl⟩ rfl rfl (Nat.le_of_ble_eq_true rfl) (fun v5 s5 q5 => ?_)
          obtain ⟨rfl, p5, g5, k5⟩ := q5
          refine xto 14 80 rfl ?_
          try simp only [xlo0, List.map_cons, List.map_nil, List.length_cons, List.length_nil, xrs, xr0, Nat.reduceAdd, Nat.reduceSub, List.cons_append, List.nil_append, List.set_cons_zero, List.set_cons_succ, Option.toList_none, Option.toList_some, nI_1]
          exact ih (i + 1) (hCopy bs k m s1) s5 _ _ _ _ _ (by omega) ok (by rw [← e1]; exact hF) p5 (gg.tr g5) (k5.trans kk1)
      have rest : ∀ (ic bh : Int32), (ic = 0 ∧ ¬ 128 ≤ N.1) ∨ (ic = 1 ∧ 128 ≤ N.1) → bh = opBh N.1 → xw G (d + 4) mX5_hearOps 99 [some (rf G r), some (.int (nI k)), some (.int (nI e)), some (.int (nI i)), some (.int (nI s.1)), some (.int N.1), some (.int ic), some (.int (nI m)), some (.int bh)] [] s2 (rpost G σ r b c cap bs none F) := by
        intro ic bh hic hbh
        have refuse : (nI lr - nI (rwb s k).length < opSt N.1 ∨ nI e < nI N.2.1 + opBh N.1) → xw G (d + 4) mX5_hearOps 120 [some (rf G r), some (.int (nI k)), some (.int (nI e)), some (.int (nI i)), some (.int (nI s.1)), some (.int N.1), some (.int ic), some (.int (nI m)), some (.int bh)] [] s2 (rpost G σ r b c cap bs none F) := by
          intro hcond
          refine xgo 80 rfl ?_
          try simp only [xlo0, List.map_cons, List.map_nil, List.length_cons, List.length_nil, xrs, xr0, Nat.reduceAdd, Nat.reduceSub, List.cons_append, List.nil_append, List.set_cons_zero, List.set_cons_succ, Option.toList_none, Option.toList_some, nI_1]
          refine xcV 5 rfl rfl rfl (c_RD_refuseAt p2 hs hlen.1) rfl kX5_refuseAt iX5_refuseAt p2.1 ⟨_, rfl, rfl⟩ rfl rfl (Nat.le_of_ble_eq_true rfl) (fun v7 s7 q7 => ?_)
          obtain ⟨rfl, p7, g7, k7⟩ := q7
          exact tail ic bh _ _ hic (by rw [if_pos hcond]) p7 ((g.tr g2).tr g7) (k7.trans (k2.trans kk))
        refine xgo 80 rfl ?_
        try simp only [xlo0, List.map_cons, List.map_nil, List.length_cons, List.length_nil, xrs, xr0, Nat.reduceAdd, Nat.reduceSub, List.cons_append, List.nil_append, List.set_cons_zero, List.set_cons_succ, Option.toList_none, Option.toList_some, nI_1]
        refine xcV 5 rfl rfl rfl (c_RD_lacking p2 hk hxN) rfl kX5_lacking iX5_lacking p2.1 ⟨_, rfl, rfl⟩ rfl rfl (Nat.le_of_ble_eq_true rfl) (fun v6 s6 q6 => ?_)
        obtain ⟨rfl, rfl⟩ := q6
        rw [hrwN]
        refine xgo 80 rfl ?_
        try simp only [xlo0, List.map_cons, List.map_nil, List.length_cons, List.length_nil, xrs, xr0, Nat.reduceAdd, Nat.reduceSub, List.cons_append, List.nil_append, List.set_cons_zero, List.set_cons_succ, Option.toList_none, Option.toList_some, nI_1]
        refine xi_icmpgt rfl (fun c5 => ?_) (fun c5 => ?_)
        · exact refuse (Or.inl (by rw [hm]; exact c5))
        refine xgo 80 rfl ?_
        try simp only [xlo0, List.map_cons, List.map_nil, List.length_cons, List.length_nil, xrs, xr0, Nat.reduceAdd, Nat.reduceSub, List.cons_append, List.nil_append, List.set_cons_zero, List.set_cons_succ, Option.toList_none, Option.toList_some, nI_1]
        refine xg 5 rfl rfl rfl p2.1 rfl ?_
        refine xgo 80 rfl ?_
        try simp only [xlo0, List.map_cons, List.map_nil, List.length_cons, List.length_nil, xrs, xr0, Nat.reduceAdd, Nat.reduceSub, List.cons_append, List.nil_append, List.set_cons_zero, List.set_cons_succ, Option.toList_none, Option.toList_some, nI_1]
        refine xi_icmple rfl (fun c6 => ?_) (fun c6 => ?_)
        · exact tail ic bh _ _ hic (by rw [if_neg (by rw [hm, ← hbh]; intro q; rcases q with q | q; exact c5 q; rw [i_lt] at q; rw [i_le] at c6; omega)]) p2 (g.tr g2) (k2.trans kk)
        · exact refuse (Or.inr (by rw [← hbh, i_lt]; rw [i_le] at c6; omega))
      refine xgo 80 rfl ?_
      try simp only [xlo0, List.map_cons, List.map_nil, List.length_cons, List.length_nil, xrs, xr0, Nat.reduceAdd, Nat.reduceSub, List.cons_append, List.nil_append, List.set_cons_zero, List.set_cons_succ, Option.toList_none, Option.toList_some, nI_1]
      refine xi_icmplt rfl (fun c4 => ?_) (fun c4 => ?_)
      · have hc : ¬ 128 ≤ N.1 := by rw [i_le]; rw [i_lt] at c4; omega
        have hst : N.1 + 1 = nI m := by rw [← hm, opSt, if_neg hc]
        refine xgo 80 rfl ?_
        try simp only [xlo0, List.map_cons, List.map_nil, List.length_cons, List.length_nil, xrs, xr0, Nat.reduceAdd, Nat.reduceSub, List.cons_append, List.nil_append, List.set_cons_zero, List.set_cons_succ, Option.toList_none, Option.toList_some, nI_1]
        refine xi_ifeq rfl (fun c5 => ?_) (fun c5 => ?_)
        · refine xgo 80 rfl ?_
          try simp only [xlo0, List.map_cons, List.map_nil, List.length_cons, List.length_nil, xrs, xr0, Nat.reduceAdd, Nat.reduceSub, List.cons_append, List.nil_append, List.set_cons_zero, List.set_cons_succ, Option.toList_none, Option.toList_some, nI_1]
          refine xi_ifeq rfl (fun c6 => ?_) (fun c6 => ?_)
          · refine xto 99 80 rfl ?_
            try simp only [xlo0, List.map_cons, List.map_nil, List.length_cons, List.length_nil, xrs, xr0, Nat.reduceAdd, Nat.reduceSub, List.cons_append, List.nil_append, List.set_cons_zero, List.set_cons_succ, Option.toList_none, Option.toList_some, nI_1]
            rw [hst]
            exact rest 0 _ (Or.inl ⟨rfl, hc⟩) (by rw [opBh, if_neg hc, hst])
          · exact absurd rfl c6
        · exact absurd rfl c5
      · have hc : 128 ≤ N.1 := by rw [i_le]; rw [i_lt] at c4; omega
        have hst : N.1 - 125 = nI m := by rw [← hm, opSt, if_pos hc]
        refine xgo 80 rfl ?_
        try simp only [xlo0, List.map_cons, List.map_nil, List.length_cons, List.length_nil, xrs, xr0, Nat.reduceAdd, Nat.reduceSub, List.cons_append, List.nil_append, List.set_cons_zero, List.set_cons_succ, Option.toList_none, Option.toList_some, nI_1]
        refine xi_ifeq rfl (fun c5 => ?_) (fun c5 => ?_)
        · exact absurd c5 (by decide)
        refine xgo 80 rfl ?_
        try simp only [xlo0, List.map_cons, List.map_nil, List.length_cons, List.length_nil, xrs, xr0, Nat.reduceAdd, Nat.reduceSub, List.cons_append, List.nil_append, List.set_cons_zero, List.set_cons_succ, Option.toList_none, Option.toList_some, nI_1]
        refine xi_ifeq rfl (fun c6 => ?_) (fun c6 => ?_)
        · exact absurd c6 (by decide)
        refine xto 99 80 rfl ?_
        try simp only [xlo0, List.map_cons, List.map_nil, List.length_cons, List.length_nil, xrs, xr0, Nat.reduceAdd, Nat.reduceSub, List.cons_append, List.nil_append, List.set_cons_zero, List.set_cons_succ, Option.toList_none, Option.toList_some, nI_1]
        rw [hst]
        exact rest 1 _ (Or.inr ⟨rfl, hc⟩) (by rw [opBh, if_pos hc])
