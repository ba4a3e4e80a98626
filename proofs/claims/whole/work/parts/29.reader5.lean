theorem nxt_fine {bs : List Int32} {lo hi : Int32} {s : pS} (h : (nxt bs lo hi s).2.2.1 = none) : s.2.1 = none ∧ lo ≤ (nxt bs lo hi s).1 ∧ (nxt bs lo hi s).1 ≤ hi ∧ (nxt bs lo hi s).2.1 = s.1 + 1 := by
  unfold nxt at h ⊢
  split at h
  · next c => dsimp only at h; rw [h] at c; cases c
  · next c =>
    split at h
    · cases h
    · next c2 =>
      rw [if_neg c, if_neg c2]
      dsimp only at h ⊢
      refine ⟨h, ?_, ?_, rfl⟩
      · rw [i_le]; rw [i_lt] at c2; omega
      · rw [i_le]; rw [i_lt, i_lt] at c2; omega
theorem isN {o : Option Nat} (h : o.isSome = false) : o = none := by cases o with
  | none => rfl
  | some w => cases h
def hCopy (bs : List Int32) (k m : Nat) (s : pS) : pS :=
  let x := nxt bs 1 (nI (rwb s k).length) s
  if x.2.2.1.isSome then x.2 else srow k (rep x.1.toInt.toNat m (rwb s k)) x.2
set_option maxRecDepth 100000 in
set_option maxHeartbeats 8000000 in
theorem c_RD_hearCopy {G : xG} {d r b c cap k m : Nat} {bs : List Int32} {s : pS} {e : Int32 × Int32 × List Int32} {σ : xS} (h : rdw G σ.1 r b c cap bs s) (hs : rsep r b c) (hk : k < 8) (he : s.2.2.1.2.2.2[k]? = some e) (hl : s.2.1 = none → e.2.2.length + m ≤ 120) (hm : m < 1000) : xm G (d + 3) mX5_hearCopy [rf G r, .int (nI k), .int (nI m)] σ (rpost G σ r b c cap bs none (hCopy bs k m s)) := by
  have hrw := rwb_eq he hk
  have hel := h.say.row he
  refine xm_at 4 rfl (by decide) (Nat.le_of_ble_eq_true rfl) (by simp [Value.category]) tX5_hearCopy_ok ?_
  try simp only [xlo0, List.map_cons, List.map_nil, List.length_cons, List.length_nil, xrs, xr0, Nat.reduceAdd, Nat.reduceSub, List.cons_append, List.nil_append, List.set_cons_zero, List.set_cons_succ, Option.toList_none, Option.toList_some, nI_1]
  refine xgo 80 rfl ?_
  try simp only [xlo0, List.map_cons, List.map_nil, List.length_cons, List.length_nil, xrs, xr0, Nat.reduceAdd, Nat.reduceSub, List.cons_append, List.nil_append, List.set_cons_zero, List.set_cons_succ, Option.toList_none, Option.toList_some, nI_1]
  refine xg 5 rfl rfl rfl h.1 rfl ?_
  refine xgo 80 rfl ?_
  try simp only [xlo0, List.map_cons, List.map_nil, List.length_cons, List.length_nil, xrs, xr0, Nat.reduceAdd, Nat.reduceSub, List.cons_append, List.nil_append, List.set_cons_zero, List.set_cons_succ, Option.toList_none, Option.toList_some, nI_1]
  refine xcV 5 rfl rfl rfl (c_CT_pageLength (r := nI k) h.say) rfl kX2_pageLength iX2_pageLength h.say.obj ⟨_, rfl, rfl⟩ rfl rfl (Nat.le_of_ble_eq_true rfl) (fun v1 s1 q1 => ?_)
  obtain ⟨rfl, rfl⟩ := q1
  refine xgo 80 rfl ?_
  try simp only [xlo0, List.map_cons, List.map_nil, List.length_cons, List.length_nil, xrs, xr0, Nat.reduceAdd, Nat.reduceSub, List.cons_append, List.nil_append, List.set_cons_zero, List.set_cons_succ, Option.toList_none, Option.toList_some, nI_1]
  refine xcV 5 rfl rfl rfl (c_RD_next (lo := 1) (hi := nI (rwb s k).length) h hs) rfl kX5_next iX5_next h.1 ⟨_, rfl, rfl⟩ rfl rfl (Nat.le_of_ble_eq_true rfl) (fun v2 s2 q2 => ?_)
  obtain ⟨rfl, p2, g2, k2⟩ := q2
  generalize hx : nxt bs 1 (nI (rwb s k).length) s = X at p2 ⊢
  have hXr : X.2.2.2 = s.2.2 := by rw [← hx]; exact nxt_rest ..
  refine xgo 80 rfl ?_
  try simp only [xlo0, List.map_cons, List.map_nil, List.length_cons, List.length_nil, xrs, xr0, Nat.reduceAdd, Nat.reduceSub, List.cons_append, List.nil_append, List.set_cons_zero, List.set_cons_succ, Option.toList_none, Option.toList_some, nI_1]
  refine xcV 5 rfl rfl rfl (c_RD_isFine p2) rfl kX5_isFine iX5_isFine p2.1 ⟨_, rfl, rfl⟩ rfl rfl (Nat.le_of_ble_eq_true rfl) (fun v3 s3 q3 => ?_)
  obtain ⟨rfl, rfl⟩ := q3
  cases hw : X.2.2.1 with
  | some w =>
    have e1 : hCopy bs k m s = X.2 := by unfold hCopy; simp only [hx, hw]; rfl
    rw [e1]
    refine xgo 80 rfl ?_
    try simp only [xlo0, List.map_cons, List.map_nil, List.length_cons, List.length_nil, xrs, xr0, Nat.reduceAdd, Nat.reduceSub, List.cons_append, List.nil_append, List.set_cons_zero, List.set_cons_succ, Option.toList_none, Option.toList_some, nI_1]
    refine xi_ifeq rfl (fun c1 => ?_) (fun c1 => ?_)
    · refine xgo 80 rfl ?_
      try simp only [xlo0, List.map_cons, List.map_nil, List.length_cons, List.length_nil, xrs, xr0, Nat.reduceAdd, Nat.reduceSub, List.cons_append, List.nil_append, List.set_cons_zero, List.set_cons_succ, Option.toList_none, Option.toList_some, nI_1]
      refine xi_ret_v rfl rfl ⟨rfl, p2, g2, k2⟩
    · exact absurd rfl c1
  | none =>
    obtain ⟨f1, f2, f3, f4⟩ := nxt_fine (bs := bs) (lo := 1) (hi := nI (rwb s k).length) (s := s) (by rw [hx]; exact hw)
    rw [hx, i_le] at f2
    rw [hx, i_le, hrw, i_n (by omega)] at f3
    have z1 : (1 : Int32).toInt = 1 := rfl
    have hX1 : X.1 = nI X.1.toInt.toNat := by rw [i_eq, i_n (by omega)]; omega
    have hx' : nxt bs 1 (nI e.2.2.length) s = X := by rw [← hrw]; exact hx
    have e1 : hCopy bs k m s = srow k (rep X.1.toInt.toNat m e.2.2) X.2 := by unfold hCopy; simp only [hrw, hx', hw]; rfl
    have he2 : X.2.2.2.1.2.2.2[k]? = some e := by rw [hXr]; exact he
    rw [e1]
    refine xgo 80 rfl ?_
    try simp only [xlo0, List.map_cons, List.map_nil, List.length_cons, List.length_nil, xrs, xr0, Nat.reduceAdd, Nat.reduceSub, List.cons_append, List.nil_append, List.set_cons_zero, List.set_cons_succ, Option.toList_none, Option.toList_some, nI_1]
    refine xi_ifeq rfl (fun c1 => ?_) (fun c1 => ?_)
    · exact absurd c1 (by decide)
    refine xgo 80 rfl ?_
    try simp only [xlo0, List.map_cons, List.map_nil, List.length_cons, List.length_nil, xrs, xr0, Nat.reduceAdd, Nat.reduceSub, List.cons_append, List.nil_append, List.set_cons_zero, List.set_cons_succ, Option.toList_none, Option.toList_some, nI_1]
    refine xg 5 rfl rfl rfl p2.1 rfl ?_
    refine xgo 80 rfl ?_
    try simp only [xlo0, List.map_cons, List.map_nil, List.length_cons, List.length_nil, xrs, xr0, Nat.reduceAdd, Nat.reduceSub, List.cons_append, List.nil_append, List.set_cons_zero, List.set_cons_succ, Option.toList_none, Option.toList_some, nI_1]
    rw [hX1]
    refine xgo 80 rfl ?_
    try simp only [xlo0, List.map_cons, List.map_nil, List.length_cons, List.length_nil, xrs, xr0, Nat.reduceAdd, Nat.reduceSub, List.cons_append, List.nil_append, List.set_cons_zero, List.set_cons_succ, Option.toList_none, Option.toList_some, nI_1]
    refine xcV 5 rfl rfl rfl (c_CT_putCopies (r := k) (back := X.1.toInt.toNat) (m := m) p2.say he2 (by omega) (by omega) (hl f1)) rfl kX2_putCopies iX2_putCopies p2.say.obj ⟨_, rfl, rfl⟩ rfl rfl (Nat.le_of_ble_eq_true rfl) (fun v4 s4 q4 => ?_)
    obtain ⟨rfl, u1, u2, u3⟩ := q4
    refine xgo 80 rfl ?_
    try simp only [xlo0, List.map_cons, List.map_nil, List.length_cons, List.length_nil, xrs, xr0, Nat.reduceAdd, Nat.reduceSub, List.cons_append, List.nil_append, List.set_cons_zero, List.set_cons_succ, Option.toList_none, Option.toList_some, nI_1]
    refine xi_ret_v rfl rfl ⟨rfl, ?_, g2.tr (fr2.said u2), u3.trans k2⟩
    have := p2.resaid hs u2 u1
    rw [← hX1]
    exact this
def hUntil (f : pS → pS) (e : Nat) : Nat → pS → pS
  | 0, s => s
  | n + 1, s => if e ≤ s.1 ∨ s.2.1.isSome = true then s else hUntil f e n (f s)
def hPairs1 (bs : List Int32) (k e : Nat) (x : Int32) (s : pS) : pS :=
  let o := nxt bs 1 (if s.1 + 1 = e then 0 else x - nI (rwb s k).length) s
  let y := nxt bs 0 255 o.2
  if y.2.2.1.isSome then y.2 else srow k (rwb s k ++ List.replicate o.1.toInt.toNat y.1) y.2
def hLack (k : Nat) (x : Int32) (s : pS) : pS := if 0 < x - nI (rwb s k).length then refS s.1 s else s
def hPairs (bs : List Int32) (k z : Nat) (x : Int32) (s : pS) : pS := hLack k x (hUntil (hPairs1 bs k (s.1 + z) x) (s.1 + z) 250 s)
set_option maxRecDepth 100000 in
set_option maxHeartbeats 8000000 in
theorem l_RD_hearPairs {G : xG} {d r b c cap k e lr : Nat} {bs : List Int32} {F : pS} {σ : xS} (hs : rsep r b c) (hk : k < 8) (he : e < 200000) (hlr : lr ≤ 120) : ∀ (n i : Nat) (s : pS) (t : xS) (x4 x5 x6 : Option Value) (w : Int32 × Int32 × List Int32), i + n = 250 → s.2.2.1.2.2.2[k]? = some w → w.2.2.length ≤ lr → s.2.2.2.1[k]? = some (nI lr) → hLack k (nI lr) (hUntil (hPairs1 bs k e (nI lr)) e n s) = F → rdw G t.1 r b c cap bs s → fr2 σ.1 t.1 r c → t.2 = σ.2 →
    xw G (d + 4) mX5_hearPairs 14 [some (rf G r), some (.int (nI k)), some (.int (nI e)), some (.int (nI i)), x4, x5, x6] [] t (rpost G σ r b c cap bs none F) := by
  have z250 : (250 : Int32).toInt = 250 := rfl
  have z1 : (1 : Int32).toInt = 1 := rfl
  have fin : ∀ (s : pS) (t : xS) (x3 x4 x5 x6 : Option Value), s.2.2.2.1[k]? = some (nI lr) → hLack k (nI lr) s = F → rdw G t.1 r b c cap bs s → fr2 σ.1 t.1 r c → t.2 = σ.2 → xw G (d + 4) mX5_hearPairs 109 [some (rf G r), some (.int (nI k)), some (.int (nI e)), x3, x4, x5, x6] [] t (rpost G σ r b c cap bs none F) := by
    intro s t x3 x4 x5 x6 hx hF h g kk
    refine xgo 80 rfl ?_
    try simp only [xlo0, List.map_cons, List.map_nil, List.length_cons, List.length_nil, xrs, xr0, Nat.reduceAdd, Nat.reduceSub, List.cons_append, List.nil_append, List.set_cons_zero, List.set_cons_succ, Option.toList_none, Option.toList_some, nI_1]
    refine xcV 5 rfl rfl rfl (c_RD_refuseIfLacking h hs hk hx) rfl kX5_refuseIfLacking iX5_refuseIfLacking h.1 ⟨_, rfl, rfl⟩ rfl rfl (Nat.le_of_ble_eq_true rfl) (fun v1 s1 q1 => ?_)
    obtain ⟨rfl, p, g1, k1⟩ := q1
    refine xgo 80 rfl ?_
    try simp only [xlo0, List.map_cons, List.map_nil, List.length_cons, List.length_nil, xrs, xr0, Nat.reduceAdd, Nat.reduceSub, List.cons_append, List.nil_append, List.set_cons_zero, List.set_cons_succ, Option.toList_none, Option.toList_some, nI_1]
    refine xi_ret_v rfl rfl ⟨rfl, by rw [← hF]; exact p, g.tr g1, k1.trans kk⟩
  intro n
  induction n with
  | zero =>
    intro i s t x4 x5 x6 w hi hw hl hx hF h g kk
    have hi' : i = 250 := by omega
    subst hi'
    refine xgo 80 rfl ?_
    try simp only [xlo0, List.map_cons, List.map_nil, List.length_cons, List.length_nil, xrs, xr0, Nat.reduceAdd, Nat.reduceSub, List.cons_append, List.nil_append, List.set_cons_zero, List.set_cons_succ, Option.toList_none, Option.toList_some, nI_1]
    refine xi_icmpge rfl (fun c1 => ?_) (fun c1 => ?_)
    · exact fin s t _ _ _ _ hx hF h g kk
    · exact absurd (by decide) c1
  | succ n ih =>
    intro i s t x4 x5 x6 w hi hw hl hx hF h g kk
    have hU : hUntil (hPairs1 bs k e (nI lr)) e (n + 1) s = (if e ≤ s.1 ∨ s.2.1.isSome = true then s else hUntil (hPairs1 bs k e (nI lr)) e n (hPairs1 bs k e (nI lr) s)) := rfl
    rw [hU] at hF
    have hlen := h.len
    have hrw := rwb_eq hw hk
    refine xgo 80 rfl ?_
    try simp only [xlo0, List.map_cons, List.map_nil, List.length_cons, List.length_nil, xrs, xr0, Nat.reduceAdd, Nat.reduceSub, List.cons_append, List.nil_append, List.set_cons_zero, List.set_cons_succ, Option.toList_none, Option.toList_some, nI_1]
    refine xi_icmpge rfl (fun c1 => ?_) (fun c1 => ?_)
    · exact absurd c1 (by rw [i_le, i_n (by omega), z250]; omega)
    refine xgo 80 rfl ?_
    try simp only [xlo0, List.map_cons, List.map_nil, List.length_cons, List.length_nil, xrs, xr0, Nat.reduceAdd, Nat.reduceSub, List.cons_append, List.nil_append, List.set_cons_zero, List.set_cons_succ, Option.toList_none, Option.toList_some, nI_1]
    refine xg 5 rfl rfl rfl h.1 rfl ?_
    refine xgo 80 rfl ?_
    try simp only [xlo0, List.map_cons, List.map_nil, List.length_cons, List.length_nil, xrs, xr0, Nat.reduceAdd, Nat.reduceSub, List.cons_append, List.nil_append, List.set_cons_zero, List.set_cons_succ, Option.toList_none, Option.toList_some, nI_1]
    refine xi_icmpge rfl (fun c2 => ?_) (fun c2 => ?_)
    · rw [i_le, i_n (by omega), i_n (by omega)] at c2
      rw [if_pos (Or.inl (by omega))] at hF
      exact fin s t _ _ _ _ hx hF h g kk
    rw [i_le, i_n (by omega), i_n (by omega)] at c2
    refine xgo 80 rfl ?_
    try simp only [xlo0, List.map_cons, List.map_nil, List.length_cons, List.length_nil, xrs, xr0, Nat.reduceAdd, Nat.reduceSub, List.cons_append, List.nil_append, List.set_cons_zero, List.set_cons_succ, Option.toList_none, Option.toList_some, nI_1]
    refine xcV 5 rfl rfl rfl (c_RD_isFine h) rfl kX5_isFine iX5_isFine h.1 ⟨_, rfl, rfl⟩ rfl rfl (Nat.le_of_ble_eq_true rfl) (fun v1 s1 q1 => ?_)
    obtain ⟨rfl, rfl⟩ := q1
    cases hwr : s.2.1 with
    | some ww =>
      rw [if_pos (Or.inr (by rw [hwr]; rfl))] at hF
      refine xgo 80 rfl ?_
      try simp only [xlo0, List.map_cons, List.map_nil, List.length_cons, List.length_nil, xrs, xr0, Nat.reduceAdd, Nat.reduceSub, List.cons_append, List.nil_append, List.set_cons_zero, List.set_cons_succ, Option.toList_none, Option.toList_some, nI_1]
      refine xi_ifeq rfl (fun c3 => ?_) (fun c3 => ?_)
      · exact fin s _ _ _ _ _ hx hF h g kk
      · exact absurd rfl c3
    | none =>
      rw [if_neg (by rw [hwr]; simp; omega)] at hF
      refine xgo 80 rfl ?_
      try simp only [xlo0, List.map_cons, List.map_nil, List.length_cons, List.length_nil, xrs, xr0, Nat.reduceAdd, Nat.reduceSub, List.cons_append, List.nil_append, List.set_cons_zero, List.set_cons_succ, Option.toList_none, Option.toList_some, nI_1]
      refine xi_ifeq rfl (fun c3 => ?_) (fun c3 => ?_)
      · exact absurd c3 (by decide)
      have step : ∀ (hi' y4 : Int32), hi' = (if s.1 + 1 = e then 0 else nI lr - nI (rwb s k).length) → xw G (d + 4) mX5_hearPairs 69 [some (rf G r), some (.int (nI k)), some (.int (nI e)), some (.int (nI i)), some (.int y4), x5, x6] [.int hi', .int 1, rf G r] s1 (rpost G σ r b c cap bs none F) := by
        intro hi' y4 hh
        refine xgo 80 rfl ?_
        try simp only [xlo0, List.map_cons, List.map_nil, List.length_cons, List.length_nil, xrs, xr0, Nat.reduceAdd, Nat.reduceSub, List.cons_append, List.nil_append, List.set_cons_zero, List.set_cons_succ, Option.toList_none, Option.toList_some, nI_1]
        refine xcV 5 rfl rfl rfl (c_RD_next (lo := 1) (hi := hi') h hs) rfl kX5_next iX5_next h.1 ⟨_, rfl, rfl⟩ rfl rfl (Nat.le_of_ble_eq_true rfl) (fun v2 s2 q2 => ?_)
        obtain ⟨rfl, p2, g2, k2⟩ := q2
        generalize ho : nxt bs 1 hi' s = O at p2 ⊢
        have hOr : O.2.2.2 = s.2.2 := by rw [← ho]; exact nxt_rest ..
        refine xgo 80 rfl ?_
        try simp only [xlo0, List.map_cons, List.map_nil, List.length_cons, List.length_nil, xrs, xr0, Nat.reduceAdd, Nat.reduceSub, List.cons_append, List.nil_append, List.set_cons_zero, List.set_cons_succ, Option.toList_none, Option.toList_some, nI_1]
        refine xcV 5 rfl rfl rfl (c_RD_next (lo := 0) (hi := 255) p2 hs) rfl kX5_next iX5_next p2.1 ⟨_, rfl, rfl⟩ rfl rfl (Nat.le_of_ble_eq_true rfl) (fun v3 s3 q3 => ?_)
        obtain ⟨rfl, p3, g3, k3⟩ := q3
        generalize hy : nxt bs 0 255 O.2 = Y at p3 ⊢
        have hYr : Y.2.2.2 = s.2.2 := by rw [← hy, nxt_rest]; exact hOr
        refine xgo 80 rfl ?_
        try simp only [xlo0, List.map_cons, List.map_nil, List.length_cons, List.length_nil, xrs, xr0, Nat.reduceAdd, Nat.reduceSub, List.cons_append, List.nil_append, List.set_cons_zero, List.set_cons_succ, Option.toList_none, Option.toList_some, nI_1]
        refine xcV 5 rfl rfl rfl (c_RD_isFine p3) rfl kX5_isFine iX5_isFine p3.1 ⟨_, rfl, rfl⟩ rfl rfl (Nat.le_of_ble_eq_true rfl) (fun v4 s4 q4 => ?_)
        obtain ⟨rfl, rfl⟩ := q4
        cases hf : Y.2.2.1 with
        | some ww =>
          have e1 : hPairs1 bs k e (nI lr) s = Y.2 := by unfold hPairs1; simp only [← hh, ho, hy, hf]; rfl
          rw [e1] at hF
          refine xgo 80 rfl ?_
          try simp only [xlo0, List.map_cons, List.map_nil, List.length_cons, List.length_nil, xrs, xr0, Nat.reduceAdd, Nat.reduceSub, List.cons_append, List.nil_append, List.set_cons_zero, List.set_cons_succ, Option.toList_none, Option.toList_some, nI_1]
          refine xi_ifeq rfl (fun c4 => ?_) (fun c4 => ?_)
          · refine xto 14 80 rfl ?_
            try simp only [xlo0, List.map_cons, List.map_nil, List.length_cons, List.length_nil, xrs, xr0, Nat.reduceAdd, Nat.reduceSub, List.cons_append, List.nil_append, List.set_cons_zero, List.set_cons_succ, Option.toList_none, Option.toList_some, nI_1]
            exact ih (i + 1) Y.2 _ _ _ _ w (by omega) (by rw [hYr]; exact hw) hl (by rw [hYr]; exact hx) hF p3 ((g.tr g2).tr g3) (k3.trans (k2.trans kk))
          · exact absurd rfl c4
        | none =>
          obtain ⟨a1, a2, a3, a4⟩ := nxt_fine (bs := bs) (lo := 0) (hi := 255) (s := O.2) (by rw [hy]; exact hf)
          obtain ⟨b1, b2, b3, b4⟩ := nxt_fine (bs := bs) (lo := 1) (hi := hi') (s := s) (by rw [ho]; exact a1)
          rw [ho, i_le, z1] at b2
          rw [ho, i_le] at b3
          have hlast : ¬ s.1 + 1 = e := by
            intro hq
            rw [if_pos hq] at hh
            rw [hh] at b3
            have : (0 : Int32).toInt = 0 := rfl
            omega
          rw [if_neg hlast, hrw, nI_subN hl] at hh
          rw [hh, i_n (by omega)] at b3
          have hO1 : O.1 = nI O.1.toInt.toNat := by rw [i_eq, i_n (by omega)]; omega
          have e1 : hPairs1 bs k e (nI lr) s = srow k (w.2.2 ++ List.replicate O.1.toInt.toNat Y.1) Y.2 := by
            unfold hPairs1
            simp only [hrw, nI_subN hl, if_neg hlast, ← hh, ho, hy, hf]
            rfl
          have hw3 : Y.2.2.2.1.2.2.2[k]? = some w := by rw [hYr]; exact hw
          refine xgo 80 rfl ?_
          try simp only [xlo0, List.map_cons, List.map_nil, List.length_cons, List.length_nil, xrs, xr0, Nat.reduceAdd, Nat.reduceSub, List.cons_append, List.nil_append, List.set_cons_zero, List.set_cons_succ, Option.toList_none, Option.toList_some, nI_1]
          refine xi_ifeq rfl (fun c4 => ?_) (fun c4 => ?_)
          · exact absurd c4 (by decide)
          refine xgo 80 rfl ?_
          try simp only [xlo0, List.map_cons, List.map_nil, List.length_cons, List.length_nil, xrs, xr0, Nat.reduceAdd, Nat.reduceSub, List.cons_append, List.nil_append, List.set_cons_zero, List.set_cons_succ, Option.toList_none, Option.toList_some, nI_1]
          refine xg 5 rfl rfl rfl p3.1 rfl ?_
          refine xgo 80 rfl ?_
          try simp only [xlo0, List.map_cons, List.map_nil, List.length_cons, List.length_nil, xrs, xr0, Nat.reduceAdd, Nat.reduceSub, List.cons_append, List.nil_append, List.set_cons_zero, List.set_cons_succ, Option.toList_none, Option.toList_some, nI_1]
          rw [hO1]
          refine xgo 80 rfl ?_
          try simp only [xlo0, List.map_cons, List.map_nil, List.length_cons, List.length_nil, xrs, xr0, Nat.reduceAdd, Nat.reduceSub, List.cons_append, List.nil_append, List.set_cons_zero, List.set_cons_succ, Option.toList_none, Option.toList_some, nI_1]
          refine xcV 5 rfl rfl rfl (c_CT_putLike (r := k) (m := O.1.toInt.toNat) (b := Y.1) p3.say hw3 (by omega)) rfl kX2_putLike iX2_putLike p3.say.obj ⟨_, rfl, rfl⟩ rfl rfl (Nat.le_of_ble_eq_true rfl) (fun v5 s5 q5 => ?_)
          obtain ⟨rfl, u1, u2, u3⟩ := q5
          have p5 := p3.resaid hs u2 u1
          refine xto 14 80 rfl ?_
          try simp only [xlo0, List.map_cons, List.map_nil, List.length_cons, List.length_nil, xrs, xr0, Nat.reduceAdd, Nat.reduceSub, List.cons_append, List.nil_append, List.set_cons_zero, List.set_cons_succ, Option.toList_none, Option.toList_some, nI_1]
          refine ih (i + 1) (hPairs1 bs k e (nI lr) s) s5 _ _ _ (w.1, w.2.1, w.2.2 ++ List.replicate O.1.toInt.toNat Y.1) (by omega) (by rw [e1]; exact rset_get hw3 _) (by show (w.2.2 ++ _).length ≤ lr; rw [List.length_append, List.length_replicate]; omega) (by rw [e1]; show Y.2.2.2.2.1[k]? = _; rw [hYr]; exact hx) hF (by rw [e1]; exact p5) (((g.tr g2).tr g3).tr (fr2.said u2)) (u3.trans (k3.trans (k2.trans kk)))
      refine xgo 80 rfl ?_
      try simp only [xlo0, List.map_cons, List.map_nil, List.length_cons, List.length_nil, xrs, xr0, Nat.reduceAdd, Nat.reduceSub, List.cons_append, List.nil_append, List.set_cons_zero, List.set_cons_succ, Option.toList_none, Option.toList_some, nI_1]
      refine xg 5 rfl rfl rfl h.1 rfl ?_
      refine xgo 80 rfl ?_
      try simp only [xlo0, List.map_cons, List.map_nil, List.length_cons, List.length_nil, xrs, xr0, Nat.reduceAdd, Nat.reduceSub, List.cons_append, List.nil_append, List.set_cons_zero, List.set_cons_succ, Option.toList_none, Option.toList_some, nI_1]
      refine xi_icmpne rfl (fun c4 => ?_) (fun c4 => ?_)
      · rw [i_eq, i_n (by omega), i_n (by omega)] at c4
        refine xgo 80 rfl ?_
        try simp only [xlo0, List.map_cons, List.map_nil, List.length_cons, List.length_nil, xrs, xr0, Nat.reduceAdd, Nat.reduceSub, List.cons_append, List.nil_append, List.set_cons_zero, List.set_cons_succ, Option.toList_none, Option.toList_some, nI_1]
        refine xi_ifeq rfl (fun c5 => ?_) (fun c5 => ?_)
        · refine xgo 80 rfl ?_
          try simp only [xlo0, List.map_cons, List.map_nil, List.length_cons, List.length_nil, xrs, xr0, Nat.reduceAdd, Nat.reduceSub, List.cons_append, List.nil_append, List.set_cons_zero, List.set_cons_succ, Option.toList_none, Option.toList_some, nI_1]
          refine xcV 5 rfl rfl rfl (c_RD_lacking h hk hx) rfl kX5_lacking iX5_lacking h.1 ⟨_, rfl, rfl⟩ rfl rfl (Nat.le_of_ble_eq_true rfl) (fun v2 s2 q2 => ?_)
          obtain ⟨rfl, rfl⟩ := q2
          exact step _ _ (by rw [if_neg (by omega)])
        · exact absurd rfl c5
      · rw [i_eq, i_n (by omega), i_n (by omega)] at c4
        refine xgo 80 rfl ?_
        try simp only [xlo0, List.map_cons, List.map_nil, List.length_cons, List.length_nil, xrs, xr0, Nat.reduceAdd, Nat.reduceSub, List.cons_append, List.nil_append, List.set_cons_zero, List.set_cons_succ, Option.toList_none, Option.toList_some, nI_1]
        refine xi_ifeq rfl (fun c5 => ?_) (fun c5 => ?_)
        · exact absurd c5 (by decide)
        · refine xto 69 80 rfl ?_
          try simp only [xlo0, List.map_cons, List.map_nil, List.length_cons, List.length_nil, xrs, xr0, Nat.reduceAdd, Nat.reduceSub, List.cons_append, List.nil_append, List.set_cons_zero, List.set_cons_succ, Option.toList_none, Option.toList_some, nI_1]
          exact step 0 _ (by rw [if_pos (by omega)])
