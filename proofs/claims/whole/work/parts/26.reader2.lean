def hTitle (bs : List Int32) (s : pS) : pS :=
  let s2 := (nxt bs 75 75 (nxt bs 80 80 s).2).2
  let n := nxt bs 0 63 s2
  let e := nxt bs 0 99 n.2
  let m := nxt bs 0 3 e.2
  (m.2.1, m.2.2.1, ((n.1, e.1, m.1 - m.1 / 2 * 2, if m.1 < 2 then 0 else 1), m.2.2.2.1.2), m.2.2.2.2)
set_option maxRecDepth 100000 in
set_option maxHeartbeats 8000000 in
theorem c_RD_hearTitle {G : xG} {d r b c cap : Nat} {bs : List Int32} {s : pS} {σ : xS} (h : rdw G σ.1 r b c cap bs s) (hs : rsep r b c) : xm G (d + 2) mX5_hearTitle [rf G r] σ (rpost G σ r b c cap bs none (hTitle bs s)) := by
  refine xm_at 4 rfl (by decide) (Nat.le_of_ble_eq_true rfl) (by simp [Value.category]) tX5_hearTitle_ok ?_
  try simp only [xlo0, List.map_cons, List.map_nil, List.length_cons, List.length_nil, xrs, xr0, Nat.reduceAdd, Nat.reduceSub, List.cons_append, List.nil_append, List.set_cons_zero, List.set_cons_succ, Option.toList_none, Option.toList_some, nI_1]
  refine xgo 80 rfl ?_
  try simp only [xlo0, List.map_cons, List.map_nil, List.length_cons, List.length_nil, xrs, xr0, Nat.reduceAdd, Nat.reduceSub, List.cons_append, List.nil_append, List.set_cons_zero, List.set_cons_succ, Option.toList_none, Option.toList_some, nI_1]
  refine xcV 5 rfl rfl rfl (c_RD_next (lo := 80) (hi := 80) h hs) rfl kX5_next iX5_next h.1 ⟨_, rfl, rfl⟩ rfl rfl (Nat.le_of_ble_eq_true rfl) (fun v1 s1 q1 => ?_)
  obtain ⟨rfl, p1, g1, k1⟩ := q1
  refine xgo 80 rfl ?_
  try simp only [xlo0, List.map_cons, List.map_nil, List.length_cons, List.length_nil, xrs, xr0, Nat.reduceAdd, Nat.reduceSub, List.cons_append, List.nil_append, List.set_cons_zero, List.set_cons_succ, Option.toList_none, Option.toList_some, nI_1]
  refine xcV 5 rfl rfl rfl (c_RD_next (lo := 75) (hi := 75) p1 hs) rfl kX5_next iX5_next p1.1 ⟨_, rfl, rfl⟩ rfl rfl (Nat.le_of_ble_eq_true rfl) (fun v2 s2 q2 => ?_)
  obtain ⟨rfl, p2, g2, k2⟩ := q2
  refine xgo 80 rfl ?_
  try simp only [xlo0, List.map_cons, List.map_nil, List.length_cons, List.length_nil, xrs, xr0, Nat.reduceAdd, Nat.reduceSub, List.cons_append, List.nil_append, List.set_cons_zero, List.set_cons_succ, Option.toList_none, Option.toList_some, nI_1]
  refine xcV 5 rfl rfl rfl (c_RD_next (lo := 0) (hi := 63) p2 hs) rfl kX5_next iX5_next p2.1 ⟨_, rfl, rfl⟩ rfl rfl (Nat.le_of_ble_eq_true rfl) (fun v3 s3 q3 => ?_)
  obtain ⟨rfl, p3, g3, k3⟩ := q3
  refine xgo 80 rfl ?_
  try simp only [xlo0, List.map_cons, List.map_nil, List.length_cons, List.length_nil, xrs, xr0, Nat.reduceAdd, Nat.reduceSub, List.cons_append, List.nil_append, List.set_cons_zero, List.set_cons_succ, Option.toList_none, Option.toList_some, nI_1]
  refine xcV 5 rfl rfl rfl (c_RD_next (lo := 0) (hi := 99) p3 hs) rfl kX5_next iX5_next p3.1 ⟨_, rfl, rfl⟩ rfl rfl (Nat.le_of_ble_eq_true rfl) (fun v4 s4 q4 => ?_)
  obtain ⟨rfl, p4, g4, k4⟩ := q4
  refine xgo 80 rfl ?_
  try simp only [xlo0, List.map_cons, List.map_nil, List.length_cons, List.length_nil, xrs, xr0, Nat.reduceAdd, Nat.reduceSub, List.cons_append, List.nil_append, List.set_cons_zero, List.set_cons_succ, Option.toList_none, Option.toList_some, nI_1]
  refine xcV 5 rfl rfl rfl (c_RD_next (lo := 0) (hi := 3) p4 hs) rfl kX5_next iX5_next p4.1 ⟨_, rfl, rfl⟩ rfl rfl (Nat.le_of_ble_eq_true rfl) (fun v5 s5 q5 => ?_)
  obtain ⟨rfl, p5, g5, k5⟩ := q5
  generalize hm : nxt bs 0 3 (nxt bs 0 99 (nxt bs 0 63 (nxt bs 75 75 (nxt bs 80 80 s).2).2).2).2 = m at p5 ⊢
  generalize hn : nxt bs 0 63 (nxt bs 75 75 (nxt bs 80 80 s).2).2 = n at hm p5 ⊢
  generalize he : nxt bs 0 99 n.2 = e at hm p5 ⊢
  have hT : hTitle bs s = (m.2.1, m.2.2.1, ((n.1, e.1, m.1 - m.1 / 2 * 2, if m.1 < 2 then 0 else 1), m.2.2.2.1.2), m.2.2.2.2) := by
    unfold hTitle
    simp only [hn, he, hm]
  have g := (((g1.tr g2).tr g3).tr g4).tr g5
  have k := k5.trans (k4.trans (k3.trans (k2.trans k1)))
  refine xgo 80 rfl ?_
  try simp only [xlo0, List.map_cons, List.map_nil, List.length_cons, List.length_nil, xrs, xr0, Nat.reduceAdd, Nat.reduceSub, List.cons_append, List.nil_append, List.set_cons_zero, List.set_cons_succ, Option.toList_none, Option.toList_some, nI_1]
  refine xg 5 rfl rfl rfl p5.1 rfl ?_
  refine xgo 80 rfl ?_
  try simp only [xlo0, List.map_cons, List.map_nil, List.length_cons, List.length_nil, xrs, xr0, Nat.reduceAdd, Nat.reduceSub, List.cons_append, List.nil_append, List.set_cons_zero, List.set_cons_succ, Option.toList_none, Option.toList_some, nI_1]
  refine xgo 80 rfl ?_
  try simp only [xlo0, List.map_cons, List.map_nil, List.length_cons, List.length_nil, xrs, xr0, Nat.reduceAdd, Nat.reduceSub, List.cons_append, List.nil_append, List.set_cons_zero, List.set_cons_succ, Option.toList_none, Option.toList_some, nI_1]
  refine xi_irem rfl (by decide) ?_
  refine xgo 80 rfl ?_
  try simp only [xlo0, List.map_cons, List.map_nil, List.length_cons, List.length_nil, xrs, xr0, Nat.reduceAdd, Nat.reduceSub, List.cons_append, List.nil_append, List.set_cons_zero, List.set_cons_succ, Option.toList_none, Option.toList_some, nI_1]
  refine xcV 5 rfl rfl rfl (c_CT_title p5.say) rfl kX2_title iX2_title p5.say.obj ⟨_, rfl, rfl⟩ rfl rfl (Nat.le_of_ble_eq_true rfl) (fun v6 s6 q6 => ?_)
  obtain ⟨rfl, t1, t2, t3⟩ := q6
  have p6 := p5.resaid hs t2 t1
  refine xgo 80 rfl ?_
  try simp only [xlo0, List.map_cons, List.map_nil, List.length_cons, List.length_nil, xrs, xr0, Nat.reduceAdd, Nat.reduceSub, List.cons_append, List.nil_append, List.set_cons_zero, List.set_cons_succ, Option.toList_none, Option.toList_some, nI_1]
  refine xg 5 rfl rfl rfl p6.1 rfl ?_
  refine xgo 80 rfl ?_
  try simp only [xlo0, List.map_cons, List.map_nil, List.length_cons, List.length_nil, xrs, xr0, Nat.reduceAdd, Nat.reduceSub, List.cons_append, List.nil_append, List.set_cons_zero, List.set_cons_succ, Option.toList_none, Option.toList_some, nI_1]
  refine xi_icmplt rfl (fun c1 => ?_) (fun c1 => ?_)
  · refine xgo 80 rfl ?_
    try simp only [xlo0, List.map_cons, List.map_nil, List.length_cons, List.length_nil, xrs, xr0, Nat.reduceAdd, Nat.reduceSub, List.cons_append, List.nil_append, List.set_cons_zero, List.set_cons_succ, Option.toList_none, Option.toList_some, nI_1]
    refine xp 5 rfl rfl rfl t1.obj rfl rfl rfl (fun s7 n7 f7 e7 => ?_)
    have hf : frz s6.1 s7.1 c 17 := frz.one f7 (by omega) (by omega)
    refine xgo 80 rfl ?_
    try simp only [xlo0, List.map_cons, List.map_nil, List.length_cons, List.length_nil, xrs, xr0, Nat.reduceAdd, Nat.reduceSub, List.cons_append, List.nil_append, List.set_cons_zero, List.set_cons_succ, Option.toList_none, Option.toList_some, nI_1]
    refine xi_ret_v rfl rfl ⟨rfl, ?_, (g.tr (fr2.said t2)).tr (fr2.said hf), e7.trans (t3.trans k)⟩
    rw [hT, if_pos c1]
    exact p6.resaid hs hf (t1.reobj f7 n7 (Or.inl rfl) (Or.inl rfl) (Or.inl rfl))
  · refine xgo 80 rfl ?_
    try simp only [xlo0, List.map_cons, List.map_nil, List.length_cons, List.length_nil, xrs, xr0, Nat.reduceAdd, Nat.reduceSub, List.cons_append, List.nil_append, List.set_cons_zero, List.set_cons_succ, Option.toList_none, Option.toList_some, nI_1]
    refine xp 5 rfl rfl rfl t1.obj rfl rfl rfl (fun s7 n7 f7 e7 => ?_)
    have hf : frz s6.1 s7.1 c 17 := frz.one f7 (by omega) (by omega)
    refine xgo 80 rfl ?_
    try simp only [xlo0, List.map_cons, List.map_nil, List.length_cons, List.length_nil, xrs, xr0, Nat.reduceAdd, Nat.reduceSub, List.cons_append, List.nil_append, List.set_cons_zero, List.set_cons_succ, Option.toList_none, Option.toList_some, nI_1]
    refine xi_ret_v rfl rfl ⟨rfl, ?_, (g.tr (fr2.said t2)).tr (fr2.said hf), e7.trans (t3.trans k)⟩
    rw [hT, if_neg c1]
    exact p6.resaid hs hf (t1.reobj f7 n7 (Or.inl rfl) (Or.inl rfl) (Or.inl rfl))
/-- one need is heard -/
def hNeed (bs : List Int32) (s : pS) : pS :=
  let n := nxt bs 0 63 s
  let s1 := if n.2.2.2.1.2.1.any (fun e => e.1 == n.1) then refS s.1 n.2 else n.2
  let e := nxt bs 0 99 s1
  let x := nxt bs 0 1 e.2
  (x.2.1, x.2.2.1, (x.2.2.2.1.1, x.2.2.2.1.2.1 ++ [(n.1, e.1, if x.1 = 1 then 1 else 0)], x.2.2.2.1.2.2), x.2.2.2.2)
def hLoop (f : pS → pS) : Nat → pS → pS
  | 0, s => s
  | n + 1, s => if s.2.1.isSome then s else hLoop f n (f s)
def hNeeds (bs : List Int32) (s : pS) : pS := hLoop (hNeed bs) (nxt bs 0 4 s).1.toInt.toNat (nxt bs 0 4 s).2
theorem refS_rest (x : Nat) (s : pS) : (refS x s).2.2 = s.2.2 := by unfold refS; split <;> rfl
theorem bone (x : Int32) : (if x = 1 then (1 : Int32) else 0) &&& 1 = if x = 1 then 1 else 0 := by split <;> rfl
set_option maxRecDepth 100000 in
set_option maxHeartbeats 8000000 in
theorem l_RD_hearNeeds {G : xG} {d r b c cap m : Nat} {bs : List Int32} {F : pS} {σ : xS} (hs : rsep r b c) (hm : m ≤ 4) : ∀ (n i : Nat) (s : pS) (t : xS) (x3 x4 x5 x6 : Option Value), i + n = m → s.2.2.1.2.1.length = i → hLoop (hNeed bs) n s = F → rdw G t.1 r b c cap bs s → fr2 σ.1 t.1 r c → t.2 = σ.2 →
    xw G (d + 2) mX5_hearNeeds 9 [some (rf G r), some (.int (nI m)), some (.int (nI i)), x3, x4, x5, x6] [] t (rpost G σ r b c cap bs none F) := by
  intro n
  induction n with
  | zero =>
    intro i s t x3 x4 x5 x6 hi hl hF h g k
    have hi' : i = m := by omega
    subst hi'
    subst hF
    refine xgo 80 rfl ?_
    try simp only [xlo0, List.map_cons, List.map_nil, List.length_cons, List.length_nil, xrs, xr0, Nat.reduceAdd, Nat.reduceSub, List.cons_append, List.nil_append, List.set_cons_zero, List.set_cons_succ, Option.toList_none, Option.toList_some, nI_1]
    refine xi_icmpge rfl (fun c1 => ?_) (fun c1 => ?_)
    · refine xgo 80 rfl ?_
      try simp only [xlo0, List.map_cons, List.map_nil, List.length_cons, List.length_nil, xrs, xr0, Nat.reduceAdd, Nat.reduceSub, List.cons_append, List.nil_append, List.set_cons_zero, List.set_cons_succ, Option.toList_none, Option.toList_some, nI_1]
      refine xi_ret_v rfl rfl ⟨rfl, h, g, k⟩
    · exact absurd (i_le.mpr (Int.le_refl _)) c1
  | succ n ih =>
    intro i s t x3 x4 x5 x6 hi hl hF h g k
    have hF : (if s.2.1.isSome = true then s else hLoop (hNeed bs) n (hNeed bs s)) = F := hF
    refine xgo 80 rfl ?_
    try simp only [xlo0, List.map_cons, List.map_nil, List.length_cons, List.length_nil, xrs, xr0, Nat.reduceAdd, Nat.reduceSub, List.cons_append, List.nil_append, List.set_cons_zero, List.set_cons_succ, Option.toList_none, Option.toList_some, nI_1]
    refine xi_icmpge rfl (fun c1 => ?_) (fun c1 => ?_)
    · exact absurd c1 (by rw [i_le, i_n (by omega), i_n (by omega)]; omega)
    refine xgo 80 rfl ?_
    try simp only [xlo0, List.map_cons, List.map_nil, List.length_cons, List.length_nil, xrs, xr0, Nat.reduceAdd, Nat.reduceSub, List.cons_append, List.nil_append, List.set_cons_zero, List.set_cons_succ, Option.toList_none, Option.toList_some, nI_1]
    refine xcV 5 rfl rfl rfl (c_RD_isFine h) rfl kX5_isFine iX5_isFine h.1 ⟨_, rfl, rfl⟩ rfl rfl (Nat.le_of_ble_eq_true rfl) (fun v1 s1 q1 => ?_)
    obtain ⟨rfl, rfl⟩ := q1
    cases hw : s.2.1 with
    | some w =>
      rw [hw] at hF
      have hF : s = F := hF
      subst hF
      refine xgo 80 rfl ?_
      try simp only [xlo0, List.map_cons, List.map_nil, List.length_cons, List.length_nil, xrs, xr0, Nat.reduceAdd, Nat.reduceSub, List.cons_append, List.nil_append, List.set_cons_zero, List.set_cons_succ, Option.toList_none, Option.toList_some, nI_1]
      refine xi_ifeq rfl (fun c2 => ?_) (fun c2 => ?_)
      · refine xgo 80 rfl ?_
        try simp only [xlo0, List.map_cons, List.map_nil, List.length_cons, List.length_nil, xrs, xr0, Nat.reduceAdd, Nat.reduceSub, List.cons_append, List.nil_append, List.set_cons_zero, List.set_cons_succ, Option.toList_none, Option.toList_some, nI_1]
        refine xi_ret_v rfl rfl ⟨rfl, h, g, k⟩
      · exact absurd rfl c2
    | none =>
      rw [hw, if_neg (by decide)] at hF
      refine xgo 80 rfl ?_
      try simp only [xlo0, List.map_cons, List.map_nil, List.length_cons, List.length_nil, xrs, xr0, Nat.reduceAdd, Nat.reduceSub, List.cons_append, List.nil_append, List.set_cons_zero, List.set_cons_succ, Option.toList_none, Option.toList_some, nI_1]
      refine xi_ifeq rfl (fun c2 => ?_) (fun c2 => ?_)
      · exact absurd c2 (by decide)
      refine xgo 80 rfl ?_
      try simp only [xlo0, List.map_cons, List.map_nil, List.length_cons, List.length_nil, xrs, xr0, Nat.reduceAdd, Nat.reduceSub, List.cons_append, List.nil_append, List.set_cons_zero, List.set_cons_succ, Option.toList_none, Option.toList_some, nI_1]
      refine xg 5 rfl rfl rfl h.1 rfl ?_
      refine xgo 80 rfl ?_
      try simp only [xlo0, List.map_cons, List.map_nil, List.length_cons, List.length_nil, xrs, xr0, Nat.reduceAdd, Nat.reduceSub, List.cons_append, List.nil_append, List.set_cons_zero, List.set_cons_succ, Option.toList_none, Option.toList_some, nI_1]
      refine xcV 5 rfl rfl rfl (c_RD_next (lo := 0) (hi := 63) h hs) rfl kX5_next iX5_next h.1 ⟨_, rfl, rfl⟩ rfl rfl (Nat.le_of_ble_eq_true rfl) (fun v2 s2 q2 => ?_)
      obtain ⟨rfl, p2, g2, k2⟩ := q2
      generalize hn : nxt bs 0 63 s = N at p2 ⊢
      have hNr : N.2.2.2 = s.2.2 := by rw [← hn]; exact nxt_rest ..
      refine xgo 80 rfl ?_
      try simp only [xlo0, List.map_cons, List.map_nil, List.length_cons, List.length_nil, xrs, xr0, Nat.reduceAdd, Nat.reduceSub, List.cons_append, List.nil_append, List.set_cons_zero, List.set_cons_succ, Option.toList_none, Option.toList_some, nI_1]
      refine xg 5 rfl rfl rfl p2.1 rfl ?_
      refine xgo 80 rfl ?_
      try simp only [xlo0, List.map_cons, List.map_nil, List.length_cons, List.length_nil, xrs, xr0, Nat.reduceAdd, Nat.reduceSub, List.cons_append, List.nil_append, List.set_cons_zero, List.set_cons_succ, Option.toList_none, Option.toList_some, nI_1]
      refine xcV 5 rfl rfl rfl (c_CT_needsName (x := N.1) p2.say) rfl kX2_needsName iX2_needsName p2.say.obj ⟨_, rfl, rfl⟩ rfl rfl (Nat.le_of_ble_eq_true rfl) (fun v3 s3 q3 => ?_)
      obtain ⟨rfl, rfl⟩ := q3
      have cont2 : ∀ (s1 : pS) (t1 : xS), s1 = (if N.2.2.2.1.2.1.any (fun e => e.1 == N.1) then refS s.1 N.2 else N.2) → rdw G t1.1 r b c cap bs s1 → fr2 σ.1 t1.1 r c → t1.2 = σ.2 → xw G (d + 2) mX5_hearNeeds 52 [some (rf G r), some (.int (nI m)), some (.int (nI i)), some (.int (nI s.1)), some (.int N.1), x5, x6] [] t1 (rpost G σ r b c cap bs none F) := by
        intro s1 t1 hs1 h1 gg kk
        have hs1r : s1.2.2 = s.2.2 := by
          rw [hs1]
          split
          · rw [refS_rest, hNr]
          · exact hNr
        refine xgo 80 rfl ?_
        try simp only [xlo0, List.map_cons, List.map_nil, List.length_cons, List.length_nil, xrs, xr0, Nat.reduceAdd, Nat.reduceSub, List.cons_append, List.nil_append, List.set_cons_zero, List.set_cons_succ, Option.toList_none, Option.toList_some, nI_1]
        refine xcV 5 rfl rfl rfl (c_RD_next (lo := 0) (hi := 99) h1 hs) rfl kX5_next iX5_next h1.1 ⟨_, rfl, rfl⟩ rfl rfl (Nat.le_of_ble_eq_true rfl) (fun v4 s4 q4 => ?_)
        obtain ⟨rfl, p4, g4, k4⟩ := q4
        generalize he : nxt bs 0 99 s1 = E at p4 ⊢
        have hEr : E.2.2.2 = s1.2.2 := by rw [← he]; exact nxt_rest ..
        refine xgo 80 rfl ?_
        try simp only [xlo0, List.map_cons, List.map_nil, List.length_cons, List.length_nil, xrs, xr0, Nat.reduceAdd, Nat.reduceSub, List.cons_append, List.nil_append, List.set_cons_zero, List.set_cons_succ, Option.toList_none, Option.toList_some, nI_1]
        refine xcV 5 rfl rfl rfl (c_RD_next (lo := 0) (hi := 1) p4 hs) rfl kX5_next iX5_next p4.1 ⟨_, rfl, rfl⟩ rfl rfl (Nat.le_of_ble_eq_true rfl) (fun v5 s5 q5 => ?_)
        obtain ⟨rfl, p5, g5, k5⟩ := q5
        generalize hx : nxt bs 0 1 E.2 = X at p5 ⊢
        have hXr : X.2.2.2 = E.2.2.2 := by rw [← hx]; exact nxt_rest ..
        have hlen : X.2.2.2.1.2.1.length = i := by rw [hXr, hEr, hs1r]; exact hl
        have hNd : hNeed bs s = (X.2.1, X.2.2.1, (X.2.2.2.1.1, X.2.2.2.1.2.1 ++ [(N.1, E.1, if X.1 = 1 then 1 else 0)], X.2.2.2.1.2.2), X.2.2.2.2) := by
          unfold hNeed
          simp only [hn, ← hs1, he, hx]
        have fin : ∀ z : Int32, z = (if X.1 = 1 then 1 else 0) → xw G (d + 2) mX5_hearNeeds 88 [some (rf G r), some (.int (nI m)), some (.int (nI i)), some (.int (nI s.1)), some (.int N.1), some (.int E.1), some (.int X.1)] [.int z, .int E.1, .int N.1, rf G c] s5 (rpost G σ r b c cap bs none F) := by
          intro z hz
          refine xgo 80 rfl ?_
          try simp only [xlo0, List.map_cons, List.map_nil, List.length_cons, List.length_nil, xrs, xr0, Nat.reduceAdd, Nat.reduceSub, List.cons_append, List.nil_append, List.set_cons_zero, List.set_cons_succ, Option.toList_none, Option.toList_some, nI_1]
          refine xcV 5 rfl rfl rfl (c_CT_putNeed (x := N.1) (y := E.1) (z := z) p5.say (by omega) (by rw [hz]; exact bone _)) rfl kX2_putNeed iX2_putNeed p5.say.obj ⟨_, rfl, rfl⟩ rfl rfl (Nat.le_of_ble_eq_true rfl) (fun v6 s6 q6 => ?_)
          obtain ⟨rfl, t1, t2, t3⟩ := q6
          refine xto 9 80 rfl ?_
          try simp only [xlo0, List.map_cons, List.map_nil, List.length_cons, List.length_nil, xrs, xr0, Nat.reduceAdd, Nat.reduceSub, List.cons_append, List.nil_append, List.set_cons_zero, List.set_cons_succ, Option.toList_none, Option.toList_some, nI_1]
          refine ih (i + 1) (hNeed bs s) s6 _ _ _ _ (by omega) (by rw [hNd]; simp [hlen]) hF (by rw [hNd, ← hz]; exact p5.resaid hs t2 t1) (((gg.tr g4).tr g5).tr (fr2.said t2)) (t3.trans (k5.trans (k4.trans kk)))
        refine xgo 80 rfl ?_
        try simp only [xlo0, List.map_cons, List.map_nil, List.length_cons, List.length_nil, xrs, xr0, Nat.reduceAdd, Nat.reduceSub, List.cons_append, List.nil_append, List.set_cons_zero, List.set_cons_succ, Option.toList_none, Option.toList_some, nI_1]
        refine xg 5 rfl rfl rfl p5.1 rfl ?_
        refine xgo 80 rfl ?_
        try simp only [xlo0, List.map_cons, List.map_nil, List.length_cons, List.length_nil, xrs, xr0, Nat.reduceAdd, Nat.reduceSub, List.cons_append, List.nil_append, List.set_cons_zero, List.set_cons_succ, Option.toList_none, Option.toList_some, nI_1]
        refine xi_icmpne rfl (fun c4 => ?_) (fun c4 => ?_)
        · refine xto 88 80 rfl ?_
          try simp only [xlo0, List.map_cons, List.map_nil, List.length_cons, List.length_nil, xrs, xr0, Nat.reduceAdd, Nat.reduceSub, List.cons_append, List.nil_append, List.set_cons_zero, List.set_cons_succ, Option.toList_none, Option.toList_some, nI_1]
          exact fin 0 (by rw [if_neg c4])
        · refine xto 88 80 rfl ?_
          try simp only [xlo0, List.map_cons, List.map_nil, List.length_cons, List.length_nil, xrs, xr0, Nat.reduceAdd, Nat.reduceSub, List.cons_append, List.nil_append, List.set_cons_zero, List.set_cons_succ, Option.toList_none, Option.toList_some, nI_1]
          exact fin 1 (by rw [if_pos c4])
      cases ha : N.2.2.2.1.2.1.any (fun e => e.1 == N.1) with
      | false =>
        refine xgo 80 rfl ?_
        try simp only [xlo0, List.map_cons, List.map_nil, List.length_cons, List.length_nil, xrs, xr0, Nat.reduceAdd, Nat.reduceSub, List.cons_append, List.nil_append, List.set_cons_zero, List.set_cons_succ, Option.toList_none, Option.toList_some, nI_1]
        refine xi_ifeq rfl (fun c3 => ?_) (fun c3 => ?_)
        · exact cont2 N.2 _ (by rw [ha]; rfl) p2 (g.tr g2) (k2.trans k)
        · exact absurd rfl c3
      | true =>
        refine xgo 80 rfl ?_
        try simp only [xlo0, List.map_cons, List.map_nil, List.length_cons, List.length_nil, xrs, xr0, Nat.reduceAdd, Nat.reduceSub, List.cons_append, List.nil_append, List.set_cons_zero, List.set_cons_succ, Option.toList_none, Option.toList_some, nI_1]
        refine xi_ifeq rfl (fun c3 => ?_) (fun c3 => ?_)
        · exact absurd c3 (by decide)
        refine xgo 80 rfl ?_
        try simp only [xlo0, List.map_cons, List.map_nil, List.length_cons, List.length_nil, xrs, xr0, Nat.reduceAdd, Nat.reduceSub, List.cons_append, List.nil_append, List.set_cons_zero, List.set_cons_succ, Option.toList_none, Option.toList_some, nI_1]
        refine xcV 5 rfl rfl rfl (c_RD_refuseAt p2 hs h.len.1) rfl kX5_refuseAt iX5_refuseAt p2.1 ⟨_, rfl, rfl⟩ rfl rfl (Nat.le_of_ble_eq_true rfl) (fun v7 s7 q7 => ?_)
        obtain ⟨rfl, p7, g7, k7⟩ := q7
        exact cont2 _ _ (by rw [ha]; rfl) p7 ((g.tr g2).tr g7) (k7.trans (k2.trans k))
theorem nxt_rng {bs : List Int32} {lo hi : Int32} {s : pS} (h0 : lo ≤ hi) : lo ≤ (nxt bs lo hi s).1 ∧ (nxt bs lo hi s).1 ≤ hi := by
  unfold nxt
  split
  · exact ⟨i_le.mpr (Int.le_refl _), h0⟩
  · split
    · exact ⟨i_le.mpr (Int.le_refl _), h0⟩
    · next c =>
      rw [i_le, i_le]
      rw [i_lt, i_lt] at c
      dsimp only
      omega
set_option maxRecDepth 100000 in
set_option maxHeartbeats 8000000 in
theorem c_RD_hearNeeds {G : xG} {d r b c cap : Nat} {bs : List Int32} {s : pS} {σ : xS} (h : rdw G σ.1 r b c cap bs s) (hs : rsep r b c) (h0 : s.2.2.1.2.1 = []) : xm G (d + 2) mX5_hearNeeds [rf G r] σ (rpost G σ r b c cap bs none (hNeeds bs s)) := by
  have hrg := nxt_rng (bs := bs) (lo := 0) (hi := 4) (s := s) (by decide)
  rw [i_le, i_le] at hrg
  have z0 : (0 : Int32).toInt = 0 := rfl
  have z4 : (4 : Int32).toInt = 4 := rfl
  have hmn : (nxt bs 0 4 s).1 = nI (nxt bs 0 4 s).1.toInt.toNat := by rw [i_eq, i_n (by omega)]; omega
  refine xm_at 7 rfl (by decide) (Nat.le_of_ble_eq_true rfl) (by simp [Value.category]) tX5_hearNeeds_ok ?_
  try simp only [xlo0, List.map_cons, List.map_nil, List.length_cons, List.length_nil, xrs, xr0, Nat.reduceAdd, Nat.reduceSub, List.cons_append, List.nil_append, List.set_cons_zero, List.set_cons_succ, Option.toList_none, Option.toList_some, nI_1]
  refine xgo 80 rfl ?_
  try simp only [xlo0, List.map_cons, List.map_nil, List.length_cons, List.length_nil, xrs, xr0, Nat.reduceAdd, Nat.reduceSub, List.cons_append, List.nil_append, List.set_cons_zero, List.set_cons_succ, Option.toList_none, Option.toList_some, nI_1]
  refine xcV 5 rfl rfl rfl (c_RD_next (lo := 0) (hi := 4) h hs) rfl kX5_next iX5_next h.1 ⟨_, rfl, rfl⟩ rfl rfl (Nat.le_of_ble_eq_true rfl) (fun v1 s1 q1 => ?_)
  obtain ⟨rfl, p1, g1, k1⟩ := q1
  refine xto 9 80 rfl ?_
  try simp only [xlo0, List.map_cons, List.map_nil, List.length_cons, List.length_nil, xrs, xr0, Nat.reduceAdd, Nat.reduceSub, List.cons_append, List.nil_append, List.set_cons_zero, List.set_cons_succ, Option.toList_none, Option.toList_some, nI_1]
  rw [hmn]
  exact l_RD_hearNeeds hs (by omega) _ 0 _ s1 none none none none (by omega) (by rw [nxt_rest, h0]; rfl) rfl p1 g1 k1
/-- one seal is heard -/
def hSeal (bs : List Int32) (s : pS) : pS :=
  let n := nxt bs 0 15 s
  let s1 := if n.2.2.2.1.2.2.1.any (fun e => e == n.1) then refS s.1 n.2 else n.2
  (s1.1, s1.2.1, (s1.2.2.1.1, s1.2.2.1.2.1, s1.2.2.1.2.2.1 ++ [n.1], s1.2.2.1.2.2.2), s1.2.2.2)
def hSeals (bs : List Int32) (s : pS) : pS := hLoop (hSeal bs) (nxt bs 0 4 s).1.toInt.toNat (nxt bs 0 4 s).2
set_option maxRecDepth 100000 in
set_option maxHeartbeats 8000000 in
theorem l_RD_hearSeals {G : xG} {d r b c cap m : Nat} {bs : List Int32} {F : pS} {σ : xS} (hs : rsep r b c) (hm : m ≤ 4) : ∀ (n i : Nat) (s : pS) (t : xS) (x3 x4 : Option Value), i + n = m → s.2.2.1.2.2.1.length = i → hLoop (hSeal bs) n s = F → rdw G t.1 r b c cap bs s → fr2 σ.1 t.1 r c → t.2 = σ.2 →
    xw G (d + 2) mX5_hearSeals 9 [some (rf G r), some (.int (nI m)), some (.int (nI i)), x3, x4] [] t (rpost G σ r b c cap bs none F) := by
  intro n
  induction n with
  | zero =>
    intro i s t x3 x4 hi hl hF h g k
    have hi' : i = m := by omega
    subst hi'
    subst hF
    refine xgo 80 rfl ?_
    try simp only [xlo0, List.map_cons, List.map_nil, List.length_cons, List.length_nil, xrs, xr0, Nat.reduceAdd, Nat.reduceSub, List.cons_append, List.nil_append, List.set_cons_zero, List.set_cons_succ, Option.toList_none, Option.toList_some, nI_1]
    refine xi_icmpge rfl (fun c1 => ?_) (fun c1 => ?_)
    · refine xgo 80 rfl ?_
      try simp only [xlo0, List.map_cons, List.map_nil, List.length_cons, List.length_nil, xrs, xr0, Nat.reduceAdd, Nat.reduceSub, List.cons_append, List.nil_append, List.set_cons_zero, List.set_cons_succ, Option.toList_none, Option.toList_some, nI_1]
      refine xi_ret_v rfl rfl ⟨rfl, h, g, k⟩
    · exact absurd (i_le.mpr (Int.le_refl _)) c1
  | succ n ih =>
    intro i s t x3 x4 hi hl hF h g k
    have hF : (if s.2.1.isSome = true then s else hLoop (hSeal bs) n (hSeal bs s)) = F := hF
    refine xgo 80 rfl ?_
    try simp only [xlo0, List.map_cons, List.map_nil, List.length_cons, List.length_nil, xrs, xr0, Nat.reduceAdd, Nat.reduceSub, List.cons_append, List.nil_append, List.set_cons_zero, List.set_cons_succ, Option.toList_none, Option.toList_some, nI_1]
    refine xi_icmpge rfl (fun c1 => ?_) (fun c1 => ?_)
    · exact absurd c1 (by rw [i_le, i_n (by omega), i_n (by omega)]; omega)
    refine xgo 80 rfl ?_
    try simp only [xlo0, List.map_cons, List.map_nil, List.length_cons, List.length_nil, xrs, xr0, Nat.reduceAdd, Nat.reduceSub, List.cons_append, List.nil_append, List.set_cons_zero, List.set_cons_succ, Option.toList_none, Option.toList_some, nI_1]
    refine xcV 5 rfl rfl rfl (c_RD_isFine h) rfl kX5_isFine iX5_isFine h.1 ⟨_, rfl, rfl⟩ rfl rfl (Nat.le_of_ble_eq_true rfl) (fun v1 s1 q1 => ?_)
    obtain ⟨rfl, rfl⟩ := q1
    cases hw : s.2.1 with
    | some w =>
      rw [hw] at hF
      have hF : s = F := hF
      subst hF
      refine xgo 80 rfl ?_
      try simp only [xlo0, List.map_cons, List.map_nil, List.length_cons, List.length_nil, xrs, xr0, Nat.reduceAdd, Nat.reduceSub, List.cons_append, List.nil_append, List.set_cons_zero, List.set_cons_succ, Option.toList_none, Option.toList_some, nI_1]
      refine xi_ifeq rfl (fun c2 => ?_) (fun c2 => ?_)
      · refine xgo 80 rfl ?_
        try simp only [xlo0, List.map_cons, List.map_nil, List.length_cons, List.length_nil, xrs, xr0, Nat.reduceAdd, Nat.reduceSub, List.cons_append, List.nil_append, List.set_cons_zero, List.set_cons_succ, Option.toList_none, Option.toList_some, nI_1]
        refine xi_ret_v rfl rfl ⟨rfl, h, g, k⟩
      · exact absurd rfl c2
    | none =>
      rw [hw, if_neg (by decide)] at hF
      refine xgo 80 rfl ?_
      try simp only [xlo0, List.map_cons, List.map_nil, List.length_cons, List.length_nil, xrs, xr0, Nat.reduceAdd, Nat.reduceSub, List.cons_append, List.nil_append, List.set_cons_zero, List.set_cons_succ, Option.toList_none, Option.toList_some, nI_1]
      refine xi_ifeq rfl (fun c2 => ?_) (fun c2 => ?_)
      · exact absurd c2 (by decide)
      refine xgo 80 rfl ?_
      try simp only [xlo0, List.map_cons, List.map_nil, List.length_cons, List.length_nil, xrs, xr0, Nat.reduceAdd, Nat.reduceSub, List.cons_append, List.nil_append, List.set_cons_zero, List.set_cons_succ, Option.toList_none, Option.toList_some, nI_1]
      refine xg 5 rfl rfl rfl h.1 rfl ?_
      refine xgo 80 rfl ?_
      try simp only [xlo0, List.map_cons, List.map_nil, List.length_cons, List.length_nil, xrs, xr0, Nat.reduceAdd, Nat.reduceSub, List.cons_append, List.nil_append, List.set_cons_zero, List.set_cons_succ, Option.toList_none, Option.toList_some, nI_1]
      refine xcV 5 rfl rfl rfl (c_RD_next (lo := 0) (hi := 15) h hs) rfl kX5_next iX5_next h.1 ⟨_, rfl, rfl⟩ rfl rfl (Nat.le_of_ble_eq_true rfl) (fun v2 s2 q2 => ?_)
      obtain ⟨rfl, p2, g2, k2⟩ := q2
      generalize hn : nxt bs 0 15 s = N at p2 ⊢
      have hNr : N.2.2.2 = s.2.2 := by rw [← hn]; exact nxt_rest ..
      refine xgo 80 rfl ?_
      try simp only [xlo0, List.map_cons, List.map_nil, List.length_cons, List.length_nil, xrs, xr0, Nat.reduceAdd, Nat.reduceSub, List.cons_append, List.nil_append, List.set_cons_zero, List.set_cons_succ, Option.toList_none, Option.toList_some, nI_1]
      refine xg 5 rfl rfl rfl p2.1 rfl ?_
      refine xgo 80 rfl ?_
      try simp only [xlo0, List.map_cons, List.map_nil, List.length_cons, List.length_nil, xrs, xr0, Nat.reduceAdd, Nat.reduceSub, List.cons_append, List.nil_append, List.set_cons_zero, List.set_cons_succ, Option.toList_none, Option.toList_some, nI_1]
      refine xcV 5 rfl rfl rfl (c_CT_sealsGroup (x := N.1) p2.say) rfl kX2_sealsGroup iX2_sealsGroup p2.say.obj ⟨_, rfl, rfl⟩ rfl rfl (Nat.le_of_ble_eq_true rfl) (fun v3 s3 q3 => ?_)
      obtain ⟨rfl, rfl⟩ := q3
      have cont2 : ∀ (s1 : pS) (t1 : xS), s1 = (if N.2.2.2.1.2.2.1.any (fun e => e == N.1) then refS s.1 N.2 else N.2) → rdw G t1.1 r b c cap bs s1 → fr2 σ.1 t1.1 r c → t1.2 = σ.2 → xw G (d + 2) mX5_hearSeals 52 [some (rf G r), some (.int (nI m)), some (.int (nI i)), some (.int (nI s.1)), some (.int N.1)] [] t1 (rpost G σ r b c cap bs none F) := by
        intro s1 t1 hs1 h1 gg kk
        have hs1r : s1.2.2 = s.2.2 := by
          rw [hs1]
          split
          · rw [refS_rest, hNr]
          · exact hNr
        have hlen : s1.2.2.1.2.2.1.length = i := by rw [hs1r]; exact hl
        have hNd : hSeal bs s = (s1.1, s1.2.1, (s1.2.2.1.1, s1.2.2.1.2.1, s1.2.2.1.2.2.1 ++ [N.1], s1.2.2.1.2.2.2), s1.2.2.2) := by
          unfold hSeal
          simp only [hn, ← hs1]
        refine xgo 80 rfl ?_
        try simp only [xlo0, List.map_cons, List.map_nil, List.length_cons, List.length_nil, xrs, xr0, Nat.reduceAdd, Nat.reduceSub, List.cons_append, List.nil_append, List.set_cons_zero, List.set_cons_succ, Option.toList_none, Option.toList_some, nI_1]
        refine xg 5 rfl rfl rfl h1.1 rfl ?_
        refine xgo 80 rfl ?_
        try simp only [xlo0, List.map_cons, List.map_nil, List.length_cons, List.length_nil, xrs, xr0, Nat.reduceAdd, Nat.reduceSub, List.cons_append, List.nil_append, List.set_cons_zero, List.set_cons_succ, Option.toList_none, Option.toList_some, nI_1]
        refine xcV 5 rfl rfl rfl (c_CT_putSeal (x := N.1) h1.say (by omega)) rfl kX2_putSeal iX2_putSeal h1.say.obj ⟨_, rfl, rfl⟩ rfl rfl (Nat.le_of_ble_eq_true rfl) (fun v6 s6 q6 => ?_)
        obtain ⟨rfl, u1, u2, u3⟩ := q6
        refine xto 9 80 rfl ?_
        try simp only [xlo0, List.map_cons, List.map_nil, List.length_cons, List.length_nil, xrs, xr0, Nat.reduceAdd, Nat.reduceSub, List.cons_append, List.nil_append, List.set_cons_zero, List.set_cons_succ, Option.toList_none, Option.toList_some, nI_1]
        refine ih (i + 1) (hSeal bs s) s6 _ _ (by omega) (by rw [hNd]; simp [hlen]) hF (by rw [hNd]; exact h1.resaid hs u2 u1) (gg.tr (fr2.said u2)) (u3.trans kk)
      cases ha : N.2.2.2.1.2.2.1.any (fun e => e == N.1) with
      | false =>
        refine xgo 80 rfl ?_
        try simp only [xlo0, List.map_cons, List.map_nil, List.length_cons, List.length_nil, xrs, xr0, Nat.reduceAdd, Nat.reduceSub, List.cons_append, List.nil_append, List.set_cons_zero, List.set_cons_succ, Option.toList_none, Option.toList_some, nI_1]
        refine xi_ifeq rfl (fun c3 => ?_) (fun c3 => ?_)
        · exact cont2 N.2 _ (by rw [ha]; rfl) p2 (g.tr g2) (k2.trans k)
        · exact absurd rfl c3
      | true =>
        refine xgo 80 rfl ?_
        try simp only [xlo0, List.map_cons, List.map_nil, List.length_cons, List.length_nil, xrs, xr0, Nat.reduceAdd, Nat.reduceSub, List.cons_append, List.nil_append, List.set_cons_zero, List.set_cons_succ, Option.toList_none, Option.toList_some, nI_1]
        refine xi_ifeq rfl (fun c3 => ?_) (fun c3 => ?_)
        · exact absurd c3 (by decide)
        refine xgo 80 rfl ?_
        try simp only [xlo0, List.map_cons, List.map_nil, List.length_cons, List.length_nil, xrs, xr0, Nat.reduceAdd, Nat.reduceSub, List.cons_append, List.nil_append, List.set_cons_zero, List.set_cons_succ, Option.toList_none, Option.toList_some, nI_1]
        refine xcV 5 rfl rfl rfl (c_RD_refuseAt p2 hs h.len.1) rfl kX5_refuseAt iX5_refuseAt p2.1 ⟨_, rfl, rfl⟩ rfl rfl (Nat.le_of_ble_eq_true rfl) (fun v7 s7 q7 => ?_)
        obtain ⟨rfl, p7, g7, k7⟩ := q7
        exact cont2 _ _ (by rw [ha]; rfl) p7 ((g.tr g2).tr g7) (k7.trans (k2.trans k))
set_option maxRecDepth 100000 in
set_option maxHeartbeats 8000000 in
theorem c_RD_hearSeals {G : xG} {d r b c cap : Nat} {bs : List Int32} {s : pS} {σ : xS} (h : rdw G σ.1 r b c cap bs s) (hs : rsep r b c) (h0 : s.2.2.1.2.2.1 = []) : xm G (d + 2) mX5_hearSeals [rf G r] σ (rpost G σ r b c cap bs none (hSeals bs s)) := by
  have hrg := nxt_rng (bs := bs) (lo := 0) (hi := 4) (s := s) (by decide)
  rw [i_le, i_le] at hrg
  have z0 : (0 : Int32).toInt = 0 := rfl
  have z4 : (4 : Int32).toInt = 4 := rfl
  have hmn : (nxt bs 0 4 s).1 = nI (nxt bs 0 4 s).1.toInt.toNat := by rw [i_eq, i_n (by omega)]; omega
  refine xm_at 5 rfl (by decide) (Nat.le_of_ble_eq_true rfl) (by simp [Value.category]) tX5_hearSeals_ok ?_
  try simp only [xlo0, List.map_cons, List.map_nil, List.length_cons, List.length_nil, xrs, xr0, Nat.reduceAdd, Nat.reduceSub, List.cons_append, List.nil_append, List.set_cons_zero, List.set_cons_succ, Option.toList_none, Option.toList_some, nI_1]
  refine xgo 80 rfl ?_
  try simp only [xlo0, List.map_cons, List.map_nil, List.length_cons, List.length_nil, xrs, xr0, Nat.reduceAdd, Nat.reduceSub, List.cons_append, List.nil_append, List.set_cons_zero, List.set_cons_succ, Option.toList_none, Option.toList_some, nI_1]
  refine xcV 5 rfl rfl rfl (c_RD_next (lo := 0) (hi := 4) h hs) rfl kX5_next iX5_next h.1 ⟨_, rfl, rfl⟩ rfl rfl (Nat.le_of_ble_eq_true rfl) (fun v1 s1 q1 => ?_)
  obtain ⟨rfl, p1, g1, k1⟩ := q1
  refine xto 9 80 rfl ?_
  try simp only [xlo0, List.map_cons, List.map_nil, List.length_cons, List.length_nil, xrs, xr0, Nat.reduceAdd, Nat.reduceSub, List.cons_append, List.nil_append, List.set_cons_zero, List.set_cons_succ, Option.toList_none, Option.toList_some, nI_1]
  rw [hmn]
  exact l_RD_hearSeals hs (by omega) _ 0 _ s1 none none (by omega) (by rw [nxt_rest, h0]; rfl) rfl p1 g1 k1
