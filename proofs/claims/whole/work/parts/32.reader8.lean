def due (bs : List Int32) (sum k : Int32) (s : pS) : pS := (nxt bs (bsh sum k) (bsh sum k) s).2
def any4 (bs : List Int32) (s : pS) : pS := (nxt bs 0 255 (nxt bs 0 255 (nxt bs 0 255 (nxt bs 0 255 s).2).2).2).2
def hEndS (bs : List Int32) (s : pS) : pS :=
  if s.2.1.isSome then s else
    let sum := ssum 1 (bs.take s.1)
    let s1 := due bs sum 0 (due bs sum 8 (due bs sum 16 (due bs sum 24 s)))
    let s2 := if s1.2.2.1.1.2.2.2 = 0 then s1 else any4 bs s1
    if s2.1 < bs.length then refS s2.1 s2 else s2
set_option maxRecDepth 100000 in
set_option maxHeartbeats 8000000 in
theorem c_RD_hearEnd {G : xG} {d r b c cap : Nat} {bs : List Int32} {s : pS} {σ : xS} (h : rdw G σ.1 r b c cap bs s) (hs : rsep r b c) : xm G (d + 3) mX5_hearEnd [rf G r] σ (rpost G σ r b c cap bs none (hEndS bs s)) := by
  have hlen := h.len
  refine xm_at 4 rfl (by decide) (Nat.le_of_ble_eq_true rfl) (by simp [Value.category]) tX5_hearEnd_ok ?_
  try simp only [xlo0, List.map_cons, List.map_nil, List.length_cons, List.length_nil, xrs, xr0, Nat.reduceAdd, Nat.reduceSub, List.cons_append, List.nil_append, List.set_cons_zero, List.set_cons_succ, Option.toList_none, Option.toList_some, nI_1]
  refine xgo 80 rfl ?_
  try simp only [xlo0, List.map_cons, List.map_nil, List.length_cons, List.length_nil, xrs, xr0, Nat.reduceAdd, Nat.reduceSub, List.cons_append, List.nil_append, List.set_cons_zero, List.set_cons_succ, Option.toList_none, Option.toList_some, nI_1]
  refine xcV 5 rfl rfl rfl (c_RD_isFine h) rfl kX5_isFine iX5_isFine h.1 ⟨_, rfl, rfl⟩ rfl rfl (Nat.le_of_ble_eq_true rfl) (fun v1 s1 q1 => ?_)
  obtain ⟨rfl, rfl⟩ := q1
  cases hwr : s.2.1 with
  | some ww =>
    have e1 : hEndS bs s = s := by unfold hEndS; rw [hwr]; rfl
    rw [e1]
    refine xgo 80 rfl ?_
    try simp only [xlo0, List.map_cons, List.map_nil, List.length_cons, List.length_nil, xrs, xr0, Nat.reduceAdd, Nat.reduceSub, List.cons_append, List.nil_append, List.set_cons_zero, List.set_cons_succ, Option.toList_none, Option.toList_some, nI_1]
    refine xi_ifne rfl (fun c1 => ?_) (fun c1 => ?_)
    · exact absurd rfl c1
    · refine xgo 80 rfl ?_
      try simp only [xlo0, List.map_cons, List.map_nil, List.length_cons, List.length_nil, xrs, xr0, Nat.reduceAdd, Nat.reduceSub, List.cons_append, List.nil_append, List.set_cons_zero, List.set_cons_succ, Option.toList_none, Option.toList_some, nI_1]
      refine xi_ret_v rfl rfl ⟨rfl, h, fr2.rf, rfl⟩
  | none =>
    refine xgo 80 rfl ?_
    try simp only [xlo0, List.map_cons, List.map_nil, List.length_cons, List.length_nil, xrs, xr0, Nat.reduceAdd, Nat.reduceSub, List.cons_append, List.nil_append, List.set_cons_zero, List.set_cons_succ, Option.toList_none, Option.toList_some, nI_1]
    refine xi_ifne rfl (fun c1 => ?_) (fun c1 => ?_)
    · refine xgo 80 rfl ?_
      try simp only [xlo0, List.map_cons, List.map_nil, List.length_cons, List.length_nil, xrs, xr0, Nat.reduceAdd, Nat.reduceSub, List.cons_append, List.nil_append, List.set_cons_zero, List.set_cons_succ, Option.toList_none, Option.toList_some, nI_1]
      refine xg 5 rfl rfl rfl h.1 rfl ?_
      refine xgo 80 rfl ?_
      try simp only [xlo0, List.map_cons, List.map_nil, List.length_cons, List.length_nil, xrs, xr0, Nat.reduceAdd, Nat.reduceSub, List.cons_append, List.nil_append, List.set_cons_zero, List.set_cons_succ, Option.toList_none, Option.toList_some, nI_1]
      refine xg 5 rfl rfl rfl h.1 rfl ?_
      refine xgo 80 rfl ?_
      try simp only [xlo0, List.map_cons, List.map_nil, List.length_cons, List.length_nil, xrs, xr0, Nat.reduceAdd, Nat.reduceSub, List.cons_append, List.nil_append, List.set_cons_zero, List.set_cons_succ, Option.toList_none, Option.toList_some, nI_1]
      refine xcV 5 rfl rfl rfl (c_BR_sum (s0 := 1) (e := s.1) h.row hlen.1) rfl kX1_sum iX1_sum h.row.obj ⟨_, rfl, rfl⟩ rfl rfl (Nat.le_of_ble_eq_true rfl) (fun v2 s2 q2 => ?_)
      obtain ⟨rfl, rfl⟩ := q2
      generalize hsum : ssum 1 (bs.take s.1) = sum
      refine xgo 80 rfl ?_
      try simp only [xlo0, List.map_cons, List.map_nil, List.length_cons, List.length_nil, xrs, xr0, Nat.reduceAdd, Nat.reduceSub, List.cons_append, List.nil_append, List.set_cons_zero, List.set_cons_succ, Option.toList_none, Option.toList_some, nI_1]
      refine xi_iflt rfl (fun c2 => ?_) (fun c2 => ?_)
      · exact absurd c2 (by decide)
      refine xgo 80 rfl ?_
      try simp only [xlo0, List.map_cons, List.map_nil, List.length_cons, List.length_nil, xrs, xr0, Nat.reduceAdd, Nat.reduceSub, List.cons_append, List.nil_append, List.set_cons_zero, List.set_cons_succ, Option.toList_none, Option.toList_some, nI_1]
      refine xcV 5 rfl rfl rfl (c_RD_next h hs) rfl kX5_next iX5_next h.1 ⟨_, rfl, rfl⟩ rfl rfl (Nat.le_of_ble_eq_true rfl) (fun v3 s3 q3 => ?_)
      obtain ⟨rfl, p3, g3, k3⟩ := q3
      refine xgo 80 rfl ?_
      try simp only [xlo0, List.map_cons, List.map_nil, List.length_cons, List.length_nil, xrs, xr0, Nat.reduceAdd, Nat.reduceSub, List.cons_append, List.nil_append, List.set_cons_zero, List.set_cons_succ, Option.toList_none, Option.toList_some, nI_1]
      refine xi_iflt rfl (fun c2 => ?_) (fun c2 => ?_)
      · exact absurd c2 (by decide)
      refine xgo 80 rfl ?_
      try simp only [xlo0, List.map_cons, List.map_nil, List.length_cons, List.length_nil, xrs, xr0, Nat.reduceAdd, Nat.reduceSub, List.cons_append, List.nil_append, List.set_cons_zero, List.set_cons_succ, Option.toList_none, Option.toList_some, nI_1]
      refine xcV 5 rfl rfl rfl (c_RD_next p3 hs) rfl kX5_next iX5_next p3.1 ⟨_, rfl, rfl⟩ rfl rfl (Nat.le_of_ble_eq_true rfl) (fun v4 s4 q4 => ?_)
      obtain ⟨rfl, p4, g4, k4⟩ := q4
      refine xgo 80 rfl ?_
      try simp only [xlo0, List.map_cons, List.map_nil, List.length_cons, List.length_nil, xrs, xr0, Nat.reduceAdd, Nat.reduceSub, List.cons_append, List.nil_append, List.set_cons_zero, List.set_cons_succ, Option.toList_none, Option.toList_some, nI_1]
      refine xi_iflt rfl (fun c2 => ?_) (fun c2 => ?_)
      · exact absurd c2 (by decide)
      refine xgo 80 rfl ?_
      try simp only [xlo0, List.map_cons, List.map_nil, List.length_cons, List.length_nil, xrs, xr0, Nat.reduceAdd, Nat.reduceSub, List.cons_append, List.nil_append, List.set_cons_zero, List.set_cons_succ, Option.toList_none, Option.toList_some, nI_1]
      refine xcV 5 rfl rfl rfl (c_RD_next p4 hs) rfl kX5_next iX5_next p4.1 ⟨_, rfl, rfl⟩ rfl rfl (Nat.le_of_ble_eq_true rfl) (fun v5 s5 q5 => ?_)
      obtain ⟨rfl, p5, g5, k5⟩ := q5
      refine xgo 80 rfl ?_
      try simp only [xlo0, List.map_cons, List.map_nil, List.length_cons, List.length_nil, xrs, xr0, Nat.reduceAdd, Nat.reduceSub, List.cons_append, List.nil_append, List.set_cons_zero, List.set_cons_succ, Option.toList_none, Option.toList_some, nI_1]
      refine xi_iflt rfl (fun c2 => ?_) (fun c2 => ?_)
      · exact absurd c2 (by decide)
      refine xgo 80 rfl ?_
      try simp only [xlo0, List.map_cons, List.map_nil, List.length_cons, List.length_nil, xrs, xr0, Nat.reduceAdd, Nat.reduceSub, List.cons_append, List.nil_append, List.set_cons_zero, List.set_cons_succ, Option.toList_none, Option.toList_some, nI_1]
      refine xcV 5 rfl rfl rfl (c_RD_next p5 hs) rfl kX5_next iX5_next p5.1 ⟨_, rfl, rfl⟩ rfl rfl (Nat.le_of_ble_eq_true rfl) (fun v6 s6 q6 => ?_)
      obtain ⟨rfl, p6, g6, k6⟩ := q6
      have p6 : rdw G s6.1 r b c cap bs (due bs sum 0 (due bs sum 8 (due bs sum 16 (due bs sum 24 s)))) := p6
      have g := ((g3.tr g4).tr g5).tr g6
      have k := k6.trans (k5.trans (k4.trans k3))
      generalize hS1 : due bs sum 0 (due bs sum 8 (due bs sum 16 (due bs sum 24 s))) = S1 at p6
      have e1 : hEndS bs s = (if (if S1.2.2.1.1.2.2.2 = 0 then S1 else any4 bs S1).1 < bs.length then refS (if S1.2.2.1.1.2.2.2 = 0 then S1 else any4 bs S1).1 (if S1.2.2.1.1.2.2.2 = 0 then S1 else any4 bs S1) else (if S1.2.2.1.1.2.2.2 = 0 then S1 else any4 bs S1)) := by
        unfold hEndS
        rw [hwr, if_neg (by decide)]
        simp only [hsum, hS1]
      rw [e1]
      have tail : ∀ (S : pS) (t : xS) (x2 x3 : Option Value), rdw G t.1 r b c cap bs S → fr2 s2.1 t.1 r c → t.2 = s2.2 → xw G (d + 3) mX5_hearEnd 81 [some (rf G r), some (.int sum), x2, x3] [] t (rpost G s2 r b c cap bs none (if S.1 < bs.length then refS S.1 S else S)) := by
        intro S t x2 x3 hS gg kk
        have hSl := hS.len
        refine xgo 80 rfl ?_
        try simp only [xlo0, List.map_cons, List.map_nil, List.length_cons, List.length_nil, xrs, xr0, Nat.reduceAdd, Nat.reduceSub, List.cons_append, List.nil_append, List.set_cons_zero, List.set_cons_succ, Option.toList_none, Option.toList_some, nI_1]
        refine xg 5 rfl rfl rfl hS.1 rfl ?_
        refine xgo 80 rfl ?_
        try simp only [xlo0, List.map_cons, List.map_nil, List.length_cons, List.length_nil, xrs, xr0, Nat.reduceAdd, Nat.reduceSub, List.cons_append, List.nil_append, List.set_cons_zero, List.set_cons_succ, Option.toList_none, Option.toList_some, nI_1]
        refine xg 5 rfl rfl rfl hS.1 rfl ?_
        refine xgo 80 rfl ?_
        try simp only [xlo0, List.map_cons, List.map_nil, List.length_cons, List.length_nil, xrs, xr0, Nat.reduceAdd, Nat.reduceSub, List.cons_append, List.nil_append, List.set_cons_zero, List.set_cons_succ, Option.toList_none, Option.toList_some, nI_1]
        refine xg 5 rfl rfl rfl hS.row.obj rfl ?_
        refine xgo 80 rfl ?_
        try simp only [xlo0, List.map_cons, List.map_nil, List.length_cons, List.length_nil, xrs, xr0, Nat.reduceAdd, Nat.reduceSub, List.cons_append, List.nil_append, List.set_cons_zero, List.set_cons_succ, Option.toList_none, Option.toList_some, nI_1]
        refine xi_icmpge rfl (fun c4 => ?_) (fun c4 => ?_)
        · rw [i_le, i_n (by omega), i_n (by omega)] at c4
          rw [if_neg (by omega)]
          refine xgo 80 rfl ?_
          try simp only [xlo0, List.map_cons, List.map_nil, List.length_cons, List.length_nil, xrs, xr0, Nat.reduceAdd, Nat.reduceSub, List.cons_append, List.nil_append, List.set_cons_zero, List.set_cons_succ, Option.toList_none, Option.toList_some, nI_1]
          refine xi_ret_v rfl rfl ⟨rfl, hS, gg, kk⟩
        · rw [i_le, i_n (by omega), i_n (by omega)] at c4
          rw [if_pos (by omega)]
          refine xgo 80 rfl ?_
          try simp only [xlo0, List.map_cons, List.map_nil, List.length_cons, List.length_nil, xrs, xr0, Nat.reduceAdd, Nat.reduceSub, List.cons_append, List.nil_append, List.set_cons_zero, List.set_cons_succ, Option.toList_none, Option.toList_some, nI_1]
          refine xg 5 rfl rfl rfl hS.1 rfl ?_
          refine xgo 80 rfl ?_
          try simp only [xlo0, List.map_cons, List.map_nil, List.length_cons, List.length_nil, xrs, xr0, Nat.reduceAdd, Nat.reduceSub, List.cons_append, List.nil_append, List.set_cons_zero, List.set_cons_succ, Option.toList_none, Option.toList_some, nI_1]
          refine xcV 5 rfl rfl rfl (c_RD_refuseAt hS hs hSl.1) rfl kX5_refuseAt iX5_refuseAt hS.1 ⟨_, rfl, rfl⟩ rfl rfl (Nat.le_of_ble_eq_true rfl) (fun v9 s9 q9 => ?_)
          obtain ⟨rfl, p9, g9, k9⟩ := q9
          refine xgo 80 rfl ?_
          try simp only [xlo0, List.map_cons, List.map_nil, List.length_cons, List.length_nil, xrs, xr0, Nat.reduceAdd, Nat.reduceSub, List.cons_append, List.nil_append, List.set_cons_zero, List.set_cons_succ, Option.toList_none, Option.toList_some, nI_1]
          refine xi_ret_v rfl rfl ⟨rfl, p9, gg.tr g9, k9.trans kk⟩
      refine xgo 80 rfl ?_
      try simp only [xlo0, List.map_cons, List.map_nil, List.length_cons, List.length_nil, xrs, xr0, Nat.reduceAdd, Nat.reduceSub, List.cons_append, List.nil_append, List.set_cons_zero, List.set_cons_succ, Option.toList_none, Option.toList_some, nI_1]
      refine xi_iflt rfl (fun c2 => ?_) (fun c2 => ?_)
      · refine xgo 80 rfl ?_
        try simp only [xlo0, List.map_cons, List.map_nil, List.length_cons, List.length_nil, xrs, xr0, Nat.reduceAdd, Nat.reduceSub, List.cons_append, List.nil_append, List.set_cons_zero, List.set_cons_succ, Option.toList_none, Option.toList_some, nI_1]
        refine xg 5 rfl rfl rfl p6.1 rfl ?_
        refine xgo 80 rfl ?_
        try simp only [xlo0, List.map_cons, List.map_nil, List.length_cons, List.length_nil, xrs, xr0, Nat.reduceAdd, Nat.reduceSub, List.cons_append, List.nil_append, List.set_cons_zero, List.set_cons_succ, Option.toList_none, Option.toList_some, nI_1]
        refine xg 5 rfl rfl rfl p6.say.obj rfl ?_
        refine xgo 80 rfl ?_
        try simp only [xlo0, List.map_cons, List.map_nil, List.length_cons, List.length_nil, xrs, xr0, Nat.reduceAdd, Nat.reduceSub, List.cons_append, List.nil_append, List.set_cons_zero, List.set_cons_succ, Option.toList_none, Option.toList_some, nI_1]
        refine xi_ifeq rfl (fun c3 => ?_) (fun c3 => ?_)
        · rw [if_pos c3]
          exact tail S1 s6 _ _ p6 g k
        · rw [if_neg c3]
          refine xgo 80 rfl ?_
          try simp only [xlo0, List.map_cons, List.map_nil, List.length_cons, List.length_nil, xrs, xr0, Nat.reduceAdd, Nat.reduceSub, List.cons_append, List.nil_append, List.set_cons_zero, List.set_cons_succ, Option.toList_none, Option.toList_some, nI_1]
          refine xi_icmpge rfl (fun c4 => ?_) (fun c4 => ?_)
          · exact absurd c4 (by decide)
          refine xgo 80 rfl ?_
          try simp only [xlo0, List.map_cons, List.map_nil, List.length_cons, List.length_nil, xrs, xr0, Nat.reduceAdd, Nat.reduceSub, List.cons_append, List.nil_append, List.set_cons_zero, List.set_cons_succ, Option.toList_none, Option.toList_some, nI_1]
          refine xcV 5 rfl rfl rfl (c_RD_next p6 hs) rfl kX5_next iX5_next p6.1 ⟨_, rfl, rfl⟩ rfl rfl (Nat.le_of_ble_eq_true rfl) (fun v10 s10 q10 => ?_)
          obtain ⟨rfl, p10, g10, k10⟩ := q10
          refine xgo 80 rfl ?_
          try simp only [xlo0, List.map_cons, List.map_nil, List.length_cons, List.length_nil, xrs, xr0, Nat.reduceAdd, Nat.reduceSub, List.cons_append, List.nil_append, List.set_cons_zero, List.set_cons_succ, Option.toList_none, Option.toList_some, nI_1]
          refine xi_icmpge rfl (fun c4 => ?_) (fun c4 => ?_)
          · exact absurd c4 (by decide)
          refine xgo 80 rfl ?_
          try simp only [xlo0, List.map_cons, List.map_nil, List.length_cons, List.length_nil, xrs, xr0, Nat.reduceAdd, Nat.reduceSub, List.cons_append, List.nil_append, List.set_cons_zero, List.set_cons_succ, Option.toList_none, Option.toList_some, nI_1]
          refine xcV 5 rfl rfl rfl (c_RD_next p10 hs) rfl kX5_next iX5_next p10.1 ⟨_, rfl, rfl⟩ rfl rfl (Nat.le_of_ble_eq_true rfl) (fun v11 s11 q11 => ?_)
          obtain ⟨rfl, p11, g11, k11⟩ := q11
          refine xgo 80 rfl ?_
          try simp only [xlo0, List.map_cons, List.map_nil, List.length_cons, List.length_nil, xrs, xr0, Nat.reduceAdd, Nat.reduceSub, List.cons_append, List.nil_append, List.set_cons_zero, List.set_cons_succ, Option.toList_none, Option.toList_some, nI_1]
          refine xi_icmpge rfl (fun c4 => ?_) (fun c4 => ?_)
          · exact absurd c4 (by decide)
          refine xgo 80 rfl ?_
          try simp only [xlo0, List.map_cons, List.map_nil, List.length_cons, List.length_nil, xrs, xr0, Nat.reduceAdd, Nat.reduceSub, List.cons_append, List.nil_append, List.set_cons_zero, List.set_cons_succ, Option.toList_none, Option.toList_some, nI_1]
          refine xcV 5 rfl rfl rfl (c_RD_next p11 hs) rfl kX5_next iX5_next p11.1 ⟨_, rfl, rfl⟩ rfl rfl (Nat.le_of_ble_eq_true rfl) (fun v12 s12 q12 => ?_)
          obtain ⟨rfl, p12, g12, k12⟩ := q12
          refine xgo 80 rfl ?_
          try simp only [xlo0, List.map_cons, List.map_nil, List.length_cons, List.length_nil, xrs, xr0, Nat.reduceAdd, Nat.reduceSub, List.cons_append, List.nil_append, List.set_cons_zero, List.set_cons_succ, Option.toList_none, Option.toList_some, nI_1]
          refine xi_icmpge rfl (fun c4 => ?_) (fun c4 => ?_)
          · exact absurd c4 (by decide)
          refine xgo 80 rfl ?_
          try simp only [xlo0, List.map_cons, List.map_nil, List.length_cons, List.length_nil, xrs, xr0, Nat.reduceAdd, Nat.reduceSub, List.cons_append, List.nil_append, List.set_cons_zero, List.set_cons_succ, Option.toList_none, Option.toList_some, nI_1]
          refine xcV 5 rfl rfl rfl (c_RD_next p12 hs) rfl kX5_next iX5_next p12.1 ⟨_, rfl, rfl⟩ rfl rfl (Nat.le_of_ble_eq_true rfl) (fun v13 s13 q13 => ?_)
          obtain ⟨rfl, p13, g13, k13⟩ := q13
          refine xgo 80 rfl ?_
          try simp only [xlo0, List.map_cons, List.map_nil, List.length_cons, List.length_nil, xrs, xr0, Nat.reduceAdd, Nat.reduceSub, List.cons_append, List.nil_append, List.set_cons_zero, List.set_cons_succ, Option.toList_none, Option.toList_some, nI_1]
          refine xi_icmpge rfl (fun c4 => ?_) (fun c4 => ?_)
          · exact tail (any4 bs S1) s13 _ _ p13 ((((g.tr g10).tr g11).tr g12).tr g13) (k13.trans (k12.trans (k11.trans (k10.trans k))))
          · exact absurd (by decide) c4
      · exact absurd (by decide) c2
    · exact absurd c1 (by decide)
set_option maxRecDepth 100000 in
set_option maxHeartbeats 8000000 in
theorem c_RD_isSignedBy {G : xG} {d r b c cap : Nat} {bs : List Int32} {x : Int32} {s : pS} {σ : xS} (h : rdw G σ.1 r b c cap bs s) (h4 : 4 ≤ bs.length) : xm G (d + 2) mX5_isSignedBy [rf G r, .int x] σ (fun v σ' => v = some (.int (bI (decide (s.2.2.1.1.2.2.2 ≠ 0 ∧ num4 bs (nI (bs.length - 4)) = ssum x (bs.take (bs.length - 4)))))) ∧ σ' = σ) := by
  have hlen := h.len
  have u4 : nI bs.length - 4 = nI (bs.length - 4) := nI_subN (a := bs.length) (b := 4) (by omega)
  refine xm_at 3 rfl (by decide) (Nat.le_of_ble_eq_true rfl) (by simp [Value.category]) tX5_isSignedBy_ok ?_
  try simp only [xlo0, List.map_cons, List.map_nil, List.length_cons, List.length_nil, xrs, xr0, Nat.reduceAdd, Nat.reduceSub, List.cons_append, List.nil_append, List.set_cons_zero, List.set_cons_succ, Option.toList_none, Option.toList_some, nI_1]
  refine xgo 80 rfl ?_
  try simp only [xlo0, List.map_cons, List.map_nil, List.length_cons, List.length_nil, xrs, xr0, Nat.reduceAdd, Nat.reduceSub, List.cons_append, List.nil_append, List.set_cons_zero, List.set_cons_succ, Option.toList_none, Option.toList_some, nI_1]
  refine xg 5 rfl rfl rfl h.1 rfl ?_
  refine xgo 80 rfl ?_
  try simp only [xlo0, List.map_cons, List.map_nil, List.length_cons, List.length_nil, xrs, xr0, Nat.reduceAdd, Nat.reduceSub, List.cons_append, List.nil_append, List.set_cons_zero, List.set_cons_succ, Option.toList_none, Option.toList_some, nI_1]
  refine xg 5 rfl rfl rfl h.row.obj rfl ?_
  refine xgo 80 rfl ?_
  try simp only [xlo0, List.map_cons, List.map_nil, List.length_cons, List.length_nil, xrs, xr0, Nat.reduceAdd, Nat.reduceSub, List.cons_append, List.nil_append, List.set_cons_zero, List.set_cons_succ, Option.toList_none, Option.toList_some, nI_1]
  refine xg 5 rfl rfl rfl h.1 rfl ?_
  refine xgo 80 rfl ?_
  try simp only [xlo0, List.map_cons, List.map_nil, List.length_cons, List.length_nil, xrs, xr0, Nat.reduceAdd, Nat.reduceSub, List.cons_append, List.nil_append, List.set_cons_zero, List.set_cons_succ, Option.toList_none, Option.toList_some, nI_1]
  refine xg 5 rfl rfl rfl h.say.obj rfl ?_
  rw [u4]
  refine xgo 80 rfl ?_
  try simp only [xlo0, List.map_cons, List.map_nil, List.length_cons, List.length_nil, xrs, xr0, Nat.reduceAdd, Nat.reduceSub, List.cons_append, List.nil_append, List.set_cons_zero, List.set_cons_succ, Option.toList_none, Option.toList_some, nI_1]
  refine xi_ifeq rfl (fun c1 => ?_) (fun c1 => ?_)
  · refine xgo 80 rfl ?_
    try simp only [xlo0, List.map_cons, List.map_nil, List.length_cons, List.length_nil, xrs, xr0, Nat.reduceAdd, Nat.reduceSub, List.cons_append, List.nil_append, List.set_cons_zero, List.set_cons_succ, Option.toList_none, Option.toList_some, nI_1]
    refine xi_ret_i rfl rfl (by decide) ⟨by rw [decide_eq_false (fun q => q.1 c1)]; rfl, rfl⟩
  refine xgo 80 rfl ?_
  try simp only [xlo0, List.map_cons, List.map_nil, List.length_cons, List.length_nil, xrs, xr0, Nat.reduceAdd, Nat.reduceSub, List.cons_append, List.nil_append, List.set_cons_zero, List.set_cons_succ, Option.toList_none, Option.toList_some, nI_1]
  refine xg 5 rfl rfl rfl h.1 rfl ?_
  refine xgo 80 rfl ?_
  try simp only [xlo0, List.map_cons, List.map_nil, List.length_cons, List.length_nil, xrs, xr0, Nat.reduceAdd, Nat.reduceSub, List.cons_append, List.nil_append, List.set_cons_zero, List.set_cons_succ, Option.toList_none, Option.toList_some, nI_1]
  refine xcV 5 rfl rfl rfl (c_BR_number (i := nI (bs.length - 4)) h.row) rfl kX1_number iX1_number h.row.obj ⟨_, rfl, rfl⟩ rfl rfl (Nat.le_of_ble_eq_true rfl) (fun v1 s1 q1 => ?_)
  obtain ⟨rfl, rfl⟩ := q1
  refine xgo 80 rfl ?_
  try simp only [xlo0, List.map_cons, List.map_nil, List.length_cons, List.length_nil, xrs, xr0, Nat.reduceAdd, Nat.reduceSub, List.cons_append, List.nil_append, List.set_cons_zero, List.set_cons_succ, Option.toList_none, Option.toList_some, nI_1]
  refine xg 5 rfl rfl rfl h.1 rfl ?_
  refine xgo 80 rfl ?_
  try simp only [xlo0, List.map_cons, List.map_nil, List.length_cons, List.length_nil, xrs, xr0, Nat.reduceAdd, Nat.reduceSub, List.cons_append, List.nil_append, List.set_cons_zero, List.set_cons_succ, Option.toList_none, Option.toList_some, nI_1]
  refine xcV 5 rfl rfl rfl (c_BR_sum (s0 := x) (e := bs.length - 4) h.row (by omega)) rfl kX1_sum iX1_sum h.row.obj ⟨_, rfl, rfl⟩ rfl rfl (Nat.le_of_ble_eq_true rfl) (fun v2 s2 q2 => ?_)
  obtain ⟨rfl, rfl⟩ := q2
  refine xgo 80 rfl ?_
  try simp only [xlo0, List.map_cons, List.map_nil, List.length_cons, List.length_nil, xrs, xr0, Nat.reduceAdd, Nat.reduceSub, List.cons_append, List.nil_append, List.set_cons_zero, List.set_cons_succ, Option.toList_none, Option.toList_some, nI_1]
  refine xi_icmpne rfl (fun c2 => ?_) (fun c2 => ?_)
  · refine xgo 80 rfl ?_
    try simp only [xlo0, List.map_cons, List.map_nil, List.length_cons, List.length_nil, xrs, xr0, Nat.reduceAdd, Nat.reduceSub, List.cons_append, List.nil_append, List.set_cons_zero, List.set_cons_succ, Option.toList_none, Option.toList_some, nI_1]
    refine xi_ret_i rfl rfl (by decide) ⟨by rw [decide_eq_false (fun q => c2 q.2)]; rfl, rfl⟩
  · refine xgo 80 rfl ?_
    try simp only [xlo0, List.map_cons, List.map_nil, List.length_cons, List.length_nil, xrs, xr0, Nat.reduceAdd, Nat.reduceSub, List.cons_append, List.nil_append, List.set_cons_zero, List.set_cons_succ, Option.toList_none, Option.toList_some, nI_1]
    refine xi_ret_i rfl rfl (by decide) ⟨by rw [decide_eq_true ⟨c1, c2⟩]; rfl, rfl⟩
