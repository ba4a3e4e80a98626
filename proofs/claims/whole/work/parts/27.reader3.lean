theorem rdw.relen {G : xG} {h h' : Nat → Option xC} {r b c cap : Nat} {bs ln : List Int32} {s : pS} (H : rdw G h r b c cap bs s) (hs : rsep r b c) (f : ∀ q, q ≠ r + 1 → h' q = h q) (n : h' (r + 1) = some (11, vi ln)) (hl : ln.length = 8) : rdw G h' r b c cap bs (s.1, s.2.1, s.2.2.1, ln, s.2.2.2.2) := by
  obtain ⟨a1, a2, a3, a4, a5, a6, a7, a8, a9⟩ := H
  have g : frz h h' (r + 1) 1 := frz.one f (by omega) (by omega)
  obtain ⟨s1, s2, s3⟩ := hs
  exact ⟨by rw [f _ (by omega)]; exact a1, n, by rw [f _ (by omega)]; exact a3, hl, a5, a6.keep g (by omega), a7.keep g (by omega), a8, a9⟩
theorem rdw.resize {G : xG} {h h' : Nat → Option xC} {r b c cap : Nat} {bs ln : List Int32} {s : pS} (H : rdw G h r b c cap bs s) (hs : rsep r b c) (f : ∀ q, q ≠ r + 2 → h' q = h q) (n : h' (r + 2) = some (11, vi ln)) (hl : ln.length = 8) : rdw G h' r b c cap bs (s.1, s.2.1, s.2.2.1, s.2.2.2.1, ln) := by
  obtain ⟨a1, a2, a3, a4, a5, a6, a7, a8, a9⟩ := H
  have g : frz h h' (r + 2) 1 := frz.one f (by omega) (by omega)
  obtain ⟨s1, s2, s3⟩ := hs
  exact ⟨by rw [f _ (by omega)]; exact a1, by rw [f _ (by omega)]; exact a2, n, a4, hl, a6.keep g (by omega), a7.keep g (by omega), a8, a9⟩
theorem fr2.arr {h h' : Nat → Option xC} {r c k : Nat} (f : ∀ q, q ≠ k → h' q = h q) (h1 : r ≤ k) (h2 : k < r + 3) : fr2 h h' r c := fun q a _ => f q (by omega)
/-- two bytes are heard, the higher is 0 -/
def hPair (bs : List Int32) (hi : Int32) (s : pS) : Int32 × pS := nxt bs 0 hi (nxt bs 0 0 s).2
theorem hPair_rest (bs : List Int32) (hi : Int32) (s : pS) : (hPair bs hi s).2.2.2 = s.2.2 := by unfold hPair; rw [nxt_rest, nxt_rest]
/-- one row's head is heard -/
def hRow (bs : List Int32) (s : pS) : pS :=
  let n := nxt bs 0 255 s
  let s1 := if (n.2.2.2.1.2.2.2.findIdx? (fun e => e.1 == n.1)).isSome then refS s.1 n.2 else n.2
  let p := nxt bs 0 2 s1
  let s3 : pS := (p.2.1, p.2.2.1, (p.2.2.2.1.1, p.2.2.2.1.2.1, p.2.2.2.1.2.2.1, p.2.2.2.1.2.2.2 ++ [(n.1, p.1, [])]), p.2.2.2.2)
  let l := hPair bs 120 s3
  let s5 : pS := (l.2.1, l.2.2.1, l.2.2.2.1, l.2.2.2.2.1.set s.2.2.1.2.2.2.length l.1, l.2.2.2.2.2)
  let z := hPair bs 250 s5
  (z.2.1, z.2.2.1, z.2.2.2.1, z.2.2.2.2.1, z.2.2.2.2.2.set s.2.2.1.2.2.2.length z.1)
def hRows (bs : List Int32) (s : pS) : pS := hLoop (hRow bs) (nxt bs 0 8 s).1.toInt.toNat (nxt bs 0 8 s).2
set_option maxRecDepth 100000 in
set_option maxHeartbeats 8000000 in
theorem l_RD_hearRows {G : xG} {d r b c cap m : Nat} {bs : List Int32} {F : pS} {σ : xS} (hs : rsep r b c) (hm : m ≤ 8) : ∀ (n i : Nat) (s : pS) (t : xS) (x3 x4 x5 : Option Value), i + n = m → s.2.2.1.2.2.2.length = i → hLoop (hRow bs) n s = F → rdw G t.1 r b c cap bs s → fr2 σ.1 t.1 r c → t.2 = σ.2 →
    xw G (d + 3) mX5_hearRows 10 [some (rf G r), some (.int (nI m)), some (.int (nI i)), x3, x4, x5] [] t (rpost G σ r b c cap bs none F) := by
  intro n
  induction n with
  | zero =>
    intro i s t x3 x4 x5 hi hl hF h g k
    have hi' : i = m := by omega
    subst hi'
    subst hF
    refine xgo 80 rfl ?_
    try simp only [xlo0, List.map_cons, List.map_nil, List.length_cons, List.length_nil, xrs, xr0, Nat.reduceAdd, Nat.reduceSub, List.cons_append, List.nil_append, List.set_cons_zero, List.set_cons_succ, Option.toList_none, Option.toList_some, nI_1]
    refine xi_icmpge rfl (fun c1 => ?_) (fun c1 => ?_)
    · refine xgo 80 rfl ?_
      try simp only [xlo0, List.map_cons, List.map_nil, List.length_cons, List.length_nil, xrs, xr0, Nat.reduceAdd, Nat.reduceSub, List.cons_append, List.nil_append, List.set_cons_zero, List.set_cons_succ, Option.toList_none, Option.toList_some, nI_1]
      refine xi_ret_v rfl rfl ⟨rfl, h, g, k⟩
    · exact absurd (i_le.mpr (Int.le_refl _)) c1
  | succ n ih =>
    intro i s t x3 x4 x5 hi hl hF h g k
    have hF : (if s.2.1.isSome = true then s else hLoop (hRow bs) n (hRow bs s)) = F := hF
    have hcl : (nI i).toNatClampNeg = i := nI_clamp (by omega)
    refine xgo 80 rfl ?_
    try simp only [xlo0, List.map_cons, List.map_nil, List.length_cons, List.length_nil, xrs, xr0, Nat.reduceAdd, Nat.reduceSub, List.cons_append, List.nil_append, List.set_cons_zero, List.set_cons_succ, Option.toList_none, Option.toList_some, nI_1]
    refine xi_icmpge rfl (fun c1 => ?_) (fun c1 => ?_)
    · exact absurd c1 (by rw [i_le, i_n (by omega), i_n (by omega)]; omega)
    refine xgo 80 rfl ?_
    try simp only [xlo0, List.map_cons, List.map_nil, List.length_cons, List.length_nil, xrs, xr0, Nat.reduceAdd, Nat.reduceSub, List.cons_append, List.nil_append, List.set_cons_zero, List.set_cons_succ, Option.toList_none, Option.toList_some, nI_1]
    refine xcV 5 rfl rfl rfl (c_RD_isFine h) rfl kX5_isFine iX5_isFine h.1 ⟨_, rfl, rfl⟩ rfl rfl (Nat.le_of_ble_eq_true rfl) (fun v1 s1 q1 => ?_)
    obtain ⟨rfl, rfl⟩ := q1
    cases hw : s.2.1 with
    | some w =>
      rw [hw] at hF
      have hF : s = F := hF
      subst hF
      refine xgo 80 rfl ?_
      try simp only [xlo0, List.map_cons, List.map_nil, List.length_cons, List.length_nil, xrs, xr0, Nat.reduceAdd, Nat.reduceSub, List.cons_append, List.nil_append, List.set_cons_zero, List.set_cons_succ, Option.toList_none, Option.toList_some, nI_1]
      refine xi_ifeq rfl (fun c2 => ?_) (fun c2 => ?_)
      · refine xgo 80 rfl ?_
        try simp only [xlo0, List.map_cons, List.map_nil, List.length_cons, List.length_nil, xrs, xr0, Nat.reduceAdd, Nat.reduceSub, List.cons_append, List.nil_append, List.set_cons_zero, List.set_cons_succ, Option.toList_none, Option.toList_some, nI_1]
        refine xi_ret_v rfl rfl ⟨rfl, h, g, k⟩
      · exact absurd rfl c2
    | none =>
      rw [hw, if_neg (by decide)] at hF
      refine xgo 80 rfl ?_
      try simp only [xlo0, List.map_cons, List.map_nil, List.length_cons, List.length_nil, xrs, xr0, Nat.reduceAdd, Nat.reduceSub, List.cons_append, List.nil_append, List.set_cons_zero, List.set_cons_succ, Option.toList_none, Option.toList_some, nI_1]
      refine xi_ifeq rfl (fun c2 => ?_) (fun c2 => ?_)
      · exact absurd c2 (by decide)
      refine xgo 80 rfl ?_
      try simp only [xlo0, List.map_cons, List.map_nil, List.length_cons, List.length_nil, xrs, xr0, Nat.reduceAdd, Nat.reduceSub, List.cons_append, List.nil_append, List.set_cons_zero, List.set_cons_succ, Option.toList_none, Option.toList_some, nI_1]
      refine xg 5 rfl rfl rfl h.1 rfl ?_
      refine xgo 80 rfl ?_
      try simp only [xlo0, List.map_cons, List.map_nil, List.length_cons, List.length_nil, xrs, xr0, Nat.reduceAdd, Nat.reduceSub, List.cons_append, List.nil_append, List.set_cons_zero, List.set_cons_succ, Option.toList_none, Option.toList_some, nI_1]
      refine xcV 5 rfl rfl rfl (c_RD_next (lo := 0) (hi := 255) h hs) rfl kX5_next iX5_next h.1 ⟨_, rfl, rfl⟩ rfl rfl (Nat.le_of_ble_eq_true rfl) (fun v2 s2 q2 => ?_)
      obtain ⟨rfl, p2, g2, k2⟩ := q2
      generalize hn : nxt bs 0 255 s = N at p2 ⊢
      have hNr : N.2.2.2 = s.2.2 := by rw [← hn]; exact nxt_rest ..
      have hb2 := p2.say.bnd
      refine xgo 80 rfl ?_
      try simp only [xlo0, List.map_cons, List.map_nil, List.length_cons, List.length_nil, xrs, xr0, Nat.reduceAdd, Nat.reduceSub, List.cons_append, List.nil_append, List.set_cons_zero, List.set_cons_succ, Option.toList_none, Option.toList_some, nI_1]
      refine xg 5 rfl rfl rfl p2.1 rfl ?_
      refine xgo 80 rfl ?_
      try simp only [xlo0, List.map_cons, List.map_nil, List.length_cons, List.length_nil, xrs, xr0, Nat.reduceAdd, Nat.reduceSub, List.cons_append, List.nil_append, List.set_cons_zero, List.set_cons_succ, Option.toList_none, Option.toList_some, nI_1]
      refine xcV 5 rfl rfl rfl (c_CT_rowOf (x := N.1) p2.say) rfl kX2_rowOf iX2_rowOf p2.say.obj ⟨_, rfl, rfl⟩ rfl rfl (Nat.le_of_ble_eq_true rfl) (fun v3 s3 q3 => ?_)
      obtain ⟨rfl, rfl⟩ := q3
      have cont2 : ∀ (s1 : pS) (t1 : xS), s1 = (if (N.2.2.2.1.2.2.2.findIdx? (fun e => e.1 == N.1)).isSome then refS s.1 N.2 else N.2) → rdw G t1.1 r b c cap bs s1 → fr2 σ.1 t1.1 r c → t1.2 = σ.2 → xw G (d + 3) mX5_hearRows 54 [some (rf G r), some (.int (nI m)), some (.int (nI i)), some (.int (nI s.1)), some (.int N.1), x5] [] t1 (rpost G σ r b c cap bs none F) := by
        intro s1 t1 hs1 h1 gg kk
        have hs1r : s1.2.2 = s.2.2 := by
          rw [hs1]
          split
          · rw [refS_rest, hNr]
          · exact hNr
        refine xgo 80 rfl ?_
        try simp only [xlo0, List.map_cons, List.map_nil, List.length_cons, List.length_nil, xrs, xr0, Nat.reduceAdd, Nat.reduceSub, List.cons_append, List.nil_append, List.set_cons_zero, List.set_cons_succ, Option.toList_none, Option.toList_some, nI_1]
        refine xcV 5 rfl rfl rfl (c_RD_next (lo := 0) (hi := 2) h1 hs) rfl kX5_next iX5_next h1.1 ⟨_, rfl, rfl⟩ rfl rfl (Nat.le_of_ble_eq_true rfl) (fun v4 s4 q4 => ?_)
        obtain ⟨rfl, p4, g4, k4⟩ := q4
        generalize hp : nxt bs 0 2 s1 = P at p4 ⊢
        have hPr : P.2.2.2 = s1.2.2 := by rw [← hp]; exact nxt_rest ..
        have hlen : P.2.2.2.1.2.2.2.length = i := by rw [hPr, hs1r]; exact hl
        refine xgo 80 rfl ?_
        try simp only [xlo0, List.map_cons, List.map_nil, List.length_cons, List.length_nil, xrs, xr0, Nat.reduceAdd, Nat.reduceSub, List.cons_append, List.nil_append, List.set_cons_zero, List.set_cons_succ, Option.toList_none, Option.toList_some, nI_1]
        refine xg 5 rfl rfl rfl p4.1 rfl ?_
        refine xgo 80 rfl ?_
        try simp only [xlo0, List.map_cons, List.map_nil, List.length_cons, List.length_nil, xrs, xr0, Nat.reduceAdd, Nat.reduceSub, List.cons_append, List.nil_append, List.set_cons_zero, List.set_cons_succ, Option.toList_none, Option.toList_some, nI_1]
        refine xcV 5 rfl rfl rfl (c_CT_putRow (x := N.1) (y := P.1) p4.say (by omega)) rfl kX2_putRow iX2_putRow p4.say.obj ⟨_, rfl, rfl⟩ rfl rfl (Nat.le_of_ble_eq_true rfl) (fun v5 s5 q5 => ?_)
        obtain ⟨rfl, u1, u2, u3⟩ := q5
        have p5 := p4.resaid hs u2 u1
        refine xgo 80 rfl ?_
        try simp only [xlo0, List.map_cons, List.map_nil, List.length_cons, List.length_nil, xrs, xr0, Nat.reduceAdd, Nat.reduceSub, List.cons_append, List.nil_append, List.set_cons_zero, List.set_cons_succ, Option.toList_none, Option.toList_some, nI_1]
        refine xg 5 rfl rfl rfl p5.1 rfl ?_
        refine xgo 80 rfl ?_
        try simp only [xlo0, List.map_cons, List.map_nil, List.length_cons, List.length_nil, xrs, xr0, Nat.reduceAdd, Nat.reduceSub, List.cons_append, List.nil_append, List.set_cons_zero, List.set_cons_succ, Option.toList_none, Option.toList_some, nI_1]
        refine xcV 5 rfl rfl rfl (c_RD_hearPair (hi := 120) p5 hs) rfl kX5_hearPair iX5_hearPair p5.1 ⟨_, rfl, rfl⟩ rfl rfl (Nat.le_of_ble_eq_true rfl) (fun v6 s6 q6 => ?_)
        obtain ⟨rfl, p6, g6, k6⟩ := q6
        generalize hl6 : nxt bs 0 120 (nxt bs 0 0 (P.2.1, P.2.2.1, (P.2.2.2.1.1, P.2.2.2.1.2.1, P.2.2.2.1.2.2.1, P.2.2.2.1.2.2.2 ++ [(N.1, P.1, [])]), P.2.2.2.2)).2 = Ln at p6 ⊢
        refine xgo 80 rfl ?_
        try simp only [xlo0, List.map_cons, List.map_nil, List.length_cons, List.length_nil, xrs, xr0, Nat.reduceAdd, Nat.reduceSub, List.cons_append, List.nil_append, List.set_cons_zero, List.set_cons_succ, Option.toList_none, Option.toList_some, nI_1]
        refine xsi rfl p6.2.1 (nI_pos (by omega)) (by rw [hcl, vi_len, p6.2.2.2.1]; omega) (fun s7 n7 f7 e7 => ?_)
        have p7 := p6.relen hs f7 (by rw [n7, hcl, vi_set]) (by rw [List.length_set]; exact p6.2.2.2.1)
        refine xgo 80 rfl ?_
        try simp only [xlo0, List.map_cons, List.map_nil, List.length_cons, List.length_nil, xrs, xr0, Nat.reduceAdd, Nat.reduceSub, List.cons_append, List.nil_append, List.set_cons_zero, List.set_cons_succ, Option.toList_none, Option.toList_some, nI_1]
        refine xg 5 rfl rfl rfl p7.1 rfl ?_
        refine xgo 80 rfl ?_
        try simp only [xlo0, List.map_cons, List.map_nil, List.length_cons, List.length_nil, xrs, xr0, Nat.reduceAdd, Nat.reduceSub, List.cons_append, List.nil_append, List.set_cons_zero, List.set_cons_succ, Option.toList_none, Option.toList_some, nI_1]
        refine xcV 5 rfl rfl rfl (c_RD_hearPair (hi := 250) p7 hs) rfl kX5_hearPair iX5_hearPair p7.1 ⟨_, rfl, rfl⟩ rfl rfl (Nat.le_of_ble_eq_true rfl) (fun v8 s8 q8 => ?_)
        obtain ⟨rfl, p8, g8, k8⟩ := q8
        generalize hz8 : nxt bs 0 250 (nxt bs 0 0 (Ln.2.1, Ln.2.2.1, Ln.2.2.2.1, Ln.2.2.2.2.1.set i Ln.1, Ln.2.2.2.2.2)).2 = Zn at p8 ⊢
        refine xgo 80 rfl ?_
        try simp only [xlo0, List.map_cons, List.map_nil, List.length_cons, List.length_nil, xrs, xr0, Nat.reduceAdd, Nat.reduceSub, List.cons_append, List.nil_append, List.set_cons_zero, List.set_cons_succ, Option.toList_none, Option.toList_some, nI_1]
        refine xsi rfl p8.2.2.1 (nI_pos (by omega)) (by rw [hcl, vi_len, p8.2.2.2.2.1]; omega) (fun s9 n9 f9 e9 => ?_)
        have p9 := p8.resize hs f9 (by rw [n9, hcl, vi_set]) (by rw [List.length_set]; exact p8.2.2.2.2.1)
        have hNd : hRow bs s = (Zn.2.1, Zn.2.2.1, Zn.2.2.2.1, Zn.2.2.2.2.1, Zn.2.2.2.2.2.set i Zn.1) := by
          unfold hRow hPair
          simp only [hn, ← hs1, hp, hl6, hl, hz8]
        have hlen9 : Zn.2.2.2.1.2.2.2.length = i + 1 := by
          have e1 : Zn.2.2.2 = (Ln.2.2.2.1, Ln.2.2.2.2.1.set i Ln.1, Ln.2.2.2.2.2) := by rw [← hz8, nxt_rest, nxt_rest]
          have e2 : Ln.2.2.2 = ((P.2.2.2.1.1, P.2.2.2.1.2.1, P.2.2.2.1.2.2.1, P.2.2.2.1.2.2.2 ++ [(N.1, P.1, [])]), P.2.2.2.2) := by rw [← hl6, nxt_rest, nxt_rest]
          rw [e1, e2]
          simp [hlen]
        refine xto 10 80 rfl ?_
        try simp only [xlo0, List.map_cons, List.map_nil, List.length_cons, List.length_nil, xrs, xr0, Nat.reduceAdd, Nat.reduceSub, List.cons_append, List.nil_append, List.set_cons_zero, List.set_cons_succ, Option.toList_none, Option.toList_some, nI_1]
        refine ih (i + 1) (hRow bs s) s9 _ _ _ (by omega) (by rw [hNd]; exact hlen9) hF (by rw [hNd]; exact p9) ?_ (e9.trans (k8.trans (e7.trans (k6.trans (u3.trans (k4.trans kk))))))
        exact (((((gg.tr g4).tr (fr2.said u2)).tr g6).tr (fr2.arr f7 (by omega) (by omega))).tr g8).tr (fr2.arr f9 (by omega) (by omega))
      cases ha : N.2.2.2.1.2.2.2.findIdx? (fun e => e.1 == N.1) with
      | none =>
        refine xgo 80 rfl ?_
        try simp only [xlo0, List.map_cons, List.map_nil, List.length_cons, List.length_nil, xrs, xr0, Nat.reduceAdd, Nat.reduceSub, List.cons_append, List.nil_append, List.set_cons_zero, List.set_cons_succ, Option.toList_none, Option.toList_some, nI_1]
        refine xi_iflt rfl (fun c3 => ?_) (fun c3 => ?_)
        · exact cont2 N.2 _ (by rw [ha]; rfl) p2 (g.tr g2) (k2.trans k)
        · exact absurd (by decide) c3
      | some ix =>
        have hix : ix < N.2.2.2.1.2.2.2.length := (List.findIdx?_eq_some_iff_getElem.mp ha).1
        refine xgo 80 rfl ?_
        try simp only [xlo0, List.map_cons, List.map_nil, List.length_cons, List.length_nil, xrs, xr0, Nat.reduceAdd, Nat.reduceSub, List.cons_append, List.nil_append, List.set_cons_zero, List.set_cons_succ, Option.toList_none, Option.toList_some, nI_1]
        refine xi_iflt rfl (fun c3 => ?_) (fun c3 => ?_)
        · exact absurd c3 (nI_pos (by omega))
        refine xgo 80 rfl ?_
        try simp only [xlo0, List.map_cons, List.map_nil, List.length_cons, List.length_nil, xrs, xr0, Nat.reduceAdd, Nat.reduceSub, List.cons_append, List.nil_append, List.set_cons_zero, List.set_cons_succ, Option.toList_none, Option.toList_some, nI_1]
        refine xcV 5 rfl rfl rfl (c_RD_refuseAt p2 hs h.len.1) rfl kX5_refuseAt iX5_refuseAt p2.1 ⟨_, rfl, rfl⟩ rfl rfl (Nat.le_of_ble_eq_true rfl) (fun v7 s7 q7 => ?_)
        obtain ⟨rfl, p7, g7, k7⟩ := q7
        exact cont2 _ _ (by rw [ha]; rfl) p7 ((g.tr g2).tr g7) (k7.trans (k2.trans k))
set_option maxRecDepth 100000 in
set_option maxHeartbeats 8000000 in
theorem c_RD_hearRows {G : xG} {d r b c cap : Nat} {bs : List Int32} {s : pS} {σ : xS} (h : rdw G σ.1 r b c cap bs s) (hs : rsep r b c) (h0 : s.2.2.1.2.2.2 = []) : xm G (d + 3) mX5_hearRows [rf G r] σ (rpost G σ r b c cap bs none (hRows bs s)) := by
  have hrg := nxt_rng (bs := bs) (lo := 0) (hi := 8) (s := s) (by decide)
  rw [i_le, i_le] at hrg
  have z0 : (0 : Int32).toInt = 0 := rfl
  have z8 : (8 : Int32).toInt = 8 := rfl
  have hmn : (nxt bs 0 8 s).1 = nI (nxt bs 0 8 s).1.toInt.toNat := by rw [i_eq, i_n (by omega)]; omega
  refine xm_at 6 rfl (by decide) (Nat.le_of_ble_eq_true rfl) (by simp [Value.category]) tX5_hearRows_ok ?_
  try simp only [xlo0, List.map_cons, List.map_nil, List.length_cons, List.length_nil, xrs, xr0, Nat.reduceAdd, Nat.reduceSub, List.cons_append, List.nil_append, List.set_cons_zero, List.set_cons_succ, Option.toList_none, Option.toList_some, nI_1]
  refine xgo 80 rfl ?_
  try simp only [xlo0, List.map_cons, List.map_nil, List.length_cons, List.length_nil, xrs, xr0, Nat.reduceAdd, Nat.reduceSub, List.cons_append, List.nil_append, List.set_cons_zero, List.set_cons_succ, Option.toList_none, Option.toList_some, nI_1]
  refine xcV 5 rfl rfl rfl (c_RD_next (lo := 0) (hi := 8) h hs) rfl kX5_next iX5_next h.1 ⟨_, rfl, rfl⟩ rfl rfl (Nat.le_of_ble_eq_true rfl) (fun v1 s1 q1 => ?_)
  obtain ⟨rfl, p1, g1, k1⟩ := q1
  refine xto 10 80 rfl ?_
  try simp only [xlo0, List.map_cons, List.map_nil, List.length_cons, List.length_nil, xrs, xr0, Nat.reduceAdd, Nat.reduceSub, List.cons_append, List.nil_append, List.set_cons_zero, List.set_cons_succ, Option.toList_none, Option.toList_some, nI_1]
  rw [hmn]
  exact l_RD_hearRows hs (by omega) _ 0 _ s1 none none none (by omega) (by rw [nxt_rest, h0]; rfl) rfl p1 g1 k1
