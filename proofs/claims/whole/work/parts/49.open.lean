set_option maxRecDepth 100000 in
set_option maxHeartbeats 2000000 in
theorem c_PP_refuse {G : xG} {d rc : Nat} {own : Nat → Nat} {z w : Int32} {Z : pZ} {σ : xS} (h : pw G σ own rc Z) : xm G d mX8_refuse [rf G 0, .int z, .int w] σ (fun v σ' => v = some (.int z) ∧ pw G σ' own rc (zW Z w) ∧ mk σ σ' ∧ σ'.2 = σ.2) := by
  refine xm_at 3 rfl (by decide) (Nat.le_of_ble_eq_true rfl) (by simp [Value.category]) tX8_refuse_ok ?_
  try simp only [xlo0, List.map_cons, List.map_nil, List.length_cons, List.length_nil, xrs, xr0, Nat.reduceAdd, Nat.reduceSub, List.cons_append, List.nil_append, List.set_cons_zero, List.set_cons_succ, Option.toList_none, Option.toList_some, nI_1]
  refine xgo 80 rfl ?_
  try simp only [xlo0, List.map_cons, List.map_nil, List.length_cons, List.length_nil, xrs, xr0, Nat.reduceAdd, Nat.reduceSub, List.cons_append, List.nil_append, List.set_cons_zero, List.set_cons_succ, Option.toList_none, Option.toList_some, nI_1]
  refine xp 8 rfl rfl rfl h.obj rfl rfl rfl (fun s1 n1 f1 e1 => ?_)
  refine xgo 80 rfl ?_
  try simp only [xlo0, List.map_cons, List.map_nil, List.length_cons, List.length_nil, xrs, xr0, Nat.reduceAdd, Nat.reduceSub, List.cons_append, List.nil_append, List.set_cons_zero, List.set_cons_succ, Option.toList_none, Option.toList_some, nI_1]
  refine xi_ret_i rfl rfl rfl ⟨rfl, h.sheet (Z' := zW Z w) (fun q _ => f1 q (by omega)) e1 n1 (h.2.1.keepQ (fun q _ _ => f1 q (by omega))) ⟨rfl, rfl, rfl, rfl⟩, ⟨fun q _ _ => f1 q (by omega), by rw [e1]; omega, by rw [e1]; omega, by rw [e1]; omega⟩, e1⟩
def F_open (p sec : Int32) (pf : List Int32 → pS) (n rc : Nat) (Z : pZ) : Int32 × pZ := match pget Z.2.2.1 p with
  | none => (-1, Z)
  | some x => if 12 ≤ Z.2.2.2.2.2.1.length then (-3, Z) else match (pf x.2.2).2.1 with
    | some w => (-5, zW Z (nI w))
    | none => if sec ≠ 0 ∧ sgnOk x.2.2 sec (pf x.2.2) = false then (-6, Z) else match (pf x.2.2).2.2.1.2.1.findIdx? (fun nd => decide (meetI Z.2.2.2.2.2.1 nd < 0)) with
      | some i => (-7, zW Z (nI i))
      | none => if 0 ≤ lsealI Z.2.2.2.2.2.1 (pf x.2.2).2.2.1 then (-8, zW Z (lsealI Z.2.2.2.2.2.1 (pf x.2.2).2.2.1)) else
        (nI Z.2.2.2.2.2.1.length, zL Z (Z.2.2.2.2.2.1 ++ [(n + 17, rc, ((pf x.2.2).2.2.1, (pf x.2.2).2.2.1.2.1.map (meetI Z.2.2.2.2.2.1), seenI Z.2.2.2.2.2.1 (pf x.2.2).2.2.1, 0, []))]))
/-- an entry more -/
theorem pw.entry2 {G : xG} {σ σ' : xS} {own : Nat → Nat} {rc : Nat} {Z : pZ} {V : eV} {K : cV} {ln sz : List Int32} (H : pw G σ own rc Z) (hL : Z.2.2.2.2.2.1.length < 12) (f : ∀ q, q < σ.2.1 → q ≠ 60 → q ≠ 82 → q ≠ 83 → σ'.1 q = σ.1 q) (hn : σ'.2.1 = σ.2.1 + 20) (hr : rd0 G σ'.1 60 σ.2.1 K ln sz) (hs : shf G σ'.1 82 (Z.2.2.2.2.2.1 ++ [(σ.2.1 + 17, rc, V)])) : ∃ own', pw G σ' own' σ.2.1 (zL Z (Z.2.2.2.2.2.1 ++ [(σ.2.1 + 17, rc, V)])) := by
  have h0 := H.own0
  obtain ⟨a0, a1, a2, ⟨ds, a3⟩, a4, a5, ⟨bw, sz, mb, ml, a6⟩, ⟨-, a7⟩, ⟨a8, a8'⟩, ⟨st, a9⟩, a10⟩ := H
  obtain ⟨own', ho⟩ : ∃ own' : Nat → Nat, ∀ q, own' q = if σ.2.1 ≤ q ∧ q < σ.2.1 + 17 then 400 else if σ.2.1 + 17 ≤ q ∧ q < σ.2.1 + 20 then 200 + Z.2.2.2.2.2.1.length else if rc ≤ q ∧ q < rc + 17 then 300 + Z.2.2.2.2.2.1.length else own q := ⟨_, fun _ => rfl⟩
  have hrc := h0.2.2 (rc + 16) (by rw [a7 _ (by omega) (by omega)]; decide)
  have hrc' := h0.2.2 rc (by rw [a7 _ (by omega) (by omega)]; decide)
  have eo : ∀ q, own q ≠ 0 → own q ≠ 400 → own' q = own q := fun q h1 h2 => by
    have h3 := h0.2.2 q h1
    rw [ho, if_neg (by omega), if_neg (by omega), if_neg (fun hc => h2 (a7 q hc.1 hc.2))]
  refine ⟨own', (f 0 (by omega) (by omega) (by omega) (by omega)).trans a0, a1.keepQ (fun q _ _ => f q (by omega) (by omega) (by omega) (by omega)), a2.keep4 eo (fun q hq => ?_), ⟨ds, a3.keepQ (fun q _ _ => f q (by omega) (by omega) (by omega) (by omega))⟩, a4.keepQ (fun q _ _ => f q (by omega) (by omega) (by omega) (by omega)), a5.keep4 eo (fun q hq => ?_), ⟨bw, sz, mb, ml, a6.keepQ (fun q _ _ => f q (by omega) (by omega) (by omega) (by omega))⟩, ⟨⟨_, _, _, hr⟩, fun q h1 h2 => by rw [ho, if_pos ⟨h1, h2⟩]⟩, ⟨hs, fun i y hy => ?_⟩, ⟨st, a9.keepQ (fun q _ _ => f q (by omega) (by omega) (by omega) (by omega))⟩, by omega, fun q hq => ?_⟩
  · have := h0.2.2 q
    exact f q (by omega) (by omega) (by omega) (by omega)
  · have := h0.2.2 q
    exact f q (by omega) (by omega) (by omega) (by omega)
  · rcases snoc_get (show (Z.2.2.2.2.2.1 ++ [(σ.2.1 + 17, rc, V)])[i]? = some y from hy) with ⟨hi, hy'⟩ | ⟨rfl, rfl⟩
    · obtain ⟨b1, b2, b3⟩ := a8' i y hy'
      refine ⟨fun q h1 h2 => ?_, fun q h1 h2 => ?_, b3⟩
      · have := b1 q h1 h2
        rw [eo q (by omega) (by omega)]; exact this
      · have := b2 q h1 h2
        rw [eo q (by omega) (by omega)]; exact this
    · refine ⟨fun q h1 h2 => ?_, fun q h1 h2 => ?_, ?_⟩
      · dsimp only at h1 h2
        rw [ho, if_neg (by omega), if_pos (by omega)]
      · dsimp only at h1 h2
        rw [ho, if_neg (by omega), if_neg (by omega), if_pos (by omega)]
      · dsimp only
        omega
  · rw [ho] at hq
    by_cases c1 : σ.2.1 ≤ q ∧ q < σ.2.1 + 17
    · omega
    · rw [if_neg c1] at hq
      by_cases c2 : σ.2.1 + 17 ≤ q ∧ q < σ.2.1 + 20
      · omega
      · rw [if_neg c2] at hq
        by_cases c3 : rc ≤ q ∧ q < rc + 17
        · have := h0.2.2 q (by rw [a7 q c3.1 c3.2]; decide)
          omega
        · rw [if_neg c3] at hq
          have := h0.2.2 q hq
          omega
theorem least_ge (f : Nat → Bool) : ∀ (n g : Nat), g + n ≤ 100 → least f n g = -1 ∨ 0 ≤ least f n g
  | 0, g, _ => Or.inl rfl
  | n + 1, g, h => by
    unfold least
    split
    · right
      rw [i_le, i_n (by omega)]
      have : (0 : Int32).toInt = 0 := rfl
      omega
    · exact least_ge f n (g + 1) (by omega)
set_option maxRecDepth 100000 in
set_option maxHeartbeats 2000000 in
theorem c_PP_open {G : xG} {d rc : Nat} {own : Nat → Nat} {p sec : Int32} {Z : pZ} {σ : xS} (h : pw G σ own rc Z) : xm G (d + 20) mX8_open [rf G 0, .int p, .int sec] σ (fun v σ' => ∃ pf, hears pf ∧ ppost G σ (F_open p sec pf σ.2.1 rc Z) v σ') := by
  obtain ⟨K, ln, sz, pf, hrd, hpf, hh⟩ := h.hears
  have hs := h.2.2.2.2.2.2.2.2.1.1
  have hL12 := hs.1
  have h0 := h.own0
  have z12 : (12 : Int32).toInt = 12 := rfl
  have z0 : (0 : Int32).toInt = 0 := rfl
  unfold F_open
  cases hp : pget Z.2.2.1 p with
  | none =>
    refine xm_at 7 rfl (by decide) (Nat.le_of_ble_eq_true rfl) (by simp [Value.category]) tX8_open_ok ?_
    try simp only [xlo0, List.map_cons, List.map_nil, List.length_cons, List.length_nil, xrs, xr0, Nat.reduceAdd, Nat.reduceSub, List.cons_append, List.nil_append, List.set_cons_zero, List.set_cons_succ, Option.toList_none, Option.toList_some, nI_1]
    refine xgo 80 rfl ?_
    try simp only [xlo0, List.map_cons, List.map_nil, List.length_cons, List.length_nil, xrs, xr0, Nat.reduceAdd, Nat.reduceSub, List.cons_append, List.nil_append, List.set_cons_zero, List.set_cons_succ, Option.toList_none, Option.toList_some, nI_1]
    refine xcV 8 rfl rfl rfl (c_PP_packAtN h hp) rfl kX8_packAt iX8_packAt h.obj ⟨_, rfl, rfl⟩ rfl rfl (Nat.le_of_ble_eq_true rfl) (fun v1 s1 q1 => ?_)
    obtain ⟨rfl, rfl⟩ := q1
    refine xgo 80 rfl ?_
    try simp only [xlo0, List.map_cons, List.map_nil, List.length_cons, List.length_nil, xrs, xr0, Nat.reduceAdd, Nat.reduceSub, List.cons_append, List.nil_append, List.set_cons_zero, List.set_cons_succ, Option.toList_none, Option.toList_some, nI_1]
    refine xi_ifnonnull_n rfl ?_
    refine xgo 80 rfl ?_
    try simp only [xlo0, List.map_cons, List.map_nil, List.length_cons, List.length_nil, xrs, xr0, Nat.reduceAdd, Nat.reduceSub, List.cons_append, List.nil_append, List.set_cons_zero, List.set_cons_succ, Option.toList_none, Option.toList_some, nI_1]
    refine xi_ret_i rfl rfl rfl ⟨pf, hh, ppost.same h rfl⟩
  | some x =>
    obtain ⟨j, rfl, hj, -, hjj⟩ := pget_s hp h.2.2.1.1
    obtain ⟨-, ar, -, -, b3⟩ := id h.2.2.1
    have hx := (b3 j x hj).2.1
    have hlen4 : (pf x.2.2).2.1 = none → 4 ≤ (pf x.2.2).1 := fun hc => by
      rw [hpf] at hc ⊢
      exact parse_len hc
    dsimp only
    have hwp := c_RD_wrongPlace (d := d + 13) hrd hx (h.rsep hj)
    rw [← hpf] at hwp
    refine xm.mono (Q := fun v σ' => ppost G σ (if 12 ≤ Z.2.2.2.2.2.1.length then (-3, Z) else match (pf x.2.2).2.1 with
      | some w => (-5, zW Z (nI w))
      | none => if sec ≠ 0 ∧ sgnOk x.2.2 sec (pf x.2.2) = false then (-6, Z) else match (pf x.2.2).2.2.1.2.1.findIdx? (fun nd => decide (meetI Z.2.2.2.2.2.1 nd < 0)) with
        | some i => (-7, zW Z (nI i))
        | none => if 0 ≤ lsealI Z.2.2.2.2.2.1 (pf x.2.2).2.2.1 then (-8, zW Z (lsealI Z.2.2.2.2.2.1 (pf x.2.2).2.2.1)) else
          (nI Z.2.2.2.2.2.1.length, zL Z (Z.2.2.2.2.2.1 ++ [(σ.2.1 + 17, rc, ((pf x.2.2).2.2.1, (pf x.2.2).2.2.1.2.1.map (meetI Z.2.2.2.2.2.1), seenI Z.2.2.2.2.2.1 (pf x.2.2).2.2.1, 0, []))]))) v σ') ?_ (fun v σ' hq => ⟨pf, hh, hq⟩)
    generalize pf x.2.2 = ss at hwp hlen4 ⊢
    refine xm_at 7 rfl (by decide) (Nat.le_of_ble_eq_true rfl) (by simp [Value.category]) tX8_open_ok ?_
    try simp only [xlo0, List.map_cons, List.map_nil, List.length_cons, List.length_nil, xrs, xr0, Nat.reduceAdd, Nat.reduceSub, List.cons_append, List.nil_append, List.set_cons_zero, List.set_cons_succ, Option.toList_none, Option.toList_some, nI_1]
    refine xgo 80 rfl ?_
    try simp only [xlo0, List.map_cons, List.map_nil, List.length_cons, List.length_nil, xrs, xr0, Nat.reduceAdd, Nat.reduceSub, List.cons_append, List.nil_append, List.set_cons_zero, List.set_cons_succ, Option.toList_none, Option.toList_some, nI_1]
    refine xcV 8 rfl rfl rfl (c_PP_packAt h hj) rfl kX8_packAt iX8_packAt h.obj ⟨_, rfl, rfl⟩ rfl rfl (Nat.le_of_ble_eq_true rfl) (fun v1 s1 q1 => ?_)
    obtain ⟨rfl, rfl⟩ := q1
    refine xgo 80 rfl ?_
    try simp only [xlo0, List.map_cons, List.map_nil, List.length_cons, List.length_nil, xrs, xr0, Nat.reduceAdd, Nat.reduceSub, List.cons_append, List.nil_append, List.set_cons_zero, List.set_cons_succ, Option.toList_none, Option.toList_some, nI_1]
    refine xi_ifnonnull_r rfl ?_
    refine xgo 80 rfl ?_
    try simp only [xlo0, List.map_cons, List.map_nil, List.length_cons, List.length_nil, xrs, xr0, Nat.reduceAdd, Nat.reduceSub, List.cons_append, List.nil_append, List.set_cons_zero, List.set_cons_succ, Option.toList_none, Option.toList_some, nI_1]
    refine xg 8 rfl rfl rfl h.obj rfl ?_
    refine xgo 80 rfl ?_
    try simp only [xlo0, List.map_cons, List.map_nil, List.length_cons, List.length_nil, xrs, xr0, Nat.reduceAdd, Nat.reduceSub, List.cons_append, List.nil_append, List.set_cons_zero, List.set_cons_succ, Option.toList_none, Option.toList_some, nI_1]
    refine xg 8 rfl rfl rfl hs.2.1 rfl ?_
    refine xgo 80 rfl ?_
    try simp only [xlo0, List.map_cons, List.map_nil, List.length_cons, List.length_nil, xrs, xr0, Nat.reduceAdd, Nat.reduceSub, List.cons_append, List.nil_append, List.set_cons_zero, List.set_cons_succ, Option.toList_none, Option.toList_some, nI_1]
    refine xi_icmplt rfl (fun c1 => ?_) (fun c1 => ?_)
    · rw [i_lt, i_n (by omega)] at c1
      rw [if_neg (by omega)]
      refine xgo 80 rfl ?_
      try simp only [xlo0, List.map_cons, List.map_nil, List.length_cons, List.length_nil, xrs, xr0, Nat.reduceAdd, Nat.reduceSub, List.cons_append, List.nil_append, List.set_cons_zero, List.set_cons_succ, Option.toList_none, Option.toList_some, nI_1]
      refine xg 8 rfl rfl rfl h.obj rfl ?_
      obtain ⟨⟨rv, rp, rw', hro⟩, -⟩ := id hrd
      refine xgo 80 rfl ?_
      try simp only [xlo0, List.map_cons, List.map_nil, List.length_cons, List.length_nil, xrs, xr0, Nat.reduceAdd, Nat.reduceSub, List.cons_append, List.nil_append, List.set_cons_zero, List.set_cons_succ, Option.toList_none, Option.toList_some, nI_1]
      refine xcV 8 rfl rfl rfl hwp rfl kX5_wrongPlace iX5_wrongPlace hro ⟨_, rfl, rfl⟩ rfl rfl (Nat.le_of_ble_eq_true rfl) (fun v2 s2 q2 => ?_)
      obtain ⟨rfl, p1, p2, p3⟩ := q2
      have hp2 := h.reader p2 p3 p1.rd0
      have h02 := hp2.1.own0
      have hs2 := hp2.1.2.2.2.2.2.2.2.2.1.1
      have e21 : s2.2.1 = s1.2.1 := congrArg Prod.fst p3
      have e22 : s2.2.2 = s1.2.2 := congrArg Prod.snd p3
      cases hw : ss.2.1 with
      | some w =>
        dsimp only
        have hoi : oI (some w) = nI w := rfl
        rw [hoi]
        have hwl := p1.wlt w hw
        refine xgo 80 rfl ?_
        try simp only [xlo0, List.map_cons, List.map_nil, List.length_cons, List.length_nil, xrs, xr0, Nat.reduceAdd, Nat.reduceSub, List.cons_append, List.nil_append, List.set_cons_zero, List.set_cons_succ, Option.toList_none, Option.toList_some, nI_1]
        refine xi_iflt rfl (fun c2 => ?_) (fun c2 => ?_)
        · exact absurd c2 (by rw [i_lt, i_n hwl]; omega)
        refine xgo 80 rfl ?_
        try simp only [xlo0, List.map_cons, List.map_nil, List.length_cons, List.length_nil, xrs, xr0, Nat.reduceAdd, Nat.reduceSub, List.cons_append, List.nil_append, List.set_cons_zero, List.set_cons_succ, Option.toList_none, Option.toList_some, nI_1]
        refine xcV 8 rfl rfl rfl (c_PP_refuse hp2.1) rfl kX8_refuse iX8_refuse hp2.1.obj ⟨_, rfl, rfl⟩ rfl rfl (Nat.le_of_ble_eq_true rfl) (fun v3 s3 q3 => ?_)
        obtain ⟨rfl, r1, r2, r3⟩ := q3
        refine xgo 80 rfl ?_
        try simp only [xlo0, List.map_cons, List.map_nil, List.length_cons, List.length_nil, xrs, xr0, Nat.reduceAdd, Nat.reduceSub, List.cons_append, List.nil_append, List.set_cons_zero, List.set_cons_succ, Option.toList_none, Option.toList_some, nI_1]
        refine xi_ret_i rfl rfl rfl ⟨rfl, ⟨own, rc, r1⟩, hp2.2.tr p3 r2⟩
      | none =>
        dsimp only
        have hoi : oI none = -1 := rfl
        rw [hoi]
        have hl4 : 4 ≤ x.2.2.length := by have := hlen4 hw; have := p1.len; omega
        refine xgo 80 rfl ?_
        try simp only [xlo0, List.map_cons, List.map_nil, List.length_cons, List.length_nil, xrs, xr0, Nat.reduceAdd, Nat.reduceSub, List.cons_append, List.nil_append, List.set_cons_zero, List.set_cons_succ, Option.toList_none, Option.toList_some, nI_1]
        refine xi_iflt rfl (fun c2 => ?_) (fun c2 => ?_)
        · have rest : xw G (d + 20) mX8_open 69 [some (rf G 0), some (.int (nI j)), some (.int sec), some (rf G x.1), some (.int (-1)), none, none] [] s2 (ppost G s1 (match ss.2.2.1.2.1.findIdx? (fun nd => decide (meetI Z.2.2.2.2.2.1 nd < 0)) with
              | some i => (-7, zW Z (nI i))
              | none => if 0 ≤ lsealI Z.2.2.2.2.2.1 ss.2.2.1 then (-8, zW Z (lsealI Z.2.2.2.2.2.1 ss.2.2.1)) else
                (nI Z.2.2.2.2.2.1.length, zL Z (Z.2.2.2.2.2.1 ++ [(s1.2.1 + 17, rc, (ss.2.2.1, ss.2.2.1.2.1.map (meetI Z.2.2.2.2.2.1), seenI Z.2.2.2.2.2.1 ss.2.2.1, 0, []))])))) := by
            have hfu := c_SH_firstUnmet (d := d + 16) hs2 p1.say
            have hls := c_SH_leastSealed (d := d + 15) hs2 p1.say
            have hge : lsealI Z.2.2.2.2.2.1 ss.2.2.1 = -1 ∨ 0 ≤ lsealI Z.2.2.2.2.2.1 ss.2.2.1 := least_ge _ 16 0 (by omega)
            generalize lsealI Z.2.2.2.2.2.1 ss.2.2.1 = ls at hls hge ⊢
            have hbd := p1.say.bnd
            refine xgo 80 rfl ?_
            try simp only [xlo0, List.map_cons, List.map_nil, List.length_cons, List.length_nil, xrs, xr0, Nat.reduceAdd, Nat.reduceSub, List.cons_append, List.nil_append, List.set_cons_zero, List.set_cons_succ, Option.toList_none, Option.toList_some, nI_1]
            refine xg 8 rfl rfl rfl hp2.1.obj rfl ?_
            refine xgo 80 rfl ?_
            try simp only [xlo0, List.map_cons, List.map_nil, List.length_cons, List.length_nil, xrs, xr0, Nat.reduceAdd, Nat.reduceSub, List.cons_append, List.nil_append, List.set_cons_zero, List.set_cons_succ, Option.toList_none, Option.toList_some, nI_1]
            refine xg 8 rfl rfl rfl hp2.1.obj rfl ?_
            refine xgo 80 rfl ?_
            try simp only [xlo0, List.map_cons, List.map_nil, List.length_cons, List.length_nil, xrs, xr0, Nat.reduceAdd, Nat.reduceSub, List.cons_append, List.nil_append, List.set_cons_zero, List.set_cons_succ, Option.toList_none, Option.toList_some, nI_1]
            refine xg 8 rfl rfl rfl p1.1 rfl ?_
            refine xgo 80 rfl ?_
            try simp only [xlo0, List.map_cons, List.map_nil, List.length_cons, List.length_nil, xrs, xr0, Nat.reduceAdd, Nat.reduceSub, List.cons_append, List.nil_append, List.set_cons_zero, List.set_cons_succ, Option.toList_none, Option.toList_some, nI_1]
            refine xcV 8 rfl rfl rfl hfu rfl kX7_firstUnmet iX7_firstUnmet hs2.2.1 ⟨_, rfl, rfl⟩ rfl rfl (Nat.le_of_ble_eq_true rfl) (fun v3 s3 q3 => ?_)
            obtain ⟨rfl, rfl⟩ := q3
            cases hfi : ss.2.2.1.2.1.findIdx? (fun nd => decide (meetI Z.2.2.2.2.2.1 nd < 0)) with
            | some i =>
              dsimp only
              have hoi : oI (some i) = nI i := rfl
              rw [hoi]
              have hil := fi_lt hfi
              refine xgo 80 rfl ?_
              try simp only [xlo0, List.map_cons, List.map_nil, List.length_cons, List.length_nil, xrs, xr0, Nat.reduceAdd, Nat.reduceSub, List.cons_append, List.nil_append, List.set_cons_zero, List.set_cons_succ, Option.toList_none, Option.toList_some, nI_1]
              refine xi_iflt rfl (fun c3 => ?_) (fun c3 => ?_)
              · exact absurd c3 (by rw [i_lt, i_n (by omega)]; omega)
              refine xgo 80 rfl ?_
              try simp only [xlo0, List.map_cons, List.map_nil, List.length_cons, List.length_nil, xrs, xr0, Nat.reduceAdd, Nat.reduceSub, List.cons_append, List.nil_append, List.set_cons_zero, List.set_cons_succ, Option.toList_none, Option.toList_some, nI_1]
              refine xcV 8 rfl rfl rfl (c_PP_refuse hp2.1) rfl kX8_refuse iX8_refuse hp2.1.obj ⟨_, rfl, rfl⟩ rfl rfl (Nat.le_of_ble_eq_true rfl) (fun v4 s4 q4 => ?_)
              obtain ⟨rfl, r1, r2, r3⟩ := q4
              refine xgo 80 rfl ?_
              try simp only [xlo0, List.map_cons, List.map_nil, List.length_cons, List.length_nil, xrs, xr0, Nat.reduceAdd, Nat.reduceSub, List.cons_append, List.nil_append, List.set_cons_zero, List.set_cons_succ, Option.toList_none, Option.toList_some, nI_1]
              refine xi_ret_i rfl rfl rfl ⟨rfl, ⟨own, rc, r1⟩, hp2.2.tr p3 r2⟩
            | none =>
              dsimp only
              rw [hoi]
              refine xgo 80 rfl ?_
              try simp only [xlo0, List.map_cons, List.map_nil, List.length_cons, List.length_nil, xrs, xr0, Nat.reduceAdd, Nat.reduceSub, List.cons_append, List.nil_append, List.set_cons_zero, List.set_cons_succ, Option.toList_none, Option.toList_some, nI_1]
              refine xi_iflt rfl (fun c3 => ?_) (fun c3 => ?_)
              · refine xgo 80 rfl ?_
                try simp only [xlo0, List.map_cons, List.map_nil, List.length_cons, List.length_nil, xrs, xr0, Nat.reduceAdd, Nat.reduceSub, List.cons_append, List.nil_append, List.set_cons_zero, List.set_cons_succ, Option.toList_none, Option.toList_some, nI_1]
                refine xg 8 rfl rfl rfl hp2.1.obj rfl ?_
                refine xgo 80 rfl ?_
                try simp only [xlo0, List.map_cons, List.map_nil, List.length_cons, List.length_nil, xrs, xr0, Nat.reduceAdd, Nat.reduceSub, List.cons_append, List.nil_append, List.set_cons_zero, List.set_cons_succ, Option.toList_none, Option.toList_some, nI_1]
                refine xg 8 rfl rfl rfl hp2.1.obj rfl ?_
                refine xgo 80 rfl ?_
                try simp only [xlo0, List.map_cons, List.map_nil, List.length_cons, List.length_nil, xrs, xr0, Nat.reduceAdd, Nat.reduceSub, List.cons_append, List.nil_append, List.set_cons_zero, List.set_cons_succ, Option.toList_none, Option.toList_some, nI_1]
                refine xg 8 rfl rfl rfl p1.1 rfl ?_
                refine xgo 80 rfl ?_
                try simp only [xlo0, List.map_cons, List.map_nil, List.length_cons, List.length_nil, xrs, xr0, Nat.reduceAdd, Nat.reduceSub, List.cons_append, List.nil_append, List.set_cons_zero, List.set_cons_succ, Option.toList_none, Option.toList_some, nI_1]
                refine xcV 8 rfl rfl rfl hls rfl kX7_leastSealed iX7_leastSealed hs2.2.1 ⟨_, rfl, rfl⟩ rfl rfl (Nat.le_of_ble_eq_true rfl) (fun v4 s4 q4 => ?_)
                obtain ⟨rfl, rfl⟩ := q4
                refine xgo 80 rfl ?_
                try simp only [xlo0, List.map_cons, List.map_nil, List.length_cons, List.length_nil, xrs, xr0, Nat.reduceAdd, Nat.reduceSub, List.cons_append, List.nil_append, List.set_cons_zero, List.set_cons_succ, Option.toList_none, Option.toList_some, nI_1]
                refine xi_iflt rfl (fun c4 => ?_) (fun c4 => ?_)
                · rw [if_neg (by rw [i_lt] at c4; rw [i_le]; omega)]
                  refine xgo 80 rfl ?_
                  try simp only [xlo0, List.map_cons, List.map_nil, List.length_cons, List.length_nil, xrs, xr0, Nat.reduceAdd, Nat.reduceSub, List.cons_append, List.nil_append, List.set_cons_zero, List.set_cons_succ, Option.toList_none, Option.toList_some, nI_1]
                  refine xg 8 rfl rfl rfl hp2.1.obj rfl ?_
                  refine xgo 80 rfl ?_
                  try simp only [xlo0, List.map_cons, List.map_nil, List.length_cons, List.length_nil, xrs, xr0, Nat.reduceAdd, Nat.reduceSub, List.cons_append, List.nil_append, List.set_cons_zero, List.set_cons_succ, Option.toList_none, Option.toList_some, nI_1]
                  refine xg 8 rfl rfl rfl hp2.1.obj rfl ?_
                  refine xgo 80 rfl ?_
                  try simp only [xlo0, List.map_cons, List.map_nil, List.length_cons, List.length_nil, xrs, xr0, Nat.reduceAdd, Nat.reduceSub, List.cons_append, List.nil_append, List.set_cons_zero, List.set_cons_succ, Option.toList_none, Option.toList_some, nI_1]
                  refine xcV 8 rfl rfl rfl (c_RD_handOver p1 (by omega)) rfl kX5_handOver iX5_handOver p1.1 ⟨_, rfl, rfl⟩ rfl rfl (Nat.le_of_ble_eq_true rfl) (fun v5 s5 q5 => ?_)
                  obtain ⟨rfl, t1, t2, t3, t4⟩ := q5
                  have hsh := hp2.1.shsep
                  have hs5 : shf G s5.1 82 Z.2.2.2.2.2.1 := hs2.keepQ (t2 _ (by omega) (by omega)) (t2 _ (by omega) (by omega)) (fun i y hy q hq => by
                    have := hsh.2 i y hy
                    have := (hp2.1.2.2.2.2.2.2.2.2.1.2 i y hy).2.2
                    have hfs := hp2.1.fsep.2 i y hy
                    obtain ⟨b1, b2, b3⟩ := hp2.1.2.2.2.2.2.2.2.2.1.2 i y hy
                    have o1 := h02.2.2 y.2.1 (by rw [b2 _ (by omega) (by omega)]; omega)
                    exact t2 q (by omega) (by omega))
                  have hrcb := hp2.1.2.2.2.2.2.2.2.1.2
                  have o2 := h02.2.2 rc (by rw [hrcb _ (by omega) (by omega)]; decide)
                  have o3 := h02.2.2 (rc + 16) (by rw [hrcb _ (by omega) (by omega)]; decide)
                  have hK5 : cont G s5.1 rc ss.2.2.1 := p1.say.keepQ (fun q a b => t2 q (by omega) (by omega))
                  have hput := c_SH_put (d := d + 15) hs5 hK5 (by omega) (by omega) ⟨by omega, fun i y hy => by have := hsh.2 i y hy; omega⟩ (by omega)
                  refine xgo 80 rfl ?_
                  try simp only [xlo0, List.map_cons, List.map_nil, List.length_cons, List.length_nil, xrs, xr0, Nat.reduceAdd, Nat.reduceSub, List.cons_append, List.nil_append, List.set_cons_zero, List.set_cons_succ, Option.toList_none, Option.toList_some, nI_1]
                  refine xcV 8 rfl rfl rfl hput rfl kX7_put iX7_put hs5.2.1 ⟨_, rfl, rfl⟩ rfl rfl (Nat.le_of_ble_eq_true rfl) (fun v6 s6 q6 => ?_)
                  obtain ⟨rfl, u1, u2, u3, u4⟩ := q6
                  have hn6 : s5.2.1 = s4.2.1 + 17 := t3
                  rw [hn6] at u1
                  obtain ⟨own', hfin⟩ := hp2.1.entry2 (σ' := s6) (by omega) (fun q a1 a2 a3 a4 => by rw [u2 q (by omega) a3 a4, t2 q a1 a2]) (by omega) (t1.keepQ (fun q hq => u2 q (by omega) (by omega) (by omega))) u1
                  rw [e21] at hfin
                  refine xgo 80 rfl ?_
                  try simp only [xlo0, List.map_cons, List.map_nil, List.length_cons, List.length_nil, xrs, xr0, Nat.reduceAdd, Nat.reduceSub, List.cons_append, List.nil_append, List.set_cons_zero, List.set_cons_succ, Option.toList_none, Option.toList_some, nI_1]
                  refine xi_ret_i rfl rfl rfl ⟨rfl, ⟨own', _, hfin⟩, fun q a b => by rw [u2 q (by omega) (by omega) (by omega), t2 q (by omega) (by omega)]; exact hp2.2.1 q a b, by omega, by omega, by omega⟩
                · rw [if_pos (by rw [i_lt] at c4; rw [i_le]; omega)]
                  refine xgo 80 rfl ?_
                  try simp only [xlo0, List.map_cons, List.map_nil, List.length_cons, List.length_nil, xrs, xr0, Nat.reduceAdd, Nat.reduceSub, List.cons_append, List.nil_append, List.set_cons_zero, List.set_cons_succ, Option.toList_none, Option.toList_some, nI_1]
                  refine xcV 8 rfl rfl rfl (c_PP_refuse hp2.1) rfl kX8_refuse iX8_refuse hp2.1.obj ⟨_, rfl, rfl⟩ rfl rfl (Nat.le_of_ble_eq_true rfl) (fun v5 s5 q5 => ?_)
                  obtain ⟨rfl, r1, r2, r3⟩ := q5
                  refine xgo 80 rfl ?_
                  try simp only [xlo0, List.map_cons, List.map_nil, List.length_cons, List.length_nil, xrs, xr0, Nat.reduceAdd, Nat.reduceSub, List.cons_append, List.nil_append, List.set_cons_zero, List.set_cons_succ, Option.toList_none, Option.toList_some, nI_1]
                  refine xi_ret_i rfl rfl rfl ⟨rfl, ⟨own, rc, r1⟩, hp2.2.tr p3 r2⟩
              · exact absurd (by decide) c3
          refine xgo 80 rfl ?_
          try simp only [xlo0, List.map_cons, List.map_nil, List.length_cons, List.length_nil, xrs, xr0, Nat.reduceAdd, Nat.reduceSub, List.cons_append, List.nil_append, List.set_cons_zero, List.set_cons_succ, Option.toList_none, Option.toList_some, nI_1]
          refine xi_ifeq rfl (fun c5 => ?_) (fun c5 => ?_)
          · rw [if_neg (fun hc => hc.1 c5)]
            exact rest
          · refine xgo 80 rfl ?_
            try simp only [xlo0, List.map_cons, List.map_nil, List.length_cons, List.length_nil, xrs, xr0, Nat.reduceAdd, Nat.reduceSub, List.cons_append, List.nil_append, List.set_cons_zero, List.set_cons_succ, Option.toList_none, Option.toList_some, nI_1]
            refine xg 8 rfl rfl rfl hp2.1.obj rfl ?_
            refine xgo 80 rfl ?_
            try simp only [xlo0, List.map_cons, List.map_nil, List.length_cons, List.length_nil, xrs, xr0, Nat.reduceAdd, Nat.reduceSub, List.cons_append, List.nil_append, List.set_cons_zero, List.set_cons_succ, Option.toList_none, Option.toList_some, nI_1]
            refine xcV 8 rfl rfl rfl (c_RD_isSignedBy p1 hl4) rfl kX5_isSignedBy iX5_isSignedBy p1.1 ⟨_, rfl, rfl⟩ rfl rfl (Nat.le_of_ble_eq_true rfl) (fun v3 s3 q3 => ?_)
            obtain ⟨rfl, rfl⟩ := q3
            refine xgo 80 rfl ?_
            try simp only [xlo0, List.map_cons, List.map_nil, List.length_cons, List.length_nil, xrs, xr0, Nat.reduceAdd, Nat.reduceSub, List.cons_append, List.nil_append, List.set_cons_zero, List.set_cons_succ, Option.toList_none, Option.toList_some, nI_1]
            refine xi_ifne rfl (fun c6 => ?_) (fun c6 => ?_)
            · rw [bI_z, Bool.not_eq_false] at c6
              rw [if_neg (fun hc => by have := hc.2; unfold sgnOk at this; rw [c6] at this; cases this)]
              exact rest
            · rw [bI_z] at c6
              rw [if_pos ⟨c5, c6⟩]
              refine xgo 80 rfl ?_
              try simp only [xlo0, List.map_cons, List.map_nil, List.length_cons, List.length_nil, xrs, xr0, Nat.reduceAdd, Nat.reduceSub, List.cons_append, List.nil_append, List.set_cons_zero, List.set_cons_succ, Option.toList_none, Option.toList_some, nI_1]
              refine xi_ret_i rfl rfl rfl ⟨rfl, ⟨own, rc, hp2.1⟩, hp2.2⟩
        · exact absurd (by decide) c2
    · rw [i_lt, i_n (by omega)] at c1
      rw [if_pos (by omega)]
      refine xgo 80 rfl ?_
      try simp only [xlo0, List.map_cons, List.map_nil, List.length_cons, List.length_nil, xrs, xr0, Nat.reduceAdd, Nat.reduceSub, List.cons_append, List.nil_append, List.set_cons_zero, List.set_cons_succ, Option.toList_none, Option.toList_some, nI_1]
      refine xi_ret_i rfl rfl rfl (ppost.same h rfl)
