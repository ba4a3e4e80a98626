abbrev rwb (s : pS) (r : Nat) : List Int32 := rby s.2.2.1.2.2.2 (nI r)
def srow (r : Nat) (x : List Int32) (s : pS) : pS := (s.1, s.2.1, (s.2.2.1.1, s.2.2.1.2.1, s.2.2.1.2.2.1, rset s.2.2.1.2.2.2 r x), s.2.2.2)
theorem rwb_eq {s : pS} {r : Nat} {e : Int32 × Int32 × List Int32} (h : s.2.2.1.2.2.2[r]? = some e) (hr : r < 8) : rwb s r = e.2.2 := rby_n h (by omega)
def hPlain1 (bs : List Int32) (r : Nat) (s : pS) : pS := srow r (rwb s r ++ [(nxt bs 0 255 s).1]) (nxt bs 0 255 s).2
def hPlain (bs : List Int32) (r n : Nat) (s : pS) : pS := hLoop (hPlain1 bs r) n s
set_option maxRecDepth 100000 in
set_option maxHeartbeats 8000000 in
theorem c_RD_lacking {G : xG} {d r b c cap k : Nat} {bs : List Int32} {x : Int32} {s : pS} {σ : xS} (h : rdw G σ.1 r b c cap bs s) (hk : k < 8) (hx : s.2.2.2.1[k]? = some x) : xm G (d + 2) mX5_lacking [rf G r, .int (nI k)] σ (fun v σ' => v = some (.int (x - nI (rwb s k).length)) ∧ σ' = σ) := by
  have hcl : (nI k).toNatClampNeg = k := nI_clamp (by omega)
  refine xm_at 2 rfl (by decide) (Nat.le_of_ble_eq_true rfl) (by simp [Value.category]) tX5_lacking_ok ?_
  try simp only [xlo0, List.map_cons, List.map_nil, List.length_cons, List.length_nil, xrs, xr0, Nat.reduceAdd, Nat.reduceSub, List.cons_append, List.nil_append, List.set_cons_zero, List.set_cons_succ, Option.toList_none, Option.toList_some, nI_1]
  refine xgo 80 rfl ?_
  try simp only [xlo0, List.map_cons, List.map_nil, List.length_cons, List.length_nil, xrs, xr0, Nat.reduceAdd, Nat.reduceSub, List.cons_append, List.nil_append, List.set_cons_zero, List.set_cons_succ, Option.toList_none, Option.toList_some, nI_1]
  refine xg 5 rfl rfl rfl h.1 rfl ?_
  refine xgo 80 rfl ?_
  try simp only [xlo0, List.map_cons, List.map_nil, List.length_cons, List.length_nil, xrs, xr0, Nat.reduceAdd, Nat.reduceSub, List.cons_append, List.nil_append, List.set_cons_zero, List.set_cons_succ, Option.toList_none, Option.toList_some, nI_1]
  refine xi_iald rfl h.2.1 (nI_pos (by omega)) (by rw [hcl]; exact vi_get hx) ?_
  refine xgo 80 rfl ?_
  try simp only [xlo0, List.map_cons, List.map_nil, List.length_cons, List.length_nil, xrs, xr0, Nat.reduceAdd, Nat.reduceSub, List.cons_append, List.nil_append, List.set_cons_zero, List.set_cons_succ, Option.toList_none, Option.toList_some, nI_1]
  refine xg 5 rfl rfl rfl h.1 rfl ?_
  refine xgo 80 rfl ?_
  try simp only [xlo0, List.map_cons, List.map_nil, List.length_cons, List.length_nil, xrs, xr0, Nat.reduceAdd, Nat.reduceSub, List.cons_append, List.nil_append, List.set_cons_zero, List.set_cons_succ, Option.toList_none, Option.toList_some, nI_1]
  refine xcV 5 rfl rfl rfl (c_CT_pageLength (r := nI k) h.say) rfl kX2_pageLength iX2_pageLength h.say.obj ⟨_, rfl, rfl⟩ rfl rfl (Nat.le_of_ble_eq_true rfl) (fun v1 s1 q1 => ?_)
  obtain ⟨rfl, rfl⟩ := q1
  refine xgo 80 rfl ?_
  try simp only [xlo0, List.map_cons, List.map_nil, List.length_cons, List.length_nil, xrs, xr0, Nat.reduceAdd, Nat.reduceSub, List.cons_append, List.nil_append, List.set_cons_zero, List.set_cons_succ, Option.toList_none, Option.toList_some, nI_1]
  refine xi_ret_i rfl rfl rfl ⟨rfl, rfl⟩
set_option maxRecDepth 100000 in
set_option maxHeartbeats 8000000 in
theorem c_RD_refuseIfLacking {G : xG} {d r b c cap k : Nat} {bs : List Int32} {x : Int32} {s : pS} {σ : xS} (h : rdw G σ.1 r b c cap bs s) (hs : rsep r b c) (hk : k < 8) (hx : s.2.2.2.1[k]? = some x) : xm G (d + 3) mX5_refuseIfLacking [rf G r, .int (nI k)] σ (rpost G σ r b c cap bs none (if 0 < x - nI (rwb s k).length then refS s.1 s else s)) := by
  refine xm_at 2 rfl (by decide) (Nat.le_of_ble_eq_true rfl) (by simp [Value.category]) tX5_refuseIfLacking_ok ?_
  try simp only [xlo0, List.map_cons, List.map_nil, List.length_cons, List.length_nil, xrs, xr0, Nat.reduceAdd, Nat.reduceSub, List.cons_append, List.nil_append, List.set_cons_zero, List.set_cons_succ, Option.toList_none, Option.toList_some, nI_1]
  refine xgo 80 rfl ?_
  try simp only [xlo0, List.map_cons, List.map_nil, List.length_cons, List.length_nil, xrs, xr0, Nat.reduceAdd, Nat.reduceSub, List.cons_append, List.nil_append, List.set_cons_zero, List.set_cons_succ, Option.toList_none, Option.toList_some, nI_1]
  refine xcV 5 rfl rfl rfl (c_RD_lacking h hk hx) rfl kX5_lacking iX5_lacking h.1 ⟨_, rfl, rfl⟩ rfl rfl (Nat.le_of_ble_eq_true rfl) (fun v1 s1 q1 => ?_)
  obtain ⟨rfl, rfl⟩ := q1
  refine xgo 80 rfl ?_
  try simp only [xlo0, List.map_cons, List.map_nil, List.length_cons, List.length_nil, xrs, xr0, Nat.reduceAdd, Nat.reduceSub, List.cons_append, List.nil_append, List.set_cons_zero, List.set_cons_succ, Option.toList_none, Option.toList_some, nI_1]
  refine xi_ifle rfl (fun c1 => ?_) (fun c1 => ?_)
  · rw [if_neg (by rw [i_lt]; rw [i_le] at c1; omega)]
    refine xgo 80 rfl ?_
    try simp only [xlo0, List.map_cons, List.map_nil, List.length_cons, List.length_nil, xrs, xr0, Nat.reduceAdd, Nat.reduceSub, List.cons_append, List.nil_append, List.set_cons_zero, List.set_cons_succ, Option.toList_none, Option.toList_some, nI_1]
    refine xi_ret_v rfl rfl ⟨rfl, h, fr2.rf, rfl⟩
  · rw [if_pos (by rw [i_lt]; rw [i_le] at c1; omega)]
    refine xgo 80 rfl ?_
    try simp only [xlo0, List.map_cons, List.map_nil, List.length_cons, List.length_nil, xrs, xr0, Nat.reduceAdd, Nat.reduceSub, List.cons_append, List.nil_append, List.set_cons_zero, List.set_cons_succ, Option.toList_none, Option.toList_some, nI_1]
    refine xg 5 rfl rfl rfl h.1 rfl ?_
    refine xgo 80 rfl ?_
    try simp only [xlo0, List.map_cons, List.map_nil, List.length_cons, List.length_nil, xrs, xr0, Nat.reduceAdd, Nat.reduceSub, List.cons_append, List.nil_append, List.set_cons_zero, List.set_cons_succ, Option.toList_none, Option.toList_some, nI_1]
    refine xcV 5 rfl rfl rfl (c_RD_refuseAt h hs h.len.1) rfl kX5_refuseAt iX5_refuseAt h.1 ⟨_, rfl, rfl⟩ rfl rfl (Nat.le_of_ble_eq_true rfl) (fun v2 s2 q2 => ?_)
    obtain ⟨rfl, p, g, kk⟩ := q2
    refine xgo 80 rfl ?_
    try simp only [xlo0, List.map_cons, List.map_nil, List.length_cons, List.length_nil, xrs, xr0, Nat.reduceAdd, Nat.reduceSub, List.cons_append, List.nil_append, List.set_cons_zero, List.set_cons_succ, Option.toList_none, Option.toList_some, nI_1]
    refine xi_ret_v rfl rfl ⟨rfl, p, g, kk⟩
set_option maxRecDepth 100000 in
set_option maxHeartbeats 8000000 in
theorem l_RD_hearPlain {G : xG} {d r b c cap k m : Nat} {bs : List Int32} {F : pS} {σ : xS} (hs : rsep r b c) (hk : k < 8) (hm : m < 1000) : ∀ (n i : Nat) (s : pS) (t : xS) (e : Int32 × Int32 × List Int32), i + n = m → s.2.2.1.2.2.2[k]? = some e → e.2.2.length + n ≤ 120 → hLoop (hPlain1 bs k) n s = F → rdw G t.1 r b c cap bs s → fr2 σ.1 t.1 r c → t.2 = σ.2 →
    xw G (d + 2) mX5_hearPlain 2 [some (rf G r), some (.int (nI k)), some (.int (nI m)), some (.int (nI i))] [] t (rpost G σ r b c cap bs none F) := by
  intro n
  induction n with
  | zero =>
    intro i s t e hi he hl hF h g kk
    have hi' : i = m := by omega
    subst hi'
    subst hF
    refine xgo 80 rfl ?_
    try simp only [xlo0, List.map_cons, List.map_nil, List.length_cons, List.length_nil, xrs, xr0, Nat.reduceAdd, Nat.reduceSub, List.cons_append, List.nil_append, List.set_cons_zero, List.set_cons_succ, Option.toList_none, Option.toList_some, nI_1]
    refine xi_icmpge rfl (fun c1 => ?_) (fun c1 => ?_)
    · refine xgo 80 rfl ?_
      try simp only [xlo0, List.map_cons, List.map_nil, List.length_cons, List.length_nil, xrs, xr0, Nat.reduceAdd, Nat.reduceSub, List.cons_append, List.nil_append, List.set_cons_zero, List.set_cons_succ, Option.toList_none, Option.toList_some, nI_1]
      refine xi_ret_v rfl rfl ⟨rfl, h, g, kk⟩
    · exact absurd (i_le.mpr (Int.le_refl _)) c1
  | succ n ih =>
    intro i s t e hi he hl hF h g kk
    have hF : (if s.2.1.isSome = true then s else hLoop (hPlain1 bs k) n (hPlain1 bs k s)) = F := hF
    refine xgo 80 rfl ?_
    try simp only [xlo0, List.map_cons, List.map_nil, List.length_cons, List.length_nil, xrs, xr0, Nat.reduceAdd, Nat.reduceSub, List.cons_append, List.nil_append, List.set_cons_zero, List.set_cons_succ, Option.toList_none, Option.toList_some, nI_1]
    refine xi_icmpge rfl (fun c1 => ?_) (fun c1 => ?_)
    · exact absurd c1 (by rw [i_le, i_n (by omega), i_n (by omega)]; omega)
    refine xgo 80 rfl ?_
    try simp only [xlo0, List.map_cons, List.map_nil, List.length_cons, List.length_nil, xrs, xr0, Nat.reduceAdd, Nat.reduceSub, List.cons_append, List.nil_append, List.set_cons_zero, List.set_cons_succ, Option.toList_none, Option.toList_some, nI_1]
    refine xcV 5 rfl rfl rfl (c_RD_isFine h) rfl kX5_isFine iX5_isFine h.1 ⟨_, rfl, rfl⟩ rfl rfl (Nat.le_of_ble_eq_true rfl) (fun v1 s1 q1 => ?_)
    obtain ⟨rfl, rfl⟩ := q1
    cases hw : s.2.1 with
    | some w =>
      rw [hw] at hF
      have hF : s = F := hF
      subst hF
      refine xgo 80 rfl ?_
      try simp only [xlo0, List.map_cons, List.map_nil, List.length_cons, List.length_nil, xrs, xr0, Nat.reduceAdd, Nat.reduceSub, List.cons_append, List.nil_append, List.set_cons_zero, List.set_cons_succ, Option.toList_none, Option.toList_some, nI_1]
      refine xi_ifeq rfl (fun c2 => ?_) (fun c2 => ?_)
      · refine xgo 80 rfl ?_
        try simp only [xlo0, List.map_cons, List.map_nil, List.length_cons, List.length_nil, xrs, xr0, Nat.reduceAdd, Nat.reduceSub, List.cons_append, List.nil_append, List.set_cons_zero, List.set_cons_succ, Option.toList_none, Option.toList_some, nI_1]
        refine xi_ret_v rfl rfl ⟨rfl, h, g, kk⟩
      · exact absurd rfl c2
    | none =>
      rw [hw, if_neg (by decide)] at hF
      refine xgo 80 rfl ?_
      try simp only [xlo0, List.map_cons, List.map_nil, List.length_cons, List.length_nil, xrs, xr0, Nat.reduceAdd, Nat.reduceSub, List.cons_append, List.nil_append, List.set_cons_zero, List.set_cons_succ, Option.toList_none, Option.toList_some, nI_1]
      refine xi_ifeq rfl (fun c2 => ?_) (fun c2 => ?_)
      · exact absurd c2 (by decide)
      refine xgo 80 rfl ?_
      try simp only [xlo0, List.map_cons, List.map_nil, List.length_cons, List.length_nil, xrs, xr0, Nat.reduceAdd, Nat.reduceSub, List.cons_append, List.nil_append, List.set_cons_zero, List.set_cons_succ, Option.toList_none, Option.toList_some, nI_1]
      refine xg 5 rfl rfl rfl h.1 rfl ?_
      refine xgo 80 rfl ?_
      try simp only [xlo0, List.map_cons, List.map_nil, List.length_cons, List.length_nil, xrs, xr0, Nat.reduceAdd, Nat.reduceSub, List.cons_append, List.nil_append, List.set_cons_zero, List.set_cons_succ, Option.toList_none, Option.toList_some, nI_1]
      refine xcV 5 rfl rfl rfl (c_RD_next (lo := 0) (hi := 255) h hs) rfl kX5_next iX5_next h.1 ⟨_, rfl, rfl⟩ rfl rfl (Nat.le_of_ble_eq_true rfl) (fun v2 s2 q2 => ?_)
      obtain ⟨rfl, p2, g2, k2⟩ := q2
      have hr2 : (nxt bs 0 255 s).2.2.2 = s.2.2 := nxt_rest ..
      have he2 : (nxt bs 0 255 s).2.2.2.1.2.2.2[k]? = some e := by rw [hr2]; exact he
      refine xgo 80 rfl ?_
      try simp only [xlo0, List.map_cons, List.map_nil, List.length_cons, List.length_nil, xrs, xr0, Nat.reduceAdd, Nat.reduceSub, List.cons_append, List.nil_append, List.set_cons_zero, List.set_cons_succ, Option.toList_none, Option.toList_some, nI_1]
      refine xcV 5 rfl rfl rfl (c_CT_putByte (b := (nxt bs 0 255 s).1) p2.say he2 (by omega)) rfl kX2_putByte iX2_putByte p2.say.obj ⟨_, rfl, rfl⟩ rfl rfl (Nat.le_of_ble_eq_true rfl) (fun v3 s3 q3 => ?_)
      obtain ⟨rfl, u1, u2, u3⟩ := q3
      have p3 := p2.resaid hs u2 u1
      have hq : hPlain1 bs k s = ((nxt bs 0 255 s).2.1, (nxt bs 0 255 s).2.2.1, ((nxt bs 0 255 s).2.2.2.1.1, (nxt bs 0 255 s).2.2.2.1.2.1, (nxt bs 0 255 s).2.2.2.1.2.2.1, rset (nxt bs 0 255 s).2.2.2.1.2.2.2 k (e.2.2 ++ [(nxt bs 0 255 s).1])), (nxt bs 0 255 s).2.2.2.2) := by
        unfold hPlain1 srow
        rw [rwb_eq he hk]
      refine xto 2 80 rfl ?_
      try simp only [xlo0, List.map_cons, List.map_nil, List.length_cons, List.length_nil, xrs, xr0, Nat.reduceAdd, Nat.reduceSub, List.cons_append, List.nil_append, List.set_cons_zero, List.set_cons_succ, Option.toList_none, Option.toList_some, nI_1]
      refine ih (i + 1) (hPlain1 bs k s) s3 (e.1, e.2.1, e.2.2 ++ [(nxt bs 0 255 s).1]) (by omega) (by rw [hq]; exact rset_get he2 _) (by simp; omega) hF (by rw [hq]; exact p3) ((g.tr g2).tr (fr2.said u2)) (u3.trans (k2.trans kk))
set_option maxRecDepth 100000 in
set_option maxHeartbeats 8000000 in
theorem c_RD_hearPlain {G : xG} {d r b c cap k m : Nat} {bs : List Int32} {s : pS} {e : Int32 × Int32 × List Int32} {σ : xS} (h : rdw G σ.1 r b c cap bs s) (hs : rsep r b c) (hk : k < 8) (he : s.2.2.1.2.2.2[k]? = some e) (hl : e.2.2.length + m ≤ 120) : xm G (d + 2) mX5_hearPlain [rf G r, .int (nI k), .int (nI m)] σ (rpost G σ r b c cap bs none (hPlain bs k m s)) := by
  refine xm_at 4 rfl (by decide) (Nat.le_of_ble_eq_true rfl) (by simp [Value.category]) tX5_hearPlain_ok ?_
  try simp only [xlo0, List.map_cons, List.map_nil, List.length_cons, List.length_nil, xrs, xr0, Nat.reduceAdd, Nat.reduceSub, List.cons_append, List.nil_append, List.set_cons_zero, List.set_cons_succ, Option.toList_none, Option.toList_some, nI_1]
  refine xto 2 80 rfl ?_
  try simp only [xlo0, List.map_cons, List.map_nil, List.length_cons, List.length_nil, xrs, xr0, Nat.reduceAdd, Nat.reduceSub, List.cons_append, List.nil_append, List.set_cons_zero, List.set_cons_succ, Option.toList_none, Option.toList_some, nI_1]
  exact l_RD_hearPlain hs hk (by omega) m 0 s σ e (by omega) he hl rfl h fr2.rf rfl
theorem hLoop_wrong {f : pS → pS} {n : Nat} {s : pS} (h : s.2.1.isSome = true) : hLoop f n s = s := by
  cases n with
  | zero => rfl
  | succ n => simp only [hLoop, h, if_true]
set_option maxRecDepth 100000 in
set_option maxHeartbeats 8000000 in
theorem c_RD_hearPlainW {G : xG} {d r b c cap k : Nat} {m : Int32} {bs : List Int32} {s : pS} {σ : xS} (h : rdw G σ.1 r b c cap bs s) (hw : s.2.1.isSome = true) : xm G (d + 2) mX5_hearPlain [rf G r, .int (nI k), .int m] σ (rpost G σ r b c cap bs none s) := by
  refine xm_at 4 rfl (by decide) (Nat.le_of_ble_eq_true rfl) (by simp [Value.category]) tX5_hearPlain_ok ?_
  try simp only [xlo0, List.map_cons, List.map_nil, List.length_cons, List.length_nil, xrs, xr0, Nat.reduceAdd, Nat.reduceSub, List.cons_append, List.nil_append, List.set_cons_zero, List.set_cons_succ, Option.toList_none, Option.toList_some, nI_1]
  refine xgo 80 rfl ?_
  try simp only [xlo0, List.map_cons, List.map_nil, List.length_cons, List.length_nil, xrs, xr0, Nat.reduceAdd, Nat.reduceSub, List.cons_append, List.nil_append, List.set_cons_zero, List.set_cons_succ, Option.toList_none, Option.toList_some, nI_1]
  refine xi_icmpge rfl (fun c1 => ?_) (fun c1 => ?_)
  · refine xgo 80 rfl ?_
    try simp only [xlo0, List.map_cons, List.map_nil, List.length_cons, List.length_nil, xrs, xr0, Nat.reduceAdd, Nat.reduceSub, List.cons_append, List.nil_append, List.set_cons_zero, List.set_cons_succ, Option.toList_none, Option.toList_some, nI_1]
    refine xi_ret_v rfl rfl ⟨rfl, h, fr2.rf, rfl⟩
  refine xgo 80 rfl ?_
  try simp only [xlo0, List.map_cons, List.map_nil, List.length_cons, List.length_nil, xrs, xr0, Nat.reduceAdd, Nat.reduceSub, List.cons_append, List.nil_append, List.set_cons_zero, List.set_cons_succ, Option.toList_none, Option.toList_some, nI_1]
  refine xcV 5 rfl rfl rfl (c_RD_isFine h) rfl kX5_isFine iX5_isFine h.1 ⟨_, rfl, rfl⟩ rfl rfl (Nat.le_of_ble_eq_true rfl) (fun v1 s1 q1 => ?_)
  obtain ⟨rfl, rfl⟩ := q1
  have : s.2.1.isNone = false := by cases hq : s.2.1 with
    | none => rw [hq] at hw; cases hw
    | some w => rfl
  rw [this]
  refine xgo 80 rfl ?_
  try simp only [xlo0, List.map_cons, List.map_nil, List.length_cons, List.length_nil, xrs, xr0, Nat.reduceAdd, Nat.reduceSub, List.cons_append, List.nil_append, List.set_cons_zero, List.set_cons_succ, Option.toList_none, Option.toList_some, nI_1]
  refine xi_ifeq rfl (fun c2 => ?_) (fun c2 => ?_)
  · refine xgo 80 rfl ?_
    try simp only [xlo0, List.map_cons, List.map_nil, List.length_cons, List.length_nil, xrs, xr0, Nat.reduceAdd, Nat.reduceSub, List.cons_append, List.nil_append, List.set_cons_zero, List.set_cons_succ, Option.toList_none, Option.toList_some, nI_1]
    refine xi_ret_v rfl rfl ⟨rfl, h, fr2.rf, rfl⟩
  · exact absurd rfl c2
/-- a page as it stands -/
def hPlainPage (bs : List Int32) (r : Nat) (x z : Int32) (s : pS) : pS := if z = x then hPlain bs r z.toInt.toNat s else refS s.1 s
theorem refS_some (x : Nat) (s : pS) : (refS x s).2.1.isSome = true := by
  unfold refS
  split
  · next h => exact h
  · rfl
set_option maxRecDepth 100000 in
set_option maxHeartbeats 8000000 in
theorem c_RD_hearPlainPage {G : xG} {d r b c cap k lr : Nat} {bs : List Int32} {z : Int32} {s : pS} {e : Int32 × Int32 × List Int32} {σ : xS} (h : rdw G σ.1 r b c cap bs s) (hs : rsep r b c) (hk : k < 8) (he : s.2.2.1.2.2.2[k]? = some e) (hx : s.2.2.2.1[k]? = some (nI lr)) (hz : s.2.2.2.2[k]? = some z) (hl : e.2.2.length + lr ≤ 120) : xm G (d + 3) mX5_hearPlainPage [rf G r, .int (nI k)] σ (rpost G σ r b c cap bs none (hPlainPage bs k (nI lr) z s)) := by
  have hcl : (nI k).toNatClampNeg = k := nI_clamp (by omega)
  refine xm_at 2 rfl (by decide) (Nat.le_of_ble_eq_true rfl) (by simp [Value.category]) tX5_hearPlainPage_ok ?_
  try simp only [xlo0, List.map_cons, List.map_nil, List.length_cons, List.length_nil, xrs, xr0, Nat.reduceAdd, Nat.reduceSub, List.cons_append, List.nil_append, List.set_cons_zero, List.set_cons_succ, Option.toList_none, Option.toList_some, nI_1]
  refine xgo 80 rfl ?_
  try simp only [xlo0, List.map_cons, List.map_nil, List.length_cons, List.length_nil, xrs, xr0, Nat.reduceAdd, Nat.reduceSub, List.cons_append, List.nil_append, List.set_cons_zero, List.set_cons_succ, Option.toList_none, Option.toList_some, nI_1]
  refine xg 5 rfl rfl rfl h.1 rfl ?_
  refine xgo 80 rfl ?_
  try simp only [xlo0, List.map_cons, List.map_nil, List.length_cons, List.length_nil, xrs, xr0, Nat.reduceAdd, Nat.reduceSub, List.cons_append, List.nil_append, List.set_cons_zero, List.set_cons_succ, Option.toList_none, Option.toList_some, nI_1]
  refine xi_iald rfl h.2.2.1 (nI_pos (by omega)) (by rw [hcl]; exact vi_get hz) ?_
  refine xgo 80 rfl ?_
  try simp only [xlo0, List.map_cons, List.map_nil, List.length_cons, List.length_nil, xrs, xr0, Nat.reduceAdd, Nat.reduceSub, List.cons_append, List.nil_append, List.set_cons_zero, List.set_cons_succ, Option.toList_none, Option.toList_some, nI_1]
  refine xg 5 rfl rfl rfl h.1 rfl ?_
  refine xgo 80 rfl ?_
  try simp only [xlo0, List.map_cons, List.map_nil, List.length_cons, List.length_nil, xrs, xr0, Nat.reduceAdd, Nat.reduceSub, List.cons_append, List.nil_append, List.set_cons_zero, List.set_cons_succ, Option.toList_none, Option.toList_some, nI_1]
  refine xi_iald rfl h.2.1 (nI_pos (by omega)) (by rw [hcl]; exact vi_get hx) ?_
  refine xgo 80 rfl ?_
  try simp only [xlo0, List.map_cons, List.map_nil, List.length_cons, List.length_nil, xrs, xr0, Nat.reduceAdd, Nat.reduceSub, List.cons_append, List.nil_append, List.set_cons_zero, List.set_cons_succ, Option.toList_none, Option.toList_some, nI_1]
  refine xi_icmpeq rfl (fun c1 => ?_) (fun c1 => ?_)
  · subst c1
    have e1 : hPlainPage bs k (nI lr) (nI lr) s = hPlain bs k lr s := by
      unfold hPlainPage
      rw [if_pos rfl, i_n (by omega)]
      rfl
    rw [e1]
    refine xgo 80 rfl ?_
    try simp only [xlo0, List.map_cons, List.map_nil, List.length_cons, List.length_nil, xrs, xr0, Nat.reduceAdd, Nat.reduceSub, List.cons_append, List.nil_append, List.set_cons_zero, List.set_cons_succ, Option.toList_none, Option.toList_some, nI_1]
    refine xg 5 rfl rfl rfl h.1 rfl ?_
    refine xgo 80 rfl ?_
    try simp only [xlo0, List.map_cons, List.map_nil, List.length_cons, List.length_nil, xrs, xr0, Nat.reduceAdd, Nat.reduceSub, List.cons_append, List.nil_append, List.set_cons_zero, List.set_cons_succ, Option.toList_none, Option.toList_some, nI_1]
    refine xi_iald rfl h.2.2.1 (nI_pos (by omega)) (by rw [hcl]; exact vi_get hz) ?_
    refine xgo 80 rfl ?_
    try simp only [xlo0, List.map_cons, List.map_nil, List.length_cons, List.length_nil, xrs, xr0, Nat.reduceAdd, Nat.reduceSub, List.cons_append, List.nil_append, List.set_cons_zero, List.set_cons_succ, Option.toList_none, Option.toList_some, nI_1]
    refine xcV 5 rfl rfl rfl (c_RD_hearPlain (m := lr) h hs hk he hl) rfl kX5_hearPlain iX5_hearPlain h.1 ⟨_, rfl, rfl⟩ rfl rfl (Nat.le_of_ble_eq_true rfl) (fun v1 s1 q1 => ?_)
    obtain ⟨rfl, p, g, kk⟩ := q1
    refine xgo 80 rfl ?_
    try simp only [xlo0, List.map_cons, List.map_nil, List.length_cons, List.length_nil, xrs, xr0, Nat.reduceAdd, Nat.reduceSub, List.cons_append, List.nil_append, List.set_cons_zero, List.set_cons_succ, Option.toList_none, Option.toList_some, nI_1]
    refine xi_ret_v rfl rfl ⟨rfl, p, g, kk⟩
  · have e1 : hPlainPage bs k (nI lr) z s = refS s.1 s := by
      unfold hPlainPage
      rw [if_neg c1]
    rw [e1]
    refine xgo 80 rfl ?_
    try simp only [xlo0, List.map_cons, List.map_nil, List.length_cons, List.length_nil, xrs, xr0, Nat.reduceAdd, Nat.reduceSub, List.cons_append, List.nil_append, List.set_cons_zero, List.set_cons_succ, Option.toList_none, Option.toList_some, nI_1]
    refine xg 5 rfl rfl rfl h.1 rfl ?_
    refine xgo 80 rfl ?_
    try simp only [xlo0, List.map_cons, List.map_nil, List.length_cons, List.length_nil, xrs, xr0, Nat.reduceAdd, Nat.reduceSub, List.cons_append, List.nil_append, List.set_cons_zero, List.set_cons_succ, Option.toList_none, Option.toList_some, nI_1]
    refine xcV 5 rfl rfl rfl (c_RD_refuseAt h hs h.len.1) rfl kX5_refuseAt iX5_refuseAt h.1 ⟨_, rfl, rfl⟩ rfl rfl (Nat.le_of_ble_eq_true rfl) (fun v2 s2 q2 => ?_)
    obtain ⟨rfl, p, g, kk⟩ := q2
    have hzz : (refS s.1 s).2.2.2.2[k]? = some z := by rw [refS_rest]; exact hz
    refine xgo 80 rfl ?_
    try simp only [xlo0, List.map_cons, List.map_nil, List.length_cons, List.length_nil, xrs, xr0, Nat.reduceAdd, Nat.reduceSub, List.cons_append, List.nil_append, List.set_cons_zero, List.set_cons_succ, Option.toList_none, Option.toList_some, nI_1]
    refine xg 5 rfl rfl rfl p.1 rfl ?_
    refine xgo 80 rfl ?_
    try simp only [xlo0, List.map_cons, List.map_nil, List.length_cons, List.length_nil, xrs, xr0, Nat.reduceAdd, Nat.reduceSub, List.cons_append, List.nil_append, List.set_cons_zero, List.set_cons_succ, Option.toList_none, Option.toList_some, nI_1]
    refine xi_iald rfl p.2.2.1 (nI_pos (by omega)) (by rw [hcl]; exact vi_get hzz) ?_
    refine xgo 80 rfl ?_
    try simp only [xlo0, List.map_cons, List.map_nil, List.length_cons, List.length_nil, xrs, xr0, Nat.reduceAdd, Nat.reduceSub, List.cons_append, List.nil_append, List.set_cons_zero, List.set_cons_succ, Option.toList_none, Option.toList_some, nI_1]
    refine xcV 5 rfl rfl rfl (c_RD_hearPlainW p (refS_some _ _)) rfl kX5_hearPlain iX5_hearPlain p.1 ⟨_, rfl, rfl⟩ rfl rfl (Nat.le_of_ble_eq_true rfl) (fun v3 s3 q3 => ?_)
    obtain ⟨rfl, p2, g2, kk2⟩ := q3
    refine xgo 80 rfl ?_
    try simp only [xlo0, List.map_cons, List.map_nil, List.length_cons, List.length_nil, xrs, xr0, Nat.reduceAdd, Nat.reduceSub, List.cons_append, List.nil_append, List.set_cons_zero, List.set_cons_succ, Option.toList_none, Option.toList_some, nI_1]
    refine xi_ret_v rfl rfl ⟨rfl, p2, g.tr g2, kk2.trans kk⟩
