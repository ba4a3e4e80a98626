/-! ===== PackReader: the object at r, lengths r + 1, sizes r + 2; the row at b, what is said at c ===== -/
abbrev pS : Type := Nat × Option Nat × cV × List Int32 × List Int32
def rdw (G : xG) (h : Nat → Option xC) (r b c cap : Nat) (bs : List Int32) (s : pS) : Prop := h r = some (5, [rf G b, rf G c, .int (nI s.1), .int (oI s.2.1), rf G (r + 1), rf G (r + 2)]) ∧ h (r + 1) = some (11, vi s.2.2.2.1) ∧ h (r + 2) = some (11, vi s.2.2.2.2) ∧ s.2.2.2.1.length = 8 ∧ s.2.2.2.2.length = 8 ∧ brr G h b cap bs ∧ cont G h c s.2.2.1 ∧ s.1 ≤ bs.length ∧ ∀ w, s.2.1 = some w → w ≤ bs.length
def rsep (r b c : Nat) : Prop := (r + 3 ≤ b ∨ b + 2 ≤ r) ∧ (r + 3 ≤ c ∨ c + 17 ≤ r) ∧ (b + 2 ≤ c ∨ c + 17 ≤ b)
def fr2 (h h' : Nat → Option xC) (r c : Nat) : Prop := ∀ q, ¬ (r ≤ q ∧ q < r + 3) → ¬ (c ≤ q ∧ q < c + 17) → h' q = h q
theorem fr2.rf {h : Nat → Option xC} {r c : Nat} : fr2 h h r c := fun _ _ _ => rfl
theorem fr2.tr {h h1 h2 : Nat → Option xC} {r c : Nat} (f : fr2 h h1 r c) (g : fr2 h1 h2 r c) : fr2 h h2 r c := fun q a b => (g q a b).trans (f q a b)
def rpost (G : xG) (σ : xS) (r b c cap : Nat) (bs : List Int32) (v : Option Value) (s : pS) : Option Value → xS → Prop := fun v' σ' => v' = v ∧ rdw G σ'.1 r b c cap bs s ∧ fr2 σ.1 σ'.1 r c ∧ σ'.2 = σ.2
theorem rdw.len {G : xG} {h : Nat → Option xC} {r b c cap : Nat} {bs : List Int32} {s : pS} (H : rdw G h r b c cap bs s) : s.1 ≤ bs.length ∧ bs.length < 100000 := ⟨H.2.2.2.2.2.2.2.1, by have := H.2.2.2.2.2.1.len; omega⟩
theorem rdw.say {G : xG} {h : Nat → Option xC} {r b c cap : Nat} {bs : List Int32} {s : pS} (H : rdw G h r b c cap bs s) : cont G h c s.2.2.1 := H.2.2.2.2.2.2.1
theorem rdw.row {G : xG} {h : Nat → Option xC} {r b c cap : Nat} {bs : List Int32} {s : pS} (H : rdw G h r b c cap bs s) : brr G h b cap bs := H.2.2.2.2.2.1
/-- the object of the reader alone has changed -/
theorem rdw.reobj {G : xG} {h h' : Nat → Option xC} {r b c cap : Nat} {bs : List Int32} {s s' : pS} (H : rdw G h r b c cap bs s) (hs : rsep r b c) (f : ∀ q, q ≠ r → h' q = h q) (h0 : h' r = some (5, [rf G b, rf G c, .int (nI s'.1), .int (oI s'.2.1), rf G (r + 1), rf G (r + 2)])) (e : s'.2.2 = s.2.2) (l1 : s'.1 ≤ bs.length) (l2 : ∀ w, s'.2.1 = some w → w ≤ bs.length) : rdw G h' r b c cap bs s' := by
  obtain ⟨a1, a2, a3, a4, a5, a6, a7, a8, a9⟩ := H
  have g : frz h h' r 1 := frz.one f (by omega) (by omega)
  obtain ⟨s1, s2, s3⟩ := hs
  exact ⟨h0, by rw [f _ (by omega), e]; exact a2, by rw [f _ (by omega), e]; exact a3, by rw [e]; exact a4, by rw [e]; exact a5, a6.keep g (by omega), by rw [e]; exact a7.keep g (by omega), l1, l2⟩
/-- what is said alone has changed -/
theorem rdw.resaid {G : xG} {h h' : Nat → Option xC} {r b c cap : Nat} {bs : List Int32} {s : pS} {K : cV} (H : rdw G h r b c cap bs s) (hs : rsep r b c) (g : frz h h' c 17) (hK : cont G h' c K) : rdw G h' r b c cap bs (s.1, s.2.1, K, s.2.2.2) := by
  obtain ⟨a1, a2, a3, a4, a5, a6, a7, a8, a9⟩ := H
  obtain ⟨s1, s2, s3⟩ := hs
  exact ⟨by rw [g _ (by omega)]; exact a1, by rw [g _ (by omega)]; exact a2, by rw [g _ (by omega)]; exact a3, a4, a5, a6.keep g (by omega), hK, a8, a9⟩
theorem fr2.said {h h' : Nat → Option xC} {r c : Nat} (g : frz h h' c 17) : fr2 h h' r c := fun q _ b => g q (by omega)
theorem fr2.obj {h h' : Nat → Option xC} {r c : Nat} (f : ∀ q, q ≠ r → h' q = h q) : fr2 h h' r c := fun q a _ => f q (by omega)
/-- the next byte, from lo to hi; where it isn't, the place is wrong -/
def nxt (bs : List Int32) (lo hi : Int32) (s : pS) : Int32 × pS := if s.2.1.isSome then (lo, s) else if bs.getD s.1 (-1) = -1 ∨ bs.getD s.1 (-1) < lo ∨ hi < bs.getD s.1 (-1) then (lo, s.1, some s.1, s.2.2) else (bs.getD s.1 (-1), s.1 + 1, s.2.1, s.2.2)
theorem nxt_rest (bs : List Int32) (lo hi : Int32) (s : pS) : (nxt bs lo hi s).2.2.2 = s.2.2 := by
  unfold nxt
  split
  · rfl
  · split <;> rfl
set_option maxRecDepth 100000 in
set_option maxHeartbeats 8000000 in
theorem c_RD_isFine {G : xG} {d r b c cap : Nat} {bs : List Int32} {s : pS} {σ : xS} (h : rdw G σ.1 r b c cap bs s) : xm G d mX5_isFine [rf G r] σ (fun v σ' => v = some (.int (bI s.2.1.isNone)) ∧ σ' = σ) := by
  have hl := h.len
  have h0 := h.1
  refine xm_at 1 rfl (by decide) (Nat.le_of_ble_eq_true rfl) (by simp [Value.category]) tX5_isFine_ok ?_
  try simp only [xlo0, List.map_cons, List.map_nil, List.length_cons, List.length_nil, xrs, xr0, Nat.reduceAdd, Nat.reduceSub, List.cons_append, List.nil_append, List.set_cons_zero, List.set_cons_succ, Option.toList_none, Option.toList_some, nI_1]
  refine xgo 80 rfl ?_
  try simp only [xlo0, List.map_cons, List.map_nil, List.length_cons, List.length_nil, xrs, xr0, Nat.reduceAdd, Nat.reduceSub, List.cons_append, List.nil_append, List.set_cons_zero, List.set_cons_succ, Option.toList_none, Option.toList_some, nI_1]
  refine xg 5 rfl rfl rfl h0 rfl ?_
  cases hw : s.2.1 with
  | none =>
    refine xgo 80 rfl ?_
    try simp only [xlo0, List.map_cons, List.map_nil, List.length_cons, List.length_nil, xrs, xr0, Nat.reduceAdd, Nat.reduceSub, List.cons_append, List.nil_append, List.set_cons_zero, List.set_cons_succ, Option.toList_none, Option.toList_some, nI_1]
    refine xi_ifge rfl (fun c1 => ?_) (fun c1 => ?_)
    · exact absurd c1 (by decide)
    · refine xgo 80 rfl ?_
      try simp only [xlo0, List.map_cons, List.map_nil, List.length_cons, List.length_nil, xrs, xr0, Nat.reduceAdd, Nat.reduceSub, List.cons_append, List.nil_append, List.set_cons_zero, List.set_cons_succ, Option.toList_none, Option.toList_some, nI_1]
      refine xi_ret_i rfl rfl (by decide) ⟨rfl, rfl⟩
  | some w =>
    have := h.2.2.2.2.2.2.2.2 w hw
    refine xgo 80 rfl ?_
    try simp only [xlo0, List.map_cons, List.map_nil, List.length_cons, List.length_nil, xrs, xr0, Nat.reduceAdd, Nat.reduceSub, List.cons_append, List.nil_append, List.set_cons_zero, List.set_cons_succ, Option.toList_none, Option.toList_some, nI_1]
    refine xi_ifge rfl (fun c1 => ?_) (fun c1 => ?_)
    · refine xgo 80 rfl ?_
      try simp only [xlo0, List.map_cons, List.map_nil, List.length_cons, List.length_nil, xrs, xr0, Nat.reduceAdd, Nat.reduceSub, List.cons_append, List.nil_append, List.set_cons_zero, List.set_cons_succ, Option.toList_none, Option.toList_some, nI_1]
      refine xi_ret_i rfl rfl (by decide) ⟨rfl, rfl⟩
    · exact absurd (nI_pos' (by omega)) c1
/-- the place x is wrong, if none was before -/
def refS (x : Nat) (s : pS) : pS := if s.2.1.isSome then s else (s.1, some x, s.2.2)
set_option maxRecDepth 100000 in
set_option maxHeartbeats 8000000 in
theorem c_RD_refuseAt {G : xG} {d r b c cap x : Nat} {bs : List Int32} {s : pS} {σ : xS} (h : rdw G σ.1 r b c cap bs s) (hs : rsep r b c) (hx : x ≤ bs.length) : xm G (d + 1) mX5_refuseAt [rf G r, .int (nI x)] σ (rpost G σ r b c cap bs none (refS x s)) := by
  refine xm_at 2 rfl (by decide) (Nat.le_of_ble_eq_true rfl) (by simp [Value.category]) tX5_refuseAt_ok ?_
  try simp only [xlo0, List.map_cons, List.map_nil, List.length_cons, List.length_nil, xrs, xr0, Nat.reduceAdd, Nat.reduceSub, List.cons_append, List.nil_append, List.set_cons_zero, List.set_cons_succ, Option.toList_none, Option.toList_some, nI_1]
  refine xgo 80 rfl ?_
  try simp only [xlo0, List.map_cons, List.map_nil, List.length_cons, List.length_nil, xrs, xr0, Nat.reduceAdd, Nat.reduceSub, List.cons_append, List.nil_append, List.set_cons_zero, List.set_cons_succ, Option.toList_none, Option.toList_some, nI_1]
  refine xcV 5 rfl rfl rfl (c_RD_isFine h) rfl kX5_isFine iX5_isFine h.1 ⟨_, rfl, rfl⟩ rfl rfl (Nat.le_of_ble_eq_true rfl) (fun v1 s1 q1 => ?_)
  obtain ⟨rfl, rfl⟩ := q1
  cases hw : s.2.1 with
  | none =>
    refine xgo 80 rfl ?_
    try simp only [xlo0, List.map_cons, List.map_nil, List.length_cons, List.length_nil, xrs, xr0, Nat.reduceAdd, Nat.reduceSub, List.cons_append, List.nil_append, List.set_cons_zero, List.set_cons_succ, Option.toList_none, Option.toList_some, nI_1]
    refine xi_ifeq rfl (fun c1 => ?_) (fun c1 => ?_)
    · exact absurd c1 (by decide)
    refine xgo 80 rfl ?_
    try simp only [xlo0, List.map_cons, List.map_nil, List.length_cons, List.length_nil, xrs, xr0, Nat.reduceAdd, Nat.reduceSub, List.cons_append, List.nil_append, List.set_cons_zero, List.set_cons_succ, Option.toList_none, Option.toList_some, nI_1]
    refine xp 5 rfl rfl rfl h.1 rfl rfl rfl (fun s2 n2 f2 e2 => ?_)
    have he : refS x s = (s.1, some x, s.2.2) := by simp [refS, hw]
    refine xgo 80 rfl ?_
    try simp only [xlo0, List.map_cons, List.map_nil, List.length_cons, List.length_nil, xrs, xr0, Nat.reduceAdd, Nat.reduceSub, List.cons_append, List.nil_append, List.set_cons_zero, List.set_cons_succ, Option.toList_none, Option.toList_some, nI_1]
    refine xi_ret_v rfl rfl ⟨rfl, h.reobj hs f2 (by rw [he]; exact n2) (by rw [he]) (by rw [he]; exact h.len.1) (fun w hw' => by rw [he] at hw'; cases hw'; exact hx), fr2.obj f2, e2⟩
  | some w =>
    refine xgo 80 rfl ?_
    try simp only [xlo0, List.map_cons, List.map_nil, List.length_cons, List.length_nil, xrs, xr0, Nat.reduceAdd, Nat.reduceSub, List.cons_append, List.nil_append, List.set_cons_zero, List.set_cons_succ, Option.toList_none, Option.toList_some, nI_1]
    refine xi_ifeq rfl (fun c1 => ?_) (fun c1 => ?_)
    · have he : refS x s = s := by simp [refS, hw]
      refine xgo 80 rfl ?_
      try simp only [xlo0, List.map_cons, List.map_nil, List.length_cons, List.length_nil, xrs, xr0, Nat.reduceAdd, Nat.reduceSub, List.cons_append, List.nil_append, List.set_cons_zero, List.set_cons_succ, Option.toList_none, Option.toList_some, nI_1]
      refine xi_ret_v rfl rfl ⟨rfl, by rw [he]; exact h, fr2.rf, rfl⟩
    · exact absurd rfl c1
set_option maxRecDepth 100000 in
set_option maxHeartbeats 8000000 in
theorem c_RD_next {G : xG} {d r b c cap : Nat} {bs : List Int32} {lo hi : Int32} {s : pS} {σ : xS} (h : rdw G σ.1 r b c cap bs s) (hs : rsep r b c) : xm G (d + 1) mX5_next [rf G r, .int lo, .int hi] σ (rpost G σ r b c cap bs (some (.int (nxt bs lo hi s).1)) (nxt bs lo hi s).2) := by
  have h0 := h.1
  have hl := h.len
  refine xm_at 4 rfl (by decide) (Nat.le_of_ble_eq_true rfl) (by simp [Value.category]) tX5_next_ok ?_
  try simp only [xlo0, List.map_cons, List.map_nil, List.length_cons, List.length_nil, xrs, xr0, Nat.reduceAdd, Nat.reduceSub, List.cons_append, List.nil_append, List.set_cons_zero, List.set_cons_succ, Option.toList_none, Option.toList_some, nI_1]
  refine xgo 80 rfl ?_
  try simp only [xlo0, List.map_cons, List.map_nil, List.length_cons, List.length_nil, xrs, xr0, Nat.reduceAdd, Nat.reduceSub, List.cons_append, List.nil_append, List.set_cons_zero, List.set_cons_succ, Option.toList_none, Option.toList_some, nI_1]
  refine xg 5 rfl rfl rfl h0 rfl ?_
  cases hw : s.2.1 with
  | some w =>
    have := h.2.2.2.2.2.2.2.2 w hw
    have he : nxt bs lo hi s = (lo, s) := by simp [nxt, hw]
    rw [he]
    refine xgo 80 rfl ?_
    try simp only [xlo0, List.map_cons, List.map_nil, List.length_cons, List.length_nil, xrs, xr0, Nat.reduceAdd, Nat.reduceSub, List.cons_append, List.nil_append, List.set_cons_zero, List.set_cons_succ, Option.toList_none, Option.toList_some, nI_1]
    refine xi_iflt rfl (fun c1 => ?_) (fun c1 => ?_)
    · exact absurd c1 (nI_pos (by omega))
    · refine xgo 80 rfl ?_
      try simp only [xlo0, List.map_cons, List.map_nil, List.length_cons, List.length_nil, xrs, xr0, Nat.reduceAdd, Nat.reduceSub, List.cons_append, List.nil_append, List.set_cons_zero, List.set_cons_succ, Option.toList_none, Option.toList_some, nI_1]
      refine xi_ret_i rfl rfl rfl ⟨rfl, h, fr2.rf, rfl⟩
  | none =>
    rw [hw] at h0
    refine xgo 80 rfl ?_
    try simp only [xlo0, List.map_cons, List.map_nil, List.length_cons, List.length_nil, xrs, xr0, Nat.reduceAdd, Nat.reduceSub, List.cons_append, List.nil_append, List.set_cons_zero, List.set_cons_succ, Option.toList_none, Option.toList_some, nI_1]
    refine xi_iflt rfl (fun c1 => ?_) (fun c1 => ?_)
    · refine xgo 80 rfl ?_
      try simp only [xlo0, List.map_cons, List.map_nil, List.length_cons, List.length_nil, xrs, xr0, Nat.reduceAdd, Nat.reduceSub, List.cons_append, List.nil_append, List.set_cons_zero, List.set_cons_succ, Option.toList_none, Option.toList_some, nI_1]
      refine xg 5 rfl rfl rfl h0 rfl ?_
      refine xgo 80 rfl ?_
      try simp only [xlo0, List.map_cons, List.map_nil, List.length_cons, List.length_nil, xrs, xr0, Nat.reduceAdd, Nat.reduceSub, List.cons_append, List.nil_append, List.set_cons_zero, List.set_cons_succ, Option.toList_none, Option.toList_some, nI_1]
      refine xg 5 rfl rfl rfl h0 rfl ?_
      refine xgo 80 rfl ?_
      try simp only [xlo0, List.map_cons, List.map_nil, List.length_cons, List.length_nil, xrs, xr0, Nat.reduceAdd, Nat.reduceSub, List.cons_append, List.nil_append, List.set_cons_zero, List.set_cons_succ, Option.toList_none, Option.toList_some, nI_1]
      refine xcV 5 rfl rfl rfl (c_BR_at h.row) rfl kX1_at iX1_at h.row.obj ⟨_, rfl, rfl⟩ rfl rfl (Nat.le_of_ble_eq_true rfl) (fun v1 s1 q1 => ?_)
      obtain ⟨rfl, rfl⟩ := q1
      rw [bat_n (by omega)]
      have bad : (bs.getD s.1 (-1) = -1 ∨ bs.getD s.1 (-1) < lo ∨ hi < bs.getD s.1 (-1)) → xw G (d + 1) mX5_next 36 [some (rf G r), some (.int lo), some (.int hi), some (.int (bs.getD s.1 (-1)))] [] s1 (rpost G s1 r b c cap bs (some (.int (nxt bs lo hi s).1)) (nxt bs lo hi s).2) := by
        intro hb
        have he : nxt bs lo hi s = (lo, s.1, some s.1, s.2.2) := by unfold nxt; rw [hw, if_neg (by decide), if_pos hb]
        rw [he]
        refine xgo 80 rfl ?_
        try simp only [xlo0, List.map_cons, List.map_nil, List.length_cons, List.length_nil, xrs, xr0, Nat.reduceAdd, Nat.reduceSub, List.cons_append, List.nil_append, List.set_cons_zero, List.set_cons_succ, Option.toList_none, Option.toList_some, nI_1]
        refine xg 5 rfl rfl rfl h0 rfl ?_
        refine xgo 80 rfl ?_
        try simp only [xlo0, List.map_cons, List.map_nil, List.length_cons, List.length_nil, xrs, xr0, Nat.reduceAdd, Nat.reduceSub, List.cons_append, List.nil_append, List.set_cons_zero, List.set_cons_succ, Option.toList_none, Option.toList_some, nI_1]
        refine xp 5 rfl rfl rfl h0 rfl rfl rfl (fun s2 n2 f2 e2 => ?_)
        refine xgo 80 rfl ?_
        try simp only [xlo0, List.map_cons, List.map_nil, List.length_cons, List.length_nil, xrs, xr0, Nat.reduceAdd, Nat.reduceSub, List.cons_append, List.nil_append, List.set_cons_zero, List.set_cons_succ, Option.toList_none, Option.toList_some, nI_1]
        refine xi_ret_i rfl rfl rfl ⟨rfl, h.reobj hs f2 n2 rfl hl.1 (fun w hw' => by cases hw'; exact hl.1), fr2.obj f2, e2⟩
      refine xgo 80 rfl ?_
      try simp only [xlo0, List.map_cons, List.map_nil, List.length_cons, List.length_nil, xrs, xr0, Nat.reduceAdd, Nat.reduceSub, List.cons_append, List.nil_append, List.set_cons_zero, List.set_cons_succ, Option.toList_none, Option.toList_some, nI_1]
      refine xi_icmpeq rfl (fun c2 => ?_) (fun c2 => ?_)
      · exact bad (Or.inl c2)
      refine xgo 80 rfl ?_
      try simp only [xlo0, List.map_cons, List.map_nil, List.length_cons, List.length_nil, xrs, xr0, Nat.reduceAdd, Nat.reduceSub, List.cons_append, List.nil_append, List.set_cons_zero, List.set_cons_succ, Option.toList_none, Option.toList_some, nI_1]
      refine xi_icmplt rfl (fun c3 => ?_) (fun c3 => ?_)
      · exact bad (Or.inr (Or.inl c3))
      refine xgo 80 rfl ?_
      try simp only [xlo0, List.map_cons, List.map_nil, List.length_cons, List.length_nil, xrs, xr0, Nat.reduceAdd, Nat.reduceSub, List.cons_append, List.nil_append, List.set_cons_zero, List.set_cons_succ, Option.toList_none, Option.toList_some, nI_1]
      refine xi_icmple rfl (fun c4 => ?_) (fun c4 => ?_)
      · have hnb : ¬ (bs.getD s.1 (-1) = -1 ∨ bs.getD s.1 (-1) < lo ∨ hi < bs.getD s.1 (-1)) := by
          intro hb
          rcases hb with hb | hb | hb
          · exact c2 hb
          · exact c3 hb
          · rw [i_lt] at hb; rw [i_le] at c4; omega
        have he : nxt bs lo hi s = (bs.getD s.1 (-1), s.1 + 1, none, s.2.2) := by unfold nxt; rw [hw, if_neg (by decide), if_neg hnb]
        have hlt : s.1 < bs.length := by
          rcases Nat.lt_or_ge s.1 bs.length with q | q
          · exact q
          · exact absurd (by rw [List.getD_eq_getElem?_getD, List.getElem?_eq_none q]; rfl) c2
        rw [he]
        refine xgo 80 rfl ?_
        try simp only [xlo0, List.map_cons, List.map_nil, List.length_cons, List.length_nil, xrs, xr0, Nat.reduceAdd, Nat.reduceSub, List.cons_append, List.nil_append, List.set_cons_zero, List.set_cons_succ, Option.toList_none, Option.toList_some, nI_1]
        refine xg 5 rfl rfl rfl h0 rfl ?_
        refine xgo 80 rfl ?_
        try simp only [xlo0, List.map_cons, List.map_nil, List.length_cons, List.length_nil, xrs, xr0, Nat.reduceAdd, Nat.reduceSub, List.cons_append, List.nil_append, List.set_cons_zero, List.set_cons_succ, Option.toList_none, Option.toList_some, nI_1]
        refine xp 5 rfl rfl rfl h0 rfl rfl rfl (fun s2 n2 f2 e2 => ?_)
        refine xgo 80 rfl ?_
        try simp only [xlo0, List.map_cons, List.map_nil, List.length_cons, List.length_nil, xrs, xr0, Nat.reduceAdd, Nat.reduceSub, List.cons_append, List.nil_append, List.set_cons_zero, List.set_cons_succ, Option.toList_none, Option.toList_some, nI_1]
        refine xi_ret_i rfl rfl rfl ⟨rfl, h.reobj hs f2 n2 rfl (by show s.1 + 1 ≤ bs.length; omega) (fun w hw' => by cases hw'), fr2.obj f2, e2⟩
      · exact bad (Or.inr (Or.inr (by rw [i_lt]; rw [i_le] at c4; omega)))
    · exact absurd (by decide) c1
set_option maxRecDepth 100000 in
set_option maxHeartbeats 8000000 in
theorem c_RD_hearPair {G : xG} {d r b c cap : Nat} {bs : List Int32} {hi : Int32} {s : pS} {σ : xS} (h : rdw G σ.1 r b c cap bs s) (hs : rsep r b c) : xm G (d + 2) mX5_hearPair [rf G r, .int hi] σ (rpost G σ r b c cap bs (some (.int (nxt bs 0 hi (nxt bs 0 0 s).2).1)) (nxt bs 0 hi (nxt bs 0 0 s).2).2) := by
  refine xm_at 2 rfl (by decide) (Nat.le_of_ble_eq_true rfl) (by simp [Value.category]) tX5_hearPair_ok ?_
  try simp only [xlo0, List.map_cons, List.map_nil, List.length_cons, List.length_nil, xrs, xr0, Nat.reduceAdd, Nat.reduceSub, List.cons_append, List.nil_append, List.set_cons_zero, List.set_cons_succ, Option.toList_none, Option.toList_some, nI_1]
  refine xgo 80 rfl ?_
  try simp only [xlo0, List.map_cons, List.map_nil, List.length_cons, List.length_nil, xrs, xr0, Nat.reduceAdd, Nat.reduceSub, List.cons_append, List.nil_append, List.set_cons_zero, List.set_cons_succ, Option.toList_none, Option.toList_some, nI_1]
  refine xcV 5 rfl rfl rfl (c_RD_next h hs) rfl kX5_next iX5_next h.1 ⟨_, rfl, rfl⟩ rfl rfl (Nat.le_of_ble_eq_true rfl) (fun v1 s1 q1 => ?_)
  obtain ⟨rfl, p1, p2, p3⟩ := q1
  refine xgo 80 rfl ?_
  try simp only [xlo0, List.map_cons, List.map_nil, List.length_cons, List.length_nil, xrs, xr0, Nat.reduceAdd, Nat.reduceSub, List.cons_append, List.nil_append, List.set_cons_zero, List.set_cons_succ, Option.toList_none, Option.toList_some, nI_1]
  refine xcV 5 rfl rfl rfl (c_RD_next p1 hs) rfl kX5_next iX5_next p1.1 ⟨_, rfl, rfl⟩ rfl rfl (Nat.le_of_ble_eq_true rfl) (fun v2 s2 q2 => ?_)
  obtain ⟨rfl, r1, r2, r3⟩ := q2
  refine xgo 80 rfl ?_
  try simp only [xlo0, List.map_cons, List.map_nil, List.length_cons, List.length_nil, xrs, xr0, Nat.reduceAdd, Nat.reduceSub, List.cons_append, List.nil_append, List.set_cons_zero, List.set_cons_succ, Option.toList_none, Option.toList_some, nI_1]
  refine xi_ret_i rfl rfl rfl ⟨rfl, r1, p2.tr r2, r3.trans p3⟩
