set_option maxRecDepth 100000 in
set_option maxHeartbeats 8000000 in
theorem l_SH_firstUnmet {G : xG} {d s b : Nat} {L : sL} {K : cV} {σ : xS} (h : shf G σ.1 s L) (hK : cont G σ.1 b K) : ∀ (n j : Nat), j + n = K.2.1.length → (∀ i e, i < j → K.2.1[i]? = some e → decide (meetI L e < 0) = false) →
    xw G (d + 3) mX7_firstUnmet 2 [some (rf G s), some (rf G b), some (.int (nI j))] [] σ (fun v σ' => v = some (.int (oI (K.2.1.findIdx? (fun nd => decide (meetI L nd < 0))))) ∧ σ' = σ) := by
  have hb := hK.bnd
  have h2 := h.2.1
  intro n
  induction n with
  | zero =>
    intro j hj hi
    have hj' : j = K.2.1.length := by omega
    subst hj'
    refine xgo 80 rfl ?_
    try simp only [xlo0, List.map_cons, List.map_nil, List.length_cons, List.length_nil, xrs, xr0, Nat.reduceAdd, Nat.reduceSub, List.cons_append, List.nil_append, List.set_cons_zero, List.set_cons_succ, Option.toList_none, Option.toList_some, nI_1]
    refine xg 7 rfl rfl rfl hK.obj rfl ?_
    refine xgo 80 rfl ?_
    try simp only [xlo0, List.map_cons, List.map_nil, List.length_cons, List.length_nil, xrs, xr0, Nat.reduceAdd, Nat.reduceSub, List.cons_append, List.nil_append, List.set_cons_zero, List.set_cons_succ, Option.toList_none, Option.toList_some, nI_1]
    refine xi_icmpge rfl (fun c1 => ?_) (fun c1 => ?_)
    · refine xgo 80 rfl ?_
      try simp only [xlo0, List.map_cons, List.map_nil, List.length_cons, List.length_nil, xrs, xr0, Nat.reduceAdd, Nat.reduceSub, List.cons_append, List.nil_append, List.set_cons_zero, List.set_cons_succ, Option.toList_none, Option.toList_some, nI_1]
      refine xi_ret_i rfl rfl rfl ⟨by rw [fi_f hi]; rfl, rfl⟩
    · exact absurd (i_le.mpr (Int.le_refl _)) c1
  | succ n ih =>
    intro j hj hi
    obtain ⟨e, he⟩ := lt_get (l := K.2.1) (j := j) (by omega)
    refine xgo 80 rfl ?_
    try simp only [xlo0, List.map_cons, List.map_nil, List.length_cons, List.length_nil, xrs, xr0, Nat.reduceAdd, Nat.reduceSub, List.cons_append, List.nil_append, List.set_cons_zero, List.set_cons_succ, Option.toList_none, Option.toList_some, nI_1]
    refine xg 7 rfl rfl rfl hK.obj rfl ?_
    refine xgo 80 rfl ?_
    try simp only [xlo0, List.map_cons, List.map_nil, List.length_cons, List.length_nil, xrs, xr0, Nat.reduceAdd, Nat.reduceSub, List.cons_append, List.nil_append, List.set_cons_zero, List.set_cons_succ, Option.toList_none, Option.toList_some, nI_1]
    refine xi_icmpge rfl (fun c1 => ?_) (fun c1 => ?_)
    · exact absurd c1 (by rw [i_le, i_n (by omega), i_n (by omega)]; omega)
    refine xgo 80 rfl ?_
    try simp only [xlo0, List.map_cons, List.map_nil, List.length_cons, List.length_nil, xrs, xr0, Nat.reduceAdd, Nat.reduceSub, List.cons_append, List.nil_append, List.set_cons_zero, List.set_cons_succ, Option.toList_none, Option.toList_some, nI_1]
    refine xcV 7 rfl rfl rfl (c_SH_meeting h hK he) rfl kX7_meeting iX7_meeting h2 ⟨_, rfl, rfl⟩ rfl rfl (Nat.le_of_ble_eq_true rfl) (fun v1 s1 q1 => ?_)
    obtain ⟨rfl, rfl⟩ := q1
    refine xgo 80 rfl ?_
    try simp only [xlo0, List.map_cons, List.map_nil, List.length_cons, List.length_nil, xrs, xr0, Nat.reduceAdd, Nat.reduceSub, List.cons_append, List.nil_append, List.set_cons_zero, List.set_cons_succ, Option.toList_none, Option.toList_some, nI_1]
    refine xi_ifge rfl (fun c2 => ?_) (fun c2 => ?_)
    · refine xto 2 80 rfl ?_
      try simp only [xlo0, List.map_cons, List.map_nil, List.length_cons, List.length_nil, xrs, xr0, Nat.reduceAdd, Nat.reduceSub, List.cons_append, List.nil_append, List.set_cons_zero, List.set_cons_succ, Option.toList_none, Option.toList_some, nI_1]
      exact ih (j + 1) (by omega) (fun i e' h1 h2 => by
        by_cases hij : i = j
        · subst hij
          rw [he] at h2
          cases h2
          rw [decide_eq_false_iff_not, i_lt]
          rw [i_le] at c2
          omega
        · exact hi i e' (by omega) h2)
    · refine xgo 80 rfl ?_
      try simp only [xlo0, List.map_cons, List.map_nil, List.length_cons, List.length_nil, xrs, xr0, Nat.reduceAdd, Nat.reduceSub, List.cons_append, List.nil_append, List.set_cons_zero, List.set_cons_succ, Option.toList_none, Option.toList_some, nI_1]
      refine xi_ret_i rfl rfl rfl ⟨by rw [fi_t hi he (by rw [decide_eq_true_iff, i_lt]; rw [i_le] at c2; omega)]; rfl, rfl⟩
set_option maxRecDepth 100000 in
set_option maxHeartbeats 8000000 in
theorem c_SH_firstUnmet {G : xG} {d s b : Nat} {L : sL} {K : cV} {σ : xS} (h : shf G σ.1 s L) (hK : cont G σ.1 b K) : xm G (d + 3) mX7_firstUnmet [rf G s, rf G b] σ (fun v σ' => v = some (.int (oI (K.2.1.findIdx? (fun nd => decide (meetI L nd < 0))))) ∧ σ' = σ) := by
  refine xm_at 3 rfl (by decide) (Nat.le_of_ble_eq_true rfl) (by simp [Value.category]) tX7_firstUnmet_ok ?_
  try simp only [xlo0, List.map_cons, List.map_nil, List.length_cons, List.length_nil, xrs, xr0, Nat.reduceAdd, Nat.reduceSub, List.cons_append, List.nil_append, List.set_cons_zero, List.set_cons_succ, Option.toList_none, Option.toList_some, nI_1]
  refine xto 2 80 rfl ?_
  try simp only [xlo0, List.map_cons, List.map_nil, List.length_cons, List.length_nil, xrs, xr0, Nat.reduceAdd, Nat.reduceSub, List.cons_append, List.nil_append, List.set_cons_zero, List.set_cons_succ, Option.toList_none, Option.toList_some, nI_1]
  exact l_SH_firstUnmet h hK K.2.1.length 0 (by omega) (fun i e h => by omega)
/-- an entry of the shelf by a number of 32 bits -/
def sget (L : sL) (i : Int32) : Option (Nat × Nat × eV) := if i.toInt < 0 then none else L[i.toInt.toNat]?
theorem sget_s {L : sL} {i : Int32} {x : Nat × Nat × eV} (h : sget L i = some x) (hL : L.length ≤ 12) : ∃ j : Nat, i = nI j ∧ L[j]? = some x ∧ j < 12 := by
  unfold sget at h
  split at h
  · cases h
  · next hn =>
    have hlt := (List.getElem?_eq_some_iff.mp h).1
    refine ⟨i.toInt.toNat, ?_, h, by omega⟩
    rw [i_eq, i_n (by omega)]
    omega
theorem sget_n {L : sL} {i : Int32} (h : sget L i = none) : i.toInt < 0 ∨ (L.length : Int) ≤ i.toInt := by
  unfold sget at h
  split at h
  · next hn => exact Or.inl hn
  · next hn =>
    rw [List.getElem?_eq_none_iff] at h
    omega
theorem sget_nI {L : sL} {j : Nat} (hj : j < 2 ^ 31) : sget L (nI j) = L[j]? := by
  unfold sget
  rw [i_n hj, if_neg (by omega)]
  rfl
/-- what one need adds to what is seen -/
def sadd (L : sL) (seen e : Int32) : Int32 := match sget L e with
  | some x => seen ||| (((1 : Int32) <<< (e &&& 31)) ||| x.2.2.2.2.1)
  | none => seen
def seenI (L : sL) (K : cV) : Int32 := K.2.1.foldl (fun s nd => sadd L s (meetI L nd)) 0
set_option maxRecDepth 100000 in
set_option maxHeartbeats 8000000 in
theorem l_SH_seenBy {G : xG} {d s b : Nat} {L : sL} {K : cV} {σ : xS} (h : shf G σ.1 s L) (hK : cont G σ.1 b K) : ∀ (n j : Nat) (x4 x5 : Option Value) (acc : Int32), j + n = K.2.1.length → (K.2.1.drop j).foldl (fun s nd => sadd L s (meetI L nd)) acc = seenI L K →
    xw G (d + 3) mX7_seenBy 4 [some (rf G s), some (rf G b), some (.int acc), some (.int (nI j)), x4, x5] [] σ (fun v σ' => v = some (.int (seenI L K)) ∧ σ' = σ) := by
  have hb := hK.bnd
  have h2 := h.2.1
  intro n
  induction n with
  | zero =>
    intro j x4 x5 acc hj hm
    have hj' : j = K.2.1.length := by omega
    subst hj'
    rw [List.drop_length] at hm
    refine xgo 80 rfl ?_
    try simp only [xlo0, List.map_cons, List.map_nil, List.length_cons, List.length_nil, xrs, xr0, Nat.reduceAdd, Nat.reduceSub, List.cons_append, List.nil_append, List.set_cons_zero, List.set_cons_succ, Option.toList_none, Option.toList_some, nI_1]
    refine xg 7 rfl rfl rfl hK.obj rfl ?_
    refine xgo 80 rfl ?_
    try simp only [xlo0, List.map_cons, List.map_nil, List.length_cons, List.length_nil, xrs, xr0, Nat.reduceAdd, Nat.reduceSub, List.cons_append, List.nil_append, List.set_cons_zero, List.set_cons_succ, Option.toList_none, Option.toList_some, nI_1]
    refine xi_icmpge rfl (fun c1 => ?_) (fun c1 => ?_)
    · refine xgo 80 rfl ?_
      try simp only [xlo0, List.map_cons, List.map_nil, List.length_cons, List.length_nil, xrs, xr0, Nat.reduceAdd, Nat.reduceSub, List.cons_append, List.nil_append, List.set_cons_zero, List.set_cons_succ, Option.toList_none, Option.toList_some, nI_1]
      refine xi_ret_i rfl rfl rfl ⟨by rw [← hm]; rfl, rfl⟩
    · exact absurd (i_le.mpr (Int.le_refl _)) c1
  | succ n ih =>
    intro j x4 x5 acc hj hm
    obtain ⟨e, he⟩ := lt_get (l := K.2.1) (j := j) (by omega)
    rw [drop_cons he, List.foldl_cons] at hm
    refine xgo 80 rfl ?_
    try simp only [xlo0, List.map_cons, List.map_nil, List.length_cons, List.length_nil, xrs, xr0, Nat.reduceAdd, Nat.reduceSub, List.cons_append, List.nil_append, List.set_cons_zero, List.set_cons_succ, Option.toList_none, Option.toList_some, nI_1]
    refine xg 7 rfl rfl rfl hK.obj rfl ?_
    refine xgo 80 rfl ?_
    try simp only [xlo0, List.map_cons, List.map_nil, List.length_cons, List.length_nil, xrs, xr0, Nat.reduceAdd, Nat.reduceSub, List.cons_append, List.nil_append, List.set_cons_zero, List.set_cons_succ, Option.toList_none, Option.toList_some, nI_1]
    refine xi_icmpge rfl (fun c1 => ?_) (fun c1 => ?_)
    · exact absurd c1 (by rw [i_le, i_n (by omega), i_n (by omega)]; omega)
    refine xgo 80 rfl ?_
    try simp only [xlo0, List.map_cons, List.map_nil, List.length_cons, List.length_nil, xrs, xr0, Nat.reduceAdd, Nat.reduceSub, List.cons_append, List.nil_append, List.set_cons_zero, List.set_cons_succ, Option.toList_none, Option.toList_some, nI_1]
    refine xcV 7 rfl rfl rfl (c_SH_meeting h hK he) rfl kX7_meeting iX7_meeting h2 ⟨_, rfl, rfl⟩ rfl rfl (Nat.le_of_ble_eq_true rfl) (fun v1 s1 q1 => ?_)
    obtain ⟨rfl, rfl⟩ := q1
    cases hg : sget L (meetI L e) with
    | none =>
      refine xgo 80 rfl ?_
      try simp only [xlo0, List.map_cons, List.map_nil, List.length_cons, List.length_nil, xrs, xr0, Nat.reduceAdd, Nat.reduceSub, List.cons_append, List.nil_append, List.set_cons_zero, List.set_cons_succ, Option.toList_none, Option.toList_some, nI_1]
      refine xcV 7 rfl rfl rfl (c_SH_atN h (sget_n hg)) rfl kX7_at iX7_at h2 ⟨_, rfl, rfl⟩ rfl rfl (Nat.le_of_ble_eq_true rfl) (fun v2 s2 q2 => ?_)
      obtain ⟨rfl, rfl⟩ := q2
      refine xgo 80 rfl ?_
      try simp only [xlo0, List.map_cons, List.map_nil, List.length_cons, List.length_nil, xrs, xr0, Nat.reduceAdd, Nat.reduceSub, List.cons_append, List.nil_append, List.set_cons_zero, List.set_cons_succ, Option.toList_none, Option.toList_some, nI_1]
      refine xi_ifnull_n rfl ?_
      refine xto 4 80 rfl ?_
      try simp only [xlo0, List.map_cons, List.map_nil, List.length_cons, List.length_nil, xrs, xr0, Nat.reduceAdd, Nat.reduceSub, List.cons_append, List.nil_append, List.set_cons_zero, List.set_cons_succ, Option.toList_none, Option.toList_some, nI_1]
      refine ih (j + 1) _ _ acc (by omega) ?_
      rw [← hm, sadd, hg]
    | some x =>
      obtain ⟨k, hk, hx, hk12⟩ := sget_s hg h.1
      have hen := h.ent hx
      rw [hk]
      refine xgo 80 rfl ?_
      try simp only [xlo0, List.map_cons, List.map_nil, List.length_cons, List.length_nil, xrs, xr0, Nat.reduceAdd, Nat.reduceSub, List.cons_append, List.nil_append, List.set_cons_zero, List.set_cons_succ, Option.toList_none, Option.toList_some, nI_1]
      refine xcV 7 rfl rfl rfl (c_SH_at h hx) rfl kX7_at iX7_at h2 ⟨_, rfl, rfl⟩ rfl rfl (Nat.le_of_ble_eq_true rfl) (fun v2 s2 q2 => ?_)
      obtain ⟨rfl, rfl⟩ := q2
      refine xgo 80 rfl ?_
      try simp only [xlo0, List.map_cons, List.map_nil, List.length_cons, List.length_nil, xrs, xr0, Nat.reduceAdd, Nat.reduceSub, List.cons_append, List.nil_append, List.set_cons_zero, List.set_cons_succ, Option.toList_none, Option.toList_some, nI_1]
      refine xi_ifnull_r rfl ?_
      refine xgo 80 rfl ?_
      try simp only [xlo0, List.map_cons, List.map_nil, List.length_cons, List.length_nil, xrs, xr0, Nat.reduceAdd, Nat.reduceSub, List.cons_append, List.nil_append, List.set_cons_zero, List.set_cons_succ, Option.toList_none, Option.toList_some, nI_1]
      refine xg 7 rfl rfl rfl hen.obj rfl ?_
      refine xto 4 80 rfl ?_
      try simp only [xlo0, List.map_cons, List.map_nil, List.length_cons, List.length_nil, xrs, xr0, Nat.reduceAdd, Nat.reduceSub, List.cons_append, List.nil_append, List.set_cons_zero, List.set_cons_succ, Option.toList_none, Option.toList_some, nI_1]
      refine ih (j + 1) _ _ (acc ||| (((1 : Int32) <<< (nI k &&& 31)) ||| x.2.2.2.2.1)) (by omega) ?_
      rw [← hm, sadd, hg, hk]
set_option maxRecDepth 100000 in
set_option maxHeartbeats 8000000 in
theorem c_SH_seenBy {G : xG} {d s b : Nat} {L : sL} {K : cV} {σ : xS} (h : shf G σ.1 s L) (hK : cont G σ.1 b K) : xm G (d + 3) mX7_seenBy [rf G s, rf G b] σ (fun v σ' => v = some (.int (seenI L K)) ∧ σ' = σ) := by
  refine xm_at 6 rfl (by decide) (Nat.le_of_ble_eq_true rfl) (by simp [Value.category]) tX7_seenBy_ok ?_
  try simp only [xlo0, List.map_cons, List.map_nil, List.length_cons, List.length_nil, xrs, xr0, Nat.reduceAdd, Nat.reduceSub, List.cons_append, List.nil_append, List.set_cons_zero, List.set_cons_succ, Option.toList_none, Option.toList_some, nI_1]
  refine xto 4 80 rfl ?_
  try simp only [xlo0, List.map_cons, List.map_nil, List.length_cons, List.length_nil, xrs, xr0, Nat.reduceAdd, Nat.reduceSub, List.cons_append, List.nil_append, List.set_cons_zero, List.set_cons_succ, Option.toList_none, Option.toList_some, nI_1]
  exact l_SH_seenBy h hK K.2.1.length 0 none none 0 (by omega) rfl
/-- a group that one of the two seals and the other has a row of -/
def betw (g : Int32) (K : cV) (V : cV) : Bool := (V.2.2.1.any (fun e => e == g) && K.2.2.2.any (fun e => e.1 / 16 == g)) || (K.2.2.1.any (fun e => e == g) && V.2.2.2.any (fun e => e.1 / 16 == g))
set_option maxRecDepth 100000 in
set_option maxHeartbeats 8000000 in
theorem c_SH_isBetween {G : xG} {d b : Nat} {g : Int32} {K : cV} {x : Nat × Nat × eV} {σ : xS} (hK : cont G σ.1 b K) (hx : ent G σ.1 x.1 x.2.1 x.2.2) : xm G (d + 1) mX7_isBetween [.int g, rf G b, rf G (x.1 + 1)] σ (fun v σ' => v = some (.int (bI (betw g K x.2.2.1))) ∧ σ' = σ) := by
  have hc := hx.cont
  refine xm_at 3 rfl (by decide) (Nat.le_of_ble_eq_true rfl) (by simp [Value.category]) tX7_isBetween_ok ?_
  try simp only [xlo0, List.map_cons, List.map_nil, List.length_cons, List.length_nil, xrs, xr0, Nat.reduceAdd, Nat.reduceSub, List.cons_append, List.nil_append, List.set_cons_zero, List.set_cons_succ, Option.toList_none, Option.toList_some, nI_1]
  refine xgo 80 rfl ?_
  try simp only [xlo0, List.map_cons, List.map_nil, List.length_cons, List.length_nil, xrs, xr0, Nat.reduceAdd, Nat.reduceSub, List.cons_append, List.nil_append, List.set_cons_zero, List.set_cons_succ, Option.toList_none, Option.toList_some, nI_1]
  refine xi_ifnonnull_r rfl ?_
  refine xgo 80 rfl ?_
  try simp only [xlo0, List.map_cons, List.map_nil, List.length_cons, List.length_nil, xrs, xr0, Nat.reduceAdd, Nat.reduceSub, List.cons_append, List.nil_append, List.set_cons_zero, List.set_cons_succ, Option.toList_none, Option.toList_some, nI_1]
  refine xg 7 rfl rfl rfl hx.obj rfl ?_
  refine xgo 80 rfl ?_
  try simp only [xlo0, List.map_cons, List.map_nil, List.length_cons, List.length_nil, xrs, xr0, Nat.reduceAdd, Nat.reduceSub, List.cons_append, List.nil_append, List.set_cons_zero, List.set_cons_succ, Option.toList_none, Option.toList_some, nI_1]
  refine xcV 7 rfl rfl rfl (c_CT_sealsGroup hc) rfl kX2_sealsGroup iX2_sealsGroup hc.obj ⟨_, rfl, rfl⟩ rfl rfl (Nat.le_of_ble_eq_true rfl) (fun v1 s1 q1 => ?_)
  obtain ⟨rfl, rfl⟩ := q1
  cases h1 : x.2.2.1.2.2.1.any (fun e => e == g) with
  | true =>
    refine xgo 80 rfl ?_
    try simp only [xlo0, List.map_cons, List.map_nil, List.length_cons, List.length_nil, xrs, xr0, Nat.reduceAdd, Nat.reduceSub, List.cons_append, List.nil_append, List.set_cons_zero, List.set_cons_succ, Option.toList_none, Option.toList_some, nI_1]
    refine xi_ifeq rfl (fun c1 => ?_) (fun c1 => ?_)
    · exact absurd c1 (by decide)
    refine xgo 80 rfl ?_
    try simp only [xlo0, List.map_cons, List.map_nil, List.length_cons, List.length_nil, xrs, xr0, Nat.reduceAdd, Nat.reduceSub, List.cons_append, List.nil_append, List.set_cons_zero, List.set_cons_succ, Option.toList_none, Option.toList_some, nI_1]
    refine xcV 7 rfl rfl rfl (c_CT_hasRowOfGroup hK) rfl kX2_hasRowOfGroup iX2_hasRowOfGroup hK.obj ⟨_, rfl, rfl⟩ rfl rfl (Nat.le_of_ble_eq_true rfl) (fun v2 s2 q2 => ?_)
    obtain ⟨rfl, rfl⟩ := q2
    cases h2 : K.2.2.2.any (fun e => e.1 / 16 == g) with
    | true =>
      refine xgo 80 rfl ?_
      try simp only [xlo0, List.map_cons, List.map_nil, List.length_cons, List.length_nil, xrs, xr0, Nat.reduceAdd, Nat.reduceSub, List.cons_append, List.nil_append, List.set_cons_zero, List.set_cons_succ, Option.toList_none, Option.toList_some, nI_1]
      refine xi_ifne rfl (fun c2 => ?_) (fun c2 => ?_)
      · refine xgo 80 rfl ?_
        try simp only [xlo0, List.map_cons, List.map_nil, List.length_cons, List.length_nil, xrs, xr0, Nat.reduceAdd, Nat.reduceSub, List.cons_append, List.nil_append, List.set_cons_zero, List.set_cons_succ, Option.toList_none, Option.toList_some, nI_1]
        refine xi_ret_i rfl rfl (by decide) ⟨by simp [betw, h1, h2, bI], rfl⟩
      · exact absurd c2 (by decide)
    | false =>
      refine xgo 80 rfl ?_
      try simp only [xlo0, List.map_cons, List.map_nil, List.length_cons, List.length_nil, xrs, xr0, Nat.reduceAdd, Nat.reduceSub, List.cons_append, List.nil_append, List.set_cons_zero, List.set_cons_succ, Option.toList_none, Option.toList_some, nI_1]
      refine xi_ifne rfl (fun c2 => ?_) (fun c2 => ?_)
      · exact absurd rfl c2
      refine xgo 80 rfl ?_
      try simp only [xlo0, List.map_cons, List.map_nil, List.length_cons, List.length_nil, xrs, xr0, Nat.reduceAdd, Nat.reduceSub, List.cons_append, List.nil_append, List.set_cons_zero, List.set_cons_succ, Option.toList_none, Option.toList_some, nI_1]
      refine xcV 7 rfl rfl rfl (c_CT_sealsGroup hK) rfl kX2_sealsGroup iX2_sealsGroup hK.obj ⟨_, rfl, rfl⟩ rfl rfl (Nat.le_of_ble_eq_true rfl) (fun v3 s3 q3 => ?_)
      obtain ⟨rfl, rfl⟩ := q3
      cases h3 : K.2.2.1.any (fun e => e == g) with
      | false =>
        refine xgo 80 rfl ?_
        try simp only [xlo0, List.map_cons, List.map_nil, List.length_cons, List.length_nil, xrs, xr0, Nat.reduceAdd, Nat.reduceSub, List.cons_append, List.nil_append, List.set_cons_zero, List.set_cons_succ, Option.toList_none, Option.toList_some, nI_1]
        refine xi_ifeq rfl (fun c3 => ?_) (fun c3 => ?_)
        · refine xgo 80 rfl ?_
          try simp only [xlo0, List.map_cons, List.map_nil, List.length_cons, List.length_nil, xrs, xr0, Nat.reduceAdd, Nat.reduceSub, List.cons_append, List.nil_append, List.set_cons_zero, List.set_cons_succ, Option.toList_none, Option.toList_some, nI_1]
          refine xi_ret_i rfl rfl (by decide) ⟨by simp only [betw, h1, h2, h3]; rfl, rfl⟩
        · exact absurd rfl c3
      | true =>
        refine xgo 80 rfl ?_
        try simp only [xlo0, List.map_cons, List.map_nil, List.length_cons, List.length_nil, xrs, xr0, Nat.reduceAdd, Nat.reduceSub, List.cons_append, List.nil_append, List.set_cons_zero, List.set_cons_succ, Option.toList_none, Option.toList_some, nI_1]
        refine xi_ifeq rfl (fun c3 => ?_) (fun c3 => ?_)
        · exact absurd c3 (by decide)
        refine xgo 80 rfl ?_
        try simp only [xlo0, List.map_cons, List.map_nil, List.length_cons, List.length_nil, xrs, xr0, Nat.reduceAdd, Nat.reduceSub, List.cons_append, List.nil_append, List.set_cons_zero, List.set_cons_succ, Option.toList_none, Option.toList_some, nI_1]
        refine xg 7 rfl rfl rfl hx.obj rfl ?_
        refine xgo 80 rfl ?_
        try simp only [xlo0, List.map_cons, List.map_nil, List.length_cons, List.length_nil, xrs, xr0, Nat.reduceAdd, Nat.reduceSub, List.cons_append, List.nil_append, List.set_cons_zero, List.set_cons_succ, Option.toList_none, Option.toList_some, nI_1]
        refine xcV 7 rfl rfl rfl (c_CT_hasRowOfGroup hc) rfl kX2_hasRowOfGroup iX2_hasRowOfGroup hc.obj ⟨_, rfl, rfl⟩ rfl rfl (Nat.le_of_ble_eq_true rfl) (fun v4 s4 q4 => ?_)
        obtain ⟨rfl, rfl⟩ := q4
        cases h4 : x.2.2.1.2.2.2.any (fun e => e.1 / 16 == g) with
        | false =>
          refine xgo 80 rfl ?_
          try simp only [xlo0, List.map_cons, List.map_nil, List.length_cons, List.length_nil, xrs, xr0, Nat.reduceAdd, Nat.reduceSub, List.cons_append, List.nil_append, List.set_cons_zero, List.set_cons_succ, Option.toList_none, Option.toList_some, nI_1]
          refine xi_ifeq rfl (fun c4 => ?_) (fun c4 => ?_)
          · refine xgo 80 rfl ?_
            try simp only [xlo0, List.map_cons, List.map_nil, List.length_cons, List.length_nil, xrs, xr0, Nat.reduceAdd, Nat.reduceSub, List.cons_append, List.nil_append, List.set_cons_zero, List.set_cons_succ, Option.toList_none, Option.toList_some, nI_1]
            refine xi_ret_i rfl rfl (by decide) ⟨by simp only [betw, h1, h2, h3, h4]; rfl, rfl⟩
          · exact absurd rfl c4
        | true =>
          refine xgo 80 rfl ?_
          try simp only [xlo0, List.map_cons, List.map_nil, List.length_cons, List.length_nil, xrs, xr0, Nat.reduceAdd, Nat.reduceSub, List.cons_append, List.nil_append, List.set_cons_zero, List.set_cons_succ, Option.toList_none, Option.toList_some, nI_1]
          refine xi_ifeq rfl (fun c4 => ?_) (fun c4 => ?_)
          · exact absurd c4 (by decide)
          · refine xgo 80 rfl ?_
            try simp only [xlo0, List.map_cons, List.map_nil, List.length_cons, List.length_nil, xrs, xr0, Nat.reduceAdd, Nat.reduceSub, List.cons_append, List.nil_append, List.set_cons_zero, List.set_cons_succ, Option.toList_none, Option.toList_some, nI_1]
            refine xi_ret_i rfl rfl (by decide) ⟨by simp only [betw, h1, h2, h3, h4]; rfl, rfl⟩
  | false =>
    refine xgo 80 rfl ?_
    try simp only [xlo0, List.map_cons, List.map_nil, List.length_cons, List.length_nil, xrs, xr0, Nat.reduceAdd, Nat.reduceSub, List.cons_append, List.nil_append, List.set_cons_zero, List.set_cons_succ, Option.toList_none, Option.toList_some, nI_1]
    refine xi_ifeq rfl (fun c1 => ?_) (fun c1 => ?_)
    · refine xgo 80 rfl ?_
      try simp only [xlo0, List.map_cons, List.map_nil, List.length_cons, List.length_nil, xrs, xr0, Nat.reduceAdd, Nat.reduceSub, List.cons_append, List.nil_append, List.set_cons_zero, List.set_cons_succ, Option.toList_none, Option.toList_some, nI_1]
      refine xcV 7 rfl rfl rfl (c_CT_sealsGroup hK) rfl kX2_sealsGroup iX2_sealsGroup hK.obj ⟨_, rfl, rfl⟩ rfl rfl (Nat.le_of_ble_eq_true rfl) (fun v3 s3 q3 => ?_)
      obtain ⟨rfl, rfl⟩ := q3
      cases h3 : K.2.2.1.any (fun e => e == g) with
      | false =>
        refine xgo 80 rfl ?_
        try simp only [xlo0, List.map_cons, List.map_nil, List.length_cons, List.length_nil, xrs, xr0, Nat.reduceAdd, Nat.reduceSub, List.cons_append, List.nil_append, List.set_cons_zero, List.set_cons_succ, Option.toList_none, Option.toList_some, nI_1]
        refine xi_ifeq rfl (fun c3 => ?_) (fun c3 => ?_)
        · refine xgo 80 rfl ?_
          try simp only [xlo0, List.map_cons, List.map_nil, List.length_cons, List.length_nil, xrs, xr0, Nat.reduceAdd, Nat.reduceSub, List.cons_append, List.nil_append, List.set_cons_zero, List.set_cons_succ, Option.toList_none, Option.toList_some, nI_1]
          refine xi_ret_i rfl rfl (by decide) ⟨by simp only [betw, h1, h3]; rfl, rfl⟩
        · exact absurd rfl c3
      | true =>
        refine xgo 80 rfl ?_
        try simp only [xlo0, List.map_cons, List.map_nil, List.length_cons, List.length_nil, xrs, xr0, Nat.reduceAdd, Nat.reduceSub, List.cons_append, List.nil_append, List.set_cons_zero, List.set_cons_succ, Option.toList_none, Option.toList_some, nI_1]
        refine xi_ifeq rfl (fun c3 => ?_) (fun c3 => ?_)
        · exact absurd c3 (by decide)
        refine xgo 80 rfl ?_
        try simp only [xlo0, List.map_cons, List.map_nil, List.length_cons, List.length_nil, xrs, xr0, Nat.reduceAdd, Nat.reduceSub, List.cons_append, List.nil_append, List.set_cons_zero, List.set_cons_succ, Option.toList_none, Option.toList_some, nI_1]
        refine xg 7 rfl rfl rfl hx.obj rfl ?_
        refine xgo 80 rfl ?_
        try simp only [xlo0, List.map_cons, List.map_nil, List.length_cons, List.length_nil, xrs, xr0, Nat.reduceAdd, Nat.reduceSub, List.cons_append, List.nil_append, List.set_cons_zero, List.set_cons_succ, Option.toList_none, Option.toList_some, nI_1]
        refine xcV 7 rfl rfl rfl (c_CT_hasRowOfGroup hc) rfl kX2_hasRowOfGroup iX2_hasRowOfGroup hc.obj ⟨_, rfl, rfl⟩ rfl rfl (Nat.le_of_ble_eq_true rfl) (fun v4 s4 q4 => ?_)
        obtain ⟨rfl, rfl⟩ := q4
        cases h4 : x.2.2.1.2.2.2.any (fun e => e.1 / 16 == g) with
        | false =>
          refine xgo 80 rfl ?_
          try simp only [xlo0, List.map_cons, List.map_nil, List.length_cons, List.length_nil, xrs, xr0, Nat.reduceAdd, Nat.reduceSub, List.cons_append, List.nil_append, List.set_cons_zero, List.set_cons_succ, Option.toList_none, Option.toList_some, nI_1]
          refine xi_ifeq rfl (fun c4 => ?_) (fun c4 => ?_)
          · refine xgo 80 rfl ?_
            try simp only [xlo0, List.map_cons, List.map_nil, List.length_cons, List.length_nil, xrs, xr0, Nat.reduceAdd, Nat.reduceSub, List.cons_append, List.nil_append, List.set_cons_zero, List.set_cons_succ, Option.toList_none, Option.toList_some, nI_1]
            refine xi_ret_i rfl rfl (by decide) ⟨by simp only [betw, h1, h3, h4]; rfl, rfl⟩
          · exact absurd rfl c4
        | true =>
          refine xgo 80 rfl ?_
          try simp only [xlo0, List.map_cons, List.map_nil, List.length_cons, List.length_nil, xrs, xr0, Nat.reduceAdd, Nat.reduceSub, List.cons_append, List.nil_append, List.set_cons_zero, List.set_cons_succ, Option.toList_none, Option.toList_some, nI_1]
          refine xi_ifeq rfl (fun c4 => ?_) (fun c4 => ?_)
          · exact absurd c4 (by decide)
          · refine xgo 80 rfl ?_
            try simp only [xlo0, List.map_cons, List.map_nil, List.length_cons, List.length_nil, xrs, xr0, Nat.reduceAdd, Nat.reduceSub, List.cons_append, List.nil_append, List.set_cons_zero, List.set_cons_succ, Option.toList_none, Option.toList_some, nI_1]
            refine xi_ret_i rfl rfl (by decide) ⟨by simp only [betw, h1, h3, h4]; rfl, rfl⟩
    · exact absurd rfl c1
