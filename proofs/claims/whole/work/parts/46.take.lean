def splB (r : List Int32) : Bool := decide (r.length ≤ 8 ∨ bat r 0 ≠ 112 ∨ bat r 3 < 1 ∨ 88 < bat r 3 ∨ bat r 3 ≤ bat r 2 ∨ num4 r (nI (r.length - 4)) ≠ ssum 2 (r.take (r.length - 4)))
set_option maxRecDepth 100000 in
set_option maxHeartbeats 2000000 in
theorem c_PP_isReelSpoiled {G : xG} {d rc : Nat} {own : Nat → Nat} {Z : pZ} {σ : xS} (h : pw G σ own rc Z) (h4 : 4 ≤ Z.2.2.2.1.length) : xm G (d + 3) mX8_isReelSpoiled [rf G 0] σ (fun v σ' => v = some (.int (bI (splB Z.2.2.2.1))) ∧ σ' = σ) := by
  have hr := h.2.2.2.2.1
  have hrl := hr.len
  unfold splB
  generalize Z.2.2.2.1 = r at hr hrl h4 ⊢
  have hs4 : nI r.length - 4 = nI (r.length - 4) := nI_subN (b := 4) (by omega)
  have z8 : (8 : Int32).toInt = 8 := rfl
  refine xm_at 3 rfl (by decide) (Nat.le_of_ble_eq_true rfl) (by simp [Value.category]) tX8_isReelSpoiled_ok ?_
  try simp only [xlo0, List.map_cons, List.map_nil, List.length_cons, List.length_nil, xrs, xr0, Nat.reduceAdd, Nat.reduceSub, List.cons_append, List.nil_append, List.set_cons_zero, List.set_cons_succ, Option.toList_none, Option.toList_some, nI_1]
  refine xgo 80 rfl ?_
  try simp only [xlo0, List.map_cons, List.map_nil, List.length_cons, List.length_nil, xrs, xr0, Nat.reduceAdd, Nat.reduceSub, List.cons_append, List.nil_append, List.set_cons_zero, List.set_cons_succ, Option.toList_none, Option.toList_some, nI_1]
  refine xg 8 rfl rfl rfl h.obj rfl ?_
  refine xgo 80 rfl ?_
  try simp only [xlo0, List.map_cons, List.map_nil, List.length_cons, List.length_nil, xrs, xr0, Nat.reduceAdd, Nat.reduceSub, List.cons_append, List.nil_append, List.set_cons_zero, List.set_cons_succ, Option.toList_none, Option.toList_some, nI_1]
  refine xcV 8 rfl rfl rfl (c_BR_at hr) rfl kX1_at iX1_at hr.obj ⟨_, rfl, rfl⟩ rfl rfl (Nat.le_of_ble_eq_true rfl) (fun v1 s1 q1 => ?_)
  obtain ⟨rfl, rfl⟩ := q1
  refine xgo 80 rfl ?_
  try simp only [xlo0, List.map_cons, List.map_nil, List.length_cons, List.length_nil, xrs, xr0, Nat.reduceAdd, Nat.reduceSub, List.cons_append, List.nil_append, List.set_cons_zero, List.set_cons_succ, Option.toList_none, Option.toList_some, nI_1]
  refine xg 8 rfl rfl rfl h.obj rfl ?_
  refine xgo 80 rfl ?_
  try simp only [xlo0, List.map_cons, List.map_nil, List.length_cons, List.length_nil, xrs, xr0, Nat.reduceAdd, Nat.reduceSub, List.cons_append, List.nil_append, List.set_cons_zero, List.set_cons_succ, Option.toList_none, Option.toList_some, nI_1]
  refine xg 8 rfl rfl rfl hr.obj rfl ?_
  refine xgo 80 rfl ?_
  try simp only [xlo0, List.map_cons, List.map_nil, List.length_cons, List.length_nil, xrs, xr0, Nat.reduceAdd, Nat.reduceSub, List.cons_append, List.nil_append, List.set_cons_zero, List.set_cons_succ, Option.toList_none, Option.toList_some, nI_1]
  rw [hs4]
  refine xgo 80 rfl ?_
  try simp only [xlo0, List.map_cons, List.map_nil, List.length_cons, List.length_nil, xrs, xr0, Nat.reduceAdd, Nat.reduceSub, List.cons_append, List.nil_append, List.set_cons_zero, List.set_cons_succ, Option.toList_none, Option.toList_some, nI_1]
  refine xg 8 rfl rfl rfl h.obj rfl ?_
  refine xgo 80 rfl ?_
  try simp only [xlo0, List.map_cons, List.map_nil, List.length_cons, List.length_nil, xrs, xr0, Nat.reduceAdd, Nat.reduceSub, List.cons_append, List.nil_append, List.set_cons_zero, List.set_cons_succ, Option.toList_none, Option.toList_some, nI_1]
  refine xg 8 rfl rfl rfl hr.obj rfl ?_
  refine xgo 80 rfl ?_
  try simp only [xlo0, List.map_cons, List.map_nil, List.length_cons, List.length_nil, xrs, xr0, Nat.reduceAdd, Nat.reduceSub, List.cons_append, List.nil_append, List.set_cons_zero, List.set_cons_succ, Option.toList_none, Option.toList_some, nI_1]
  refine xi_icmple rfl (fun c1 => ?_) (fun c1 => ?_)
  · rw [i_le, i_n (by omega)] at c1
    refine xgo 80 rfl ?_
    try simp only [xlo0, List.map_cons, List.map_nil, List.length_cons, List.length_nil, xrs, xr0, Nat.reduceAdd, Nat.reduceSub, List.cons_append, List.nil_append, List.set_cons_zero, List.set_cons_succ, Option.toList_none, Option.toList_some, nI_1]
    refine xi_ret_i rfl rfl (by decide) ⟨by rw [decide_eq_true (by left; omega)]; rfl, rfl⟩
  rw [i_le, i_n (by omega)] at c1
  refine xgo 80 rfl ?_
  try simp only [xlo0, List.map_cons, List.map_nil, List.length_cons, List.length_nil, xrs, xr0, Nat.reduceAdd, Nat.reduceSub, List.cons_append, List.nil_append, List.set_cons_zero, List.set_cons_succ, Option.toList_none, Option.toList_some, nI_1]
  refine xg 8 rfl rfl rfl h.obj rfl ?_
  refine xgo 80 rfl ?_
  try simp only [xlo0, List.map_cons, List.map_nil, List.length_cons, List.length_nil, xrs, xr0, Nat.reduceAdd, Nat.reduceSub, List.cons_append, List.nil_append, List.set_cons_zero, List.set_cons_succ, Option.toList_none, Option.toList_some, nI_1]
  refine xcV 8 rfl rfl rfl (c_BR_at hr) rfl kX1_at iX1_at hr.obj ⟨_, rfl, rfl⟩ rfl rfl (Nat.le_of_ble_eq_true rfl) (fun v2 s2 q2 => ?_)
  obtain ⟨rfl, rfl⟩ := q2
  refine xgo 80 rfl ?_
  try simp only [xlo0, List.map_cons, List.map_nil, List.length_cons, List.length_nil, xrs, xr0, Nat.reduceAdd, Nat.reduceSub, List.cons_append, List.nil_append, List.set_cons_zero, List.set_cons_succ, Option.toList_none, Option.toList_some, nI_1]
  refine xi_icmpne rfl (fun c2 => ?_) (fun c2 => ?_)
  · refine xgo 80 rfl ?_
    try simp only [xlo0, List.map_cons, List.map_nil, List.length_cons, List.length_nil, xrs, xr0, Nat.reduceAdd, Nat.reduceSub, List.cons_append, List.nil_append, List.set_cons_zero, List.set_cons_succ, Option.toList_none, Option.toList_some, nI_1]
    refine xi_ret_i rfl rfl (by decide) ⟨by rw [decide_eq_true (Or.inr (Or.inl c2))]; rfl, rfl⟩
  refine xgo 80 rfl ?_
  try simp only [xlo0, List.map_cons, List.map_nil, List.length_cons, List.length_nil, xrs, xr0, Nat.reduceAdd, Nat.reduceSub, List.cons_append, List.nil_append, List.set_cons_zero, List.set_cons_succ, Option.toList_none, Option.toList_some, nI_1]
  refine xi_icmplt rfl (fun c3 => ?_) (fun c3 => ?_)
  · refine xgo 80 rfl ?_
    try simp only [xlo0, List.map_cons, List.map_nil, List.length_cons, List.length_nil, xrs, xr0, Nat.reduceAdd, Nat.reduceSub, List.cons_append, List.nil_append, List.set_cons_zero, List.set_cons_succ, Option.toList_none, Option.toList_some, nI_1]
    refine xi_ret_i rfl rfl (by decide) ⟨by rw [decide_eq_true (Or.inr (Or.inr (Or.inl c3)))]; rfl, rfl⟩
  refine xgo 80 rfl ?_
  try simp only [xlo0, List.map_cons, List.map_nil, List.length_cons, List.length_nil, xrs, xr0, Nat.reduceAdd, Nat.reduceSub, List.cons_append, List.nil_append, List.set_cons_zero, List.set_cons_succ, Option.toList_none, Option.toList_some, nI_1]
  refine xi_icmpgt rfl (fun c4 => ?_) (fun c4 => ?_)
  · refine xgo 80 rfl ?_
    try simp only [xlo0, List.map_cons, List.map_nil, List.length_cons, List.length_nil, xrs, xr0, Nat.reduceAdd, Nat.reduceSub, List.cons_append, List.nil_append, List.set_cons_zero, List.set_cons_succ, Option.toList_none, Option.toList_some, nI_1]
    refine xi_ret_i rfl rfl (by decide) ⟨by rw [decide_eq_true (Or.inr (Or.inr (Or.inr (Or.inl c4))))]; rfl, rfl⟩
  refine xgo 80 rfl ?_
  try simp only [xlo0, List.map_cons, List.map_nil, List.length_cons, List.length_nil, xrs, xr0, Nat.reduceAdd, Nat.reduceSub, List.cons_append, List.nil_append, List.set_cons_zero, List.set_cons_succ, Option.toList_none, Option.toList_some, nI_1]
  refine xg 8 rfl rfl rfl h.obj rfl ?_
  refine xgo 80 rfl ?_
  try simp only [xlo0, List.map_cons, List.map_nil, List.length_cons, List.length_nil, xrs, xr0, Nat.reduceAdd, Nat.reduceSub, List.cons_append, List.nil_append, List.set_cons_zero, List.set_cons_succ, Option.toList_none, Option.toList_some, nI_1]
  refine xcV 8 rfl rfl rfl (c_BR_at hr) rfl kX1_at iX1_at hr.obj ⟨_, rfl, rfl⟩ rfl rfl (Nat.le_of_ble_eq_true rfl) (fun v3 s3 q3 => ?_)
  obtain ⟨rfl, rfl⟩ := q3
  refine xgo 80 rfl ?_
  try simp only [xlo0, List.map_cons, List.map_nil, List.length_cons, List.length_nil, xrs, xr0, Nat.reduceAdd, Nat.reduceSub, List.cons_append, List.nil_append, List.set_cons_zero, List.set_cons_succ, Option.toList_none, Option.toList_some, nI_1]
  refine xi_icmpge rfl (fun c5 => ?_) (fun c5 => ?_)
  · refine xgo 80 rfl ?_
    try simp only [xlo0, List.map_cons, List.map_nil, List.length_cons, List.length_nil, xrs, xr0, Nat.reduceAdd, Nat.reduceSub, List.cons_append, List.nil_append, List.set_cons_zero, List.set_cons_succ, Option.toList_none, Option.toList_some, nI_1]
    refine xi_ret_i rfl rfl (by decide) ⟨by rw [decide_eq_true (Or.inr (Or.inr (Or.inr (Or.inr (Or.inl c5)))))]; rfl, rfl⟩
  refine xgo 80 rfl ?_
  try simp only [xlo0, List.map_cons, List.map_nil, List.length_cons, List.length_nil, xrs, xr0, Nat.reduceAdd, Nat.reduceSub, List.cons_append, List.nil_append, List.set_cons_zero, List.set_cons_succ, Option.toList_none, Option.toList_some, nI_1]
  refine xg 8 rfl rfl rfl h.obj rfl ?_
  refine xgo 80 rfl ?_
  try simp only [xlo0, List.map_cons, List.map_nil, List.length_cons, List.length_nil, xrs, xr0, Nat.reduceAdd, Nat.reduceSub, List.cons_append, List.nil_append, List.set_cons_zero, List.set_cons_succ, Option.toList_none, Option.toList_some, nI_1]
  refine xcV 8 rfl rfl rfl (c_BR_number hr) rfl kX1_number iX1_number hr.obj ⟨_, rfl, rfl⟩ rfl rfl (Nat.le_of_ble_eq_true rfl) (fun v4 s4 q4 => ?_)
  obtain ⟨rfl, rfl⟩ := q4
  refine xgo 80 rfl ?_
  try simp only [xlo0, List.map_cons, List.map_nil, List.length_cons, List.length_nil, xrs, xr0, Nat.reduceAdd, Nat.reduceSub, List.cons_append, List.nil_append, List.set_cons_zero, List.set_cons_succ, Option.toList_none, Option.toList_some, nI_1]
  refine xg 8 rfl rfl rfl h.obj rfl ?_
  refine xgo 80 rfl ?_
  try simp only [xlo0, List.map_cons, List.map_nil, List.length_cons, List.length_nil, xrs, xr0, Nat.reduceAdd, Nat.reduceSub, List.cons_append, List.nil_append, List.set_cons_zero, List.set_cons_succ, Option.toList_none, Option.toList_some, nI_1]
  refine xcV 8 rfl rfl rfl (c_BR_sum (e := r.length - 4) hr (by omega)) rfl kX1_sum iX1_sum hr.obj ⟨_, rfl, rfl⟩ rfl rfl (Nat.le_of_ble_eq_true rfl) (fun v5 s5 q5 => ?_)
  obtain ⟨rfl, rfl⟩ := q5
  refine xgo 80 rfl ?_
  try simp only [xlo0, List.map_cons, List.map_nil, List.length_cons, List.length_nil, xrs, xr0, Nat.reduceAdd, Nat.reduceSub, List.cons_append, List.nil_append, List.set_cons_zero, List.set_cons_succ, Option.toList_none, Option.toList_some, nI_1]
  refine xi_icmpeq rfl (fun c6 => ?_) (fun c6 => ?_)
  · refine xgo 80 rfl ?_
    try simp only [xlo0, List.map_cons, List.map_nil, List.length_cons, List.length_nil, xrs, xr0, Nat.reduceAdd, Nat.reduceSub, List.cons_append, List.nil_append, List.set_cons_zero, List.set_cons_succ, Option.toList_none, Option.toList_some, nI_1]
    refine xi_ret_i rfl rfl (by decide) ⟨by rw [decide_eq_false (by intro hc; rcases hc with hc | hc | hc | hc | hc | hc; omega; exact hc c2; exact c3 hc; exact c4 hc; exact c5 hc; exact hc c6)]; rfl, rfl⟩
  · refine xgo 80 rfl ?_
    try simp only [xlo0, List.map_cons, List.map_nil, List.length_cons, List.length_nil, xrs, xr0, Nat.reduceAdd, Nat.reduceSub, List.cons_append, List.nil_append, List.set_cons_zero, List.set_cons_succ, Option.toList_none, Option.toList_some, nI_1]
    refine xi_ret_i rfl rfl (by decide) ⟨by rw [decide_eq_true (Or.inr (Or.inr (Or.inr (Or.inr (Or.inr c6)))))]; rfl, rfl⟩
def tdat (r : List Int32) : List Int32 := (r.drop 4).take (r.length - 8)
/-- the book with a part more -/
def bput (V : bB) (i : Nat) (m : Int32) (n : Nat) (r : List Int32) : bB := ((m, V.1.2.1 + 1, V.1.2.2 + nI (r.length - 8)), V.2.1.set i (some n), V.2.2.set i (some (tdat r)))
def F_take (n : Nat) (Z : pZ) : Int32 × pZ :=
  let r := Z.2.2.2.1
  let b := (bat r 1).toInt.toNat
  let V := Z.2.2.2.2.1 b
  let i := (bat r 2).toInt.toNat
  let m := bat r 3
  let V' := bput V i m n r
  if r.length = 0 then (-2, Z) else if ¬ blw (bat r 1) 16 ∨ splB r = true then (-9, Z) else
  if V.1.1 ≠ 0 ∧ V.1.1 ≠ m then (-10, Z) else if phas V.2.2 (bat r 2) = true then (-4, Z) else
  if V.1.2.1 + 1 < m then (0, zB Z b V') else
  if 16 ≤ Z.2.2.1.length ∨ 700 < (V.1.2.2 + nI r.length - 8).toInt then (-3, Z) else
  (100 + nI Z.2.2.1.length, zP (zB Z b bEmpty) (Z.2.2.1 ++ [(n + 2, (pjoin V'.2.2).length, pjoin V'.2.2)]))
/-- a book's own numbers are right -/
def okBook (V : bB) : Prop := V.1.2.2 = nI (pjoin V.2.2).length ∧ (pjoin V.2.2).length ≤ 8800
theorem pjoin_set {P : List (Option (List Int32))} {i : Nat} {x : List Int32} (h : P[i]? = some none) : (pjoin (P.set i (some x))).length = (pjoin P).length + x.length := by
  induction P generalizing i with
  | nil => simp at h
  | cons a P ih =>
    cases i with
    | zero =>
      have e : a = none := by simpa using h
      subst e
      simp [pjoin]
      omega
    | succ i =>
      have := ih (i := i) (by simpa using h)
      simp only [pjoin, List.set_cons_succ, List.flatMap_cons, List.length_append] at this ⊢
      omega
theorem bat_mem {bs : List Int32} {i : Int32} (h0 : 0 ≤ i.toInt) (h1 : i.toInt < bs.length) : bat bs i ∈ bs := by
  unfold bat
  rw [if_neg (by omega), List.getD_eq_getElem?_getD, List.getElem?_eq_getElem (by omega)]
  exact List.getElem_mem _
theorem splB_ok {r : List Int32} (h : splB r = false) (hr : ∀ x ∈ r, blw x 256) : 8 < r.length ∧ 1 ≤ (bat r 3).toInt ∧ (bat r 3).toInt ≤ 88 ∧ 0 ≤ (bat r 2).toInt ∧ (bat r 2).toInt < (bat r 3).toInt := by
  unfold splB at h
  have h := of_decide_eq_false h
  have z0 : (1 : Int32).toInt = 1 := rfl
  have z88 : (88 : Int32).toInt = 88 := rfl
  have z2 : (2 : Int32).toInt = 2 := rfl
  have h8 : 8 < r.length := Nat.lt_of_not_le (fun hc => h (Or.inl hc))
  have h3 : ¬ bat r 3 < 1 := fun hc => h (Or.inr (Or.inr (Or.inl hc)))
  have h4 : ¬ 88 < bat r 3 := fun hc => h (Or.inr (Or.inr (Or.inr (Or.inl hc))))
  have h5 : ¬ bat r 3 ≤ bat r 2 := fun hc => h (Or.inr (Or.inr (Or.inr (Or.inr (Or.inl hc)))))
  rw [i_lt] at h3 h4
  rw [i_le] at h5
  have := (hr _ (bat_mem (bs := r) (i := 2) (by decide) (by rw [z2]; omega))).1
  omega
set_option maxRecDepth 100000 in
set_option maxHeartbeats 2000000 in
theorem c_PP_take {G : xG} {d rc : Nat} {own : Nat → Nat} {Z : pZ} {σ : xS} (h : pw G σ own rc Z) (hr : ∀ x ∈ Z.2.2.2.1, blw x 256) (hl9 : Z.2.2.2.1.length = 0 ∨ 9 ≤ Z.2.2.2.1.length) (hB : ∀ b, b < 16 → okBook (Z.2.2.2.2.1 b)) : xm G (d + 20) mX8_take [rf G 0] σ (ppost G σ (F_take σ.2.1 Z)) := by
  have hre := h.2.2.2.2.1
  have hrl := hre.len
  have hl16 := h.2.2.1.1
  have hn := h.own0
  have z0 : (0 : Int32).toInt = 0 := rfl
  have z16 : (16 : Int32).toInt = 16 := rfl
  have z700 : (700 : Int32).toInt = 700 := rfl
  unfold F_take
  dsimp only
  refine xm_at 4 rfl (by decide) (Nat.le_of_ble_eq_true rfl) (by simp [Value.category]) tX8_take_ok ?_
  try simp only [xlo0, List.map_cons, List.map_nil, List.length_cons, List.length_nil, xrs, xr0, Nat.reduceAdd, Nat.reduceSub, List.cons_append, List.nil_append, List.set_cons_zero, List.set_cons_succ, Option.toList_none, Option.toList_some, nI_1]
  refine xgo 80 rfl ?_
  try simp only [xlo0, List.map_cons, List.map_nil, List.length_cons, List.length_nil, xrs, xr0, Nat.reduceAdd, Nat.reduceSub, List.cons_append, List.nil_append, List.set_cons_zero, List.set_cons_succ, Option.toList_none, Option.toList_some, nI_1]
  refine xg 8 rfl rfl rfl h.obj rfl ?_
  refine xgo 80 rfl ?_
  try simp only [xlo0, List.map_cons, List.map_nil, List.length_cons, List.length_nil, xrs, xr0, Nat.reduceAdd, Nat.reduceSub, List.cons_append, List.nil_append, List.set_cons_zero, List.set_cons_succ, Option.toList_none, Option.toList_some, nI_1]
  refine xg 8 rfl rfl rfl hre.obj rfl ?_
  refine xgo 80 rfl ?_
  try simp only [xlo0, List.map_cons, List.map_nil, List.length_cons, List.length_nil, xrs, xr0, Nat.reduceAdd, Nat.reduceSub, List.cons_append, List.nil_append, List.set_cons_zero, List.set_cons_succ, Option.toList_none, Option.toList_some, nI_1]
  refine xi_ifne rfl (fun c1 => ?_) (fun c1 => ?_)
  · have hl0 : ¬ Z.2.2.2.1.length = 0 := fun hc => c1 (by rw [hc]; rfl)
    rw [if_neg hl0]
    refine xgo 80 rfl ?_
    try simp only [xlo0, List.map_cons, List.map_nil, List.length_cons, List.length_nil, xrs, xr0, Nat.reduceAdd, Nat.reduceSub, List.cons_append, List.nil_append, List.set_cons_zero, List.set_cons_succ, Option.toList_none, Option.toList_some, nI_1]
    refine xg 8 rfl rfl rfl h.obj rfl ?_
    refine xgo 80 rfl ?_
    try simp only [xlo0, List.map_cons, List.map_nil, List.length_cons, List.length_nil, xrs, xr0, Nat.reduceAdd, Nat.reduceSub, List.cons_append, List.nil_append, List.set_cons_zero, List.set_cons_succ, Option.toList_none, Option.toList_some, nI_1]
    refine xcV 8 rfl rfl rfl (c_BR_at hre) rfl kX1_at iX1_at hre.obj ⟨_, rfl, rfl⟩ rfl rfl (Nat.le_of_ble_eq_true rfl) (fun v1 s1 q1 => ?_)
    obtain ⟨rfl, rfl⟩ := q1
    by_cases hb1 : blw (bat Z.2.2.2.1 1) 16
    · generalize hb : (bat Z.2.2.2.1 1).toInt.toNat = b
      have hpb : bat Z.2.2.2.1 1 = nI b := by rw [← hb]; exact toN hb1.1
      have hb16 : b < 16 := by omega
      rw [hpb]
      refine xgo 80 rfl ?_
      try simp only [xlo0, List.map_cons, List.map_nil, List.length_cons, List.length_nil, xrs, xr0, Nat.reduceAdd, Nat.reduceSub, List.cons_append, List.nil_append, List.set_cons_zero, List.set_cons_succ, Option.toList_none, Option.toList_some, nI_1]
      refine xcV 8 rfl rfl rfl (c_PP_bookAt h hb16) rfl kX8_bookAt iX8_bookAt h.obj ⟨_, rfl, rfl⟩ rfl rfl (Nat.le_of_ble_eq_true rfl) (fun v2 s2 q2 => ?_)
      obtain ⟨rfl, rfl⟩ := q2
      refine xgo 80 rfl ?_
      try simp only [xlo0, List.map_cons, List.map_nil, List.length_cons, List.length_nil, xrs, xr0, Nat.reduceAdd, Nat.reduceSub, List.cons_append, List.nil_append, List.set_cons_zero, List.set_cons_succ, Option.toList_none, Option.toList_some, nI_1]
      refine xi_ifnull_r rfl ?_
      refine xgo 80 rfl ?_
      try simp only [xlo0, List.map_cons, List.map_nil, List.length_cons, List.length_nil, xrs, xr0, Nat.reduceAdd, Nat.reduceSub, List.cons_append, List.nil_append, List.set_cons_zero, List.set_cons_succ, Option.toList_none, Option.toList_some, nI_1]
      refine xcV 8 rfl rfl rfl (c_PP_isReelSpoiled h (by omega)) rfl kX8_isReelSpoiled iX8_isReelSpoiled h.obj ⟨_, rfl, rfl⟩ rfl rfl (Nat.le_of_ble_eq_true rfl) (fun v3 s3 q3 => ?_)
      obtain ⟨rfl, rfl⟩ := q3
      refine xgo 80 rfl ?_
      try simp only [xlo0, List.map_cons, List.map_nil, List.length_cons, List.length_nil, xrs, xr0, Nat.reduceAdd, Nat.reduceSub, List.cons_append, List.nil_append, List.set_cons_zero, List.set_cons_succ, Option.toList_none, Option.toList_some, nI_1]
      refine xi_ifeq rfl (fun c2 => ?_) (fun c2 => ?_)
      · rw [bI_z] at c2
        rw [if_neg (by intro hc; rcases hc with hc | hc; exact hc (by rw [← hpb]; exact hb1); rw [c2] at hc; cases hc)]
        have hs := splB_ok c2 hr
        obtain ⟨hbk, htk⟩ := h.2.2.2.2.2.1.2 b hb16
        have hok := hB b hb16
        generalize hV : Z.2.2.2.2.1 b = V at hbk htk hok ⊢
        generalize hi : (bat Z.2.2.2.1 2).toInt.toNat = i
        have hpi : bat Z.2.2.2.1 2 = nI i := by rw [← hi]; exact toN hs.2.2.2.1
        have hi88 : i < 88 := by omega
        rw [hpi]
        generalize hm : bat Z.2.2.2.1 3 = m at hs ⊢
        refine xgo 80 rfl ?_
        try simp only [xlo0, List.map_cons, List.map_nil, List.length_cons, List.length_nil, xrs, xr0, Nat.reduceAdd, Nat.reduceSub, List.cons_append, List.nil_append, List.set_cons_zero, List.set_cons_succ, Option.toList_none, Option.toList_some, nI_1]
        refine xg 8 rfl rfl rfl h.obj rfl ?_
        refine xgo 80 rfl ?_
        try simp only [xlo0, List.map_cons, List.map_nil, List.length_cons, List.length_nil, xrs, xr0, Nat.reduceAdd, Nat.reduceSub, List.cons_append, List.nil_append, List.set_cons_zero, List.set_cons_succ, Option.toList_none, Option.toList_some, nI_1]
        refine xcV 8 rfl rfl rfl (c_BR_at hre) rfl kX1_at iX1_at hre.obj ⟨_, rfl, rfl⟩ rfl rfl (Nat.le_of_ble_eq_true rfl) (fun v4 s4 q4 => ?_)
        obtain ⟨rfl, rfl⟩ := q4
        rw [hpi]
        refine xgo 80 rfl ?_
        try simp only [xlo0, List.map_cons, List.map_nil, List.length_cons, List.length_nil, xrs, xr0, Nat.reduceAdd, Nat.reduceSub, List.cons_append, List.nil_append, List.set_cons_zero, List.set_cons_succ, Option.toList_none, Option.toList_some, nI_1]
        refine xg 8 rfl rfl rfl h.obj rfl ?_
        refine xgo 80 rfl ?_
        try simp only [xlo0, List.map_cons, List.map_nil, List.length_cons, List.length_nil, xrs, xr0, Nat.reduceAdd, Nat.reduceSub, List.cons_append, List.nil_append, List.set_cons_zero, List.set_cons_succ, Option.toList_none, Option.toList_some, nI_1]
        refine xcV 8 rfl rfl rfl (c_BR_at hre) rfl kX1_at iX1_at hre.obj ⟨_, rfl, rfl⟩ rfl rfl (Nat.le_of_ble_eq_true rfl) (fun v5 s5 q5 => ?_)
        obtain ⟨rfl, rfl⟩ := q5
        rw [hm]
        have rest : xw G (d + 20) mX8_take 76 [some (rf G 0), some (rf G (24 + 2 * b)), some (.int (nI i)), some (.int m)] [] s5 (ppost G s5 (if phas V.2.2 (nI i) = true then (-4, Z) else if V.1.2.1 + 1 < m then (0, zB Z b (bput V i m s5.2.1 Z.2.2.2.1)) else if 16 ≤ Z.2.2.1.length ∨ 700 < (V.1.2.2 + nI Z.2.2.2.1.length - 8).toInt then (-3, Z) else (100 + nI Z.2.2.1.length, zP (zB Z b bEmpty) (Z.2.2.1 ++ [(s5.2.1 + 2, (pjoin (bput V i m s5.2.1 Z.2.2.2.1).2.2).length, pjoin (bput V i m s5.2.1 Z.2.2.2.1).2.2)])))) := by
          refine xgo 80 rfl ?_
          try simp only [xlo0, List.map_cons, List.map_nil, List.length_cons, List.length_nil, xrs, xr0, Nat.reduceAdd, Nat.reduceSub, List.cons_append, List.nil_append, List.set_cons_zero, List.set_cons_succ, Option.toList_none, Option.toList_some, nI_1]
          refine xcV 8 rfl rfl rfl (c_BK_hasPart hbk) rfl kX0_hasPart iX0_hasPart hbk.1 ⟨_, rfl, rfl⟩ rfl rfl (Nat.le_of_ble_eq_true rfl) (fun v6 s6 q6 => ?_)
          obtain ⟨rfl, rfl⟩ := q6
          refine xgo 80 rfl ?_
          try simp only [xlo0, List.map_cons, List.map_nil, List.length_cons, List.length_nil, xrs, xr0, Nat.reduceAdd, Nat.reduceSub, List.cons_append, List.nil_append, List.set_cons_zero, List.set_cons_succ, Option.toList_none, Option.toList_some, nI_1]
          refine xi_ifeq rfl (fun c3 => ?_) (fun c3 => ?_)
          · rw [bI_z] at c3
            rw [if_neg (by rw [c3]; decide)]
            have hPn : V.2.2[i]? = some none := by
              obtain ⟨-, -, -, t2, t3⟩ := hbk
              rcases t3 i hi88 with ⟨-, t⟩ | ⟨k, bs, -, t, -⟩
              · exact t
              · exfalso
                unfold phas at c3
                rw [i_n (by omega)] at c3
                simp [List.getD_eq_getElem?_getD, t] at c3
                omega
            have hput := c_BK_putPart (d := d + 16) (mn := m) hbk hi88 hPn hre (by omega) (by omega) (by omega) (by omega) (by omega) (fun k hk => by
              obtain ⟨ii, hii⟩ := List.getElem?_of_mem hk
              have := htk ii k hii
              have o1 := hn.2.2 k (by omega)
              have o2 := hn.2.2 (k + 1) (by omega)
              omega)
            have hV' : bput V i m s6.2.1 Z.2.2.2.1 = ((m, V.1.2.1 + 1, V.1.2.2 + nI (Z.2.2.2.1.length - 8)), V.2.1.set i (some s6.2.1), V.2.2.set i (some ((Z.2.2.2.1.drop 4).take (Z.2.2.2.1.length - 8)))) := rfl
            generalize bput V i m s6.2.1 Z.2.2.2.1 = V' at hV' ⊢
            have after : ∀ s7 : xS, bk G s7.1 (24 + 2 * b) m (V.1.2.1 + 1) (V.1.2.2 + (nI (Z.2.2.2.1.length - 8))) (V.2.1.set i (some s6.2.1)) (V.2.2.set i (some ((Z.2.2.2.1.drop 4).take (Z.2.2.2.1.length - 8)))) → (∀ q, q < s6.2.1 → q ≠ 24 + 2 * b → q ≠ 24 + 2 * b + 1 → s7.1 q = s6.1 q) → s7.2.1 = s6.2.1 + 2 → pw G s7 (fun q => if q = s6.2.1 ∨ q = s6.2.1 + 1 then 1000 + 100 * b + i else own q) rc (zB Z b V') := by
              intro s7 u1 u2 u3
              refine h.book1 hb16 u2 (by omega) (fun q hq => if_neg (by have := hn.2.2 q hq; omega)) (by rw [hV']; exact u1) (fun ii k hk => ?_) (fun q hq => ?_)
              · rw [hV'] at hk
                have hk' : (V.2.1.set i (some s6.2.1))[ii]? = some (some k) := hk
                by_cases hii : i = ii
                · subst hii
                  rw [List.getElem?_set] at hk'
                  rw [if_pos rfl] at hk'
                  split at hk'
                  · have e : s6.2.1 = k := by simpa using hk'
                    subst e
                    exact ⟨if_pos (Or.inl rfl), if_pos (Or.inr rfl)⟩
                  · cases hk'
                · rw [List.getElem?_set_ne hii] at hk'
                  have := htk ii k hk'
                  have o1 := hn.2.2 k (by omega)
                  have o2 := hn.2.2 (k + 1) (by omega)
                  exact ⟨(if_neg (by omega)).trans this.1, (if_neg (by omega)).trans this.2⟩
              · have hq' : (if q = s6.2.1 ∨ q = s6.2.1 + 1 then 1000 + 100 * b + i else own q) ≠ 0 := hq
                by_cases hc : q = s6.2.1 ∨ q = s6.2.1 + 1
                · omega
                · rw [if_neg hc] at hq'
                  have := hn.2.2 q hq'
                  omega
            refine xgo 80 rfl ?_
            try simp only [xlo0, List.map_cons, List.map_nil, List.length_cons, List.length_nil, xrs, xr0, Nat.reduceAdd, Nat.reduceSub, List.cons_append, List.nil_append, List.set_cons_zero, List.set_cons_succ, Option.toList_none, Option.toList_some, nI_1]
            refine xg 8 rfl rfl rfl hbk.1 rfl ?_
            refine xgo 80 rfl ?_
            try simp only [xlo0, List.map_cons, List.map_nil, List.length_cons, List.length_nil, xrs, xr0, Nat.reduceAdd, Nat.reduceSub, List.cons_append, List.nil_append, List.set_cons_zero, List.set_cons_succ, Option.toList_none, Option.toList_some, nI_1]
            refine xi_icmpge rfl (fun c4 => ?_) (fun c4 => ?_)
            · rw [if_neg (fun hc => by rw [i_le] at c4; rw [i_lt] at hc; omega)]
              refine xgo 80 rfl ?_
              try simp only [xlo0, List.map_cons, List.map_nil, List.length_cons, List.length_nil, xrs, xr0, Nat.reduceAdd, Nat.reduceSub, List.cons_append, List.nil_append, List.set_cons_zero, List.set_cons_succ, Option.toList_none, Option.toList_some, nI_1]
              refine xg 8 rfl rfl rfl h.obj rfl ?_
              refine xgo 80 rfl ?_
              try simp only [xlo0, List.map_cons, List.map_nil, List.length_cons, List.length_nil, xrs, xr0, Nat.reduceAdd, Nat.reduceSub, List.cons_append, List.nil_append, List.set_cons_zero, List.set_cons_succ, Option.toList_none, Option.toList_some, nI_1]
              refine xi_icmpge rfl (fun c5 => ?_) (fun c5 => ?_)
              · rw [i_le, i_n (by omega)] at c5
                rw [if_pos (Or.inl (by omega))]
                refine xgo 80 rfl ?_
                try simp only [xlo0, List.map_cons, List.map_nil, List.length_cons, List.length_nil, xrs, xr0, Nat.reduceAdd, Nat.reduceSub, List.cons_append, List.nil_append, List.set_cons_zero, List.set_cons_succ, Option.toList_none, Option.toList_some, nI_1]
                refine xi_ret_i rfl rfl rfl (ppost.same h rfl)
              rw [i_le, i_n (by omega)] at c5
              refine xgo 80 rfl ?_
              try simp only [xlo0, List.map_cons, List.map_nil, List.length_cons, List.length_nil, xrs, xr0, Nat.reduceAdd, Nat.reduceSub, List.cons_append, List.nil_append, List.set_cons_zero, List.set_cons_succ, Option.toList_none, Option.toList_some, nI_1]
              refine xg 8 rfl rfl rfl hbk.1 rfl ?_
              refine xgo 80 rfl ?_
              try simp only [xlo0, List.map_cons, List.map_nil, List.length_cons, List.length_nil, xrs, xr0, Nat.reduceAdd, Nat.reduceSub, List.cons_append, List.nil_append, List.set_cons_zero, List.set_cons_succ, Option.toList_none, Option.toList_some, nI_1]
              refine xg 8 rfl rfl rfl h.obj rfl ?_
              refine xgo 80 rfl ?_
              try simp only [xlo0, List.map_cons, List.map_nil, List.length_cons, List.length_nil, xrs, xr0, Nat.reduceAdd, Nat.reduceSub, List.cons_append, List.nil_append, List.set_cons_zero, List.set_cons_succ, Option.toList_none, Option.toList_some, nI_1]
              refine xg 8 rfl rfl rfl hre.obj rfl ?_
              refine xgo 80 rfl ?_
              try simp only [xlo0, List.map_cons, List.map_nil, List.length_cons, List.length_nil, xrs, xr0, Nat.reduceAdd, Nat.reduceSub, List.cons_append, List.nil_append, List.set_cons_zero, List.set_cons_succ, Option.toList_none, Option.toList_some, nI_1]
              refine xi_icmple rfl (fun c6 => ?_) (fun c6 => ?_)
              · rw [i_le] at c6
                rw [if_neg (by omega)]
                have hjl : (pjoin (V.2.2.set i (some ((Z.2.2.2.1.drop 4).take (Z.2.2.2.1.length - 8))))).length ≤ 700 := by
                  rw [pjoin_set hPn]
                  have e1 : V.1.2.2 + nI Z.2.2.2.1.length - 8 = nI ((pjoin V.2.2).length + Z.2.2.2.1.length - 8) := by
                    rw [hok.1, nI_addN]
                    exact nI_subN (b := 8) (by omega)
                  have := hok.2
                  rw [e1, i_n (by omega)] at c6
                  simp only [List.length_take, List.length_drop]
                  omega
                refine xgo 80 rfl ?_
                try simp only [xlo0, List.map_cons, List.map_nil, List.length_cons, List.length_nil, xrs, xr0, Nat.reduceAdd, Nat.reduceSub, List.cons_append, List.nil_append, List.set_cons_zero, List.set_cons_succ, Option.toList_none, Option.toList_some, nI_1]
                refine xg 8 rfl rfl rfl h.obj rfl ?_
                refine xgo 80 rfl ?_
                try simp only [xlo0, List.map_cons, List.map_nil, List.length_cons, List.length_nil, xrs, xr0, Nat.reduceAdd, Nat.reduceSub, List.cons_append, List.nil_append, List.set_cons_zero, List.set_cons_succ, Option.toList_none, Option.toList_some, nI_1]
                refine xcV 8 rfl rfl rfl hput rfl kX0_putPart iX0_putPart hbk.1 ⟨_, rfl, rfl⟩ rfl rfl (Nat.le_of_ble_eq_true rfl) (fun v7 s7 q7 => ?_)
                obtain ⟨rfl, u1, u2, u3, u4⟩ := q7
                have hp7 := after s7 u1 u2 u3
                obtain ⟨-, -, -, ⟨ds, hds⟩, -⟩ := id hp7
                have hjoin := c_BK_joinOnto (d := d + 17) u1 hds (by omega) (fun k hk => by
                  obtain ⟨ii, hii⟩ := List.getElem?_of_mem hk
                  have h2 := (hp7.2.2.2.2.2.1.2 b hb16).2 ii k (by simp only [zB, if_true]; rw [hV']; exact hii)
                  have := hp7.own0.2.2 k (by have h3 := h2.1; intro hc; exact absurd (hc.symm.trans h3) (by omega))
                  omega) (by omega)
                refine xgo 80 rfl ?_
                try simp only [xlo0, List.map_cons, List.map_nil, List.length_cons, List.length_nil, xrs, xr0, Nat.reduceAdd, Nat.reduceSub, List.cons_append, List.nil_append, List.set_cons_zero, List.set_cons_succ, Option.toList_none, Option.toList_some, nI_1]
                refine xg 8 rfl rfl rfl hp7.obj rfl ?_
                refine xgo 80 rfl ?_
                try simp only [xlo0, List.map_cons, List.map_nil, List.length_cons, List.length_nil, xrs, xr0, Nat.reduceAdd, Nat.reduceSub, List.cons_append, List.nil_append, List.set_cons_zero, List.set_cons_succ, Option.toList_none, Option.toList_some, nI_1]
                refine xcV 8 rfl rfl rfl hjoin rfl kX0_joinOnto iX0_joinOnto u1.1 ⟨_, rfl, rfl⟩ rfl rfl (Nat.le_of_ble_eq_true rfl) (fun v8 s8 q8 => ?_)
                obtain ⟨rfl, w1, w2, w3, w4⟩ := q8
                have e81 : s8.2.1 = s7.2.1 := congrArg Prod.fst w4
                refine xgo 80 rfl ?_
                try simp only [xlo0, List.map_cons, List.map_nil, List.length_cons, List.length_nil, xrs, xr0, Nat.reduceAdd, Nat.reduceSub, List.cons_append, List.nil_append, List.set_cons_zero, List.set_cons_succ, Option.toList_none, Option.toList_some, nI_1]
                refine xcV 8 rfl rfl rfl (c_BK_clear w1) rfl kX0_clear iX0_clear w1.1 ⟨_, rfl, rfl⟩ rfl rfl (Nat.le_of_ble_eq_true rfl) (fun v9 s9 q9 => ?_)
                obtain ⟨rfl, x1, x2, x3⟩ := q9
                have e91 : s9.2.1 = s8.2.1 := congrArg Prod.fst x3
                obtain ⟨-, -, -, -, -, -, ⟨bw, sz, mb, ml, hW⟩, -⟩ := id hp7
                have hp8 := hp7.desk (fun q a1 a2 => w3 q (by omega)) w4 w2 (hW.keepQ (fun q _ _ => w3 q (by omega)))
                have hp9 := hp8.1.book1 (σ' := s9) (own' := fun q => if q = s6.2.1 ∨ q = s6.2.1 + 1 then 1000 + 100 * b + i else own q) (v := bEmpty) hb16 (fun q _ h1 h2 => x2 q (by omega)) (by omega) (fun _ _ => rfl) x1 (fun i k hk => (rep_none hk).elim) (by rw [e91]; exact hp8.1.own0.2.2)
                have hZ : zB (zB Z b V') b bEmpty = zB Z b bEmpty := by
                  unfold zB
                  simp only [Prod.mk.injEq, true_and, and_true]
                  funext q
                  by_cases hq : q = b <;> simp [hq]
                rw [hZ] at hp9
                have hds9 : brr G s9.1 19 2020 (pjoin (V.2.2.set i (some ((Z.2.2.2.1.drop 4).take (Z.2.2.2.1.length - 8))))) := w2.keepQ (fun q _ _ => x2 q (by omega))
                refine xgo 80 rfl ?_
                try simp only [xlo0, List.map_cons, List.map_nil, List.length_cons, List.length_nil, xrs, xr0, Nat.reduceAdd, Nat.reduceSub, List.cons_append, List.nil_append, List.set_cons_zero, List.set_cons_succ, Option.toList_none, Option.toList_some, nI_1]
                refine xcV 8 rfl rfl rfl (c_PP_keepDesk hp9 hds9) rfl kX8_keepDesk iX8_keepDesk hp9.obj ⟨_, rfl, rfl⟩ rfl rfl (Nat.le_of_ble_eq_true rfl) (fun v10 s10 q10 => ?_)
                obtain ⟨⟨rfl, ⟨own2, rc2, hp10⟩, hm10⟩, k1, k2⟩ := q10
                have hF : F_keep s9.2.1 (pjoin (V.2.2.set i (some ((Z.2.2.2.1.drop 4).take (Z.2.2.2.1.length - 8))))) (zB Z b bEmpty) = (nI Z.2.2.1.length, zP (zB Z b bEmpty) (Z.2.2.1 ++ [(s6.2.1 + 2, (pjoin V'.2.2).length, pjoin V'.2.2)])) := by
                  unfold F_keep
                  rw [if_neg (by simp only [zB]; omega), e91, e81, u3, hV']
                  rfl
                rw [hF] at hp10 ⊢
                refine xgo 80 rfl ?_
                try simp only [xlo0, List.map_cons, List.map_nil, List.length_cons, List.length_nil, xrs, xr0, Nat.reduceAdd, Nat.reduceSub, List.cons_append, List.nil_append, List.set_cons_zero, List.set_cons_succ, Option.toList_none, Option.toList_some, nI_1]
                refine xi_ret_i rfl rfl rfl ⟨rfl, ⟨own2, rc2, hp10⟩, fun q h1 h2 => by rw [hm10.1 q h1 h2, x2 q (by omega), w3 q (by omega), u2 q (by omega) (by omega) (by omega)], by have := hm10.2.1; omega, by omega, by have e92 : s9.2.2 = s7.2.2 := (congrArg Prod.snd x3).trans (congrArg Prod.snd w4); omega⟩
              · rw [i_le] at c6
                rw [if_pos (Or.inr (by omega))]
                refine xgo 80 rfl ?_
                try simp only [xlo0, List.map_cons, List.map_nil, List.length_cons, List.length_nil, xrs, xr0, Nat.reduceAdd, Nat.reduceSub, List.cons_append, List.nil_append, List.set_cons_zero, List.set_cons_succ, Option.toList_none, Option.toList_some, nI_1]
                refine xi_ret_i rfl rfl rfl (ppost.same h rfl)
            · rw [if_pos (by rw [i_le] at c4; rw [i_lt]; omega)]
              refine xgo 80 rfl ?_
              try simp only [xlo0, List.map_cons, List.map_nil, List.length_cons, List.length_nil, xrs, xr0, Nat.reduceAdd, Nat.reduceSub, List.cons_append, List.nil_append, List.set_cons_zero, List.set_cons_succ, Option.toList_none, Option.toList_some, nI_1]
              refine xg 8 rfl rfl rfl h.obj rfl ?_
              refine xgo 80 rfl ?_
              try simp only [xlo0, List.map_cons, List.map_nil, List.length_cons, List.length_nil, xrs, xr0, Nat.reduceAdd, Nat.reduceSub, List.cons_append, List.nil_append, List.set_cons_zero, List.set_cons_succ, Option.toList_none, Option.toList_some, nI_1]
              refine xcV 8 rfl rfl rfl hput rfl kX0_putPart iX0_putPart hbk.1 ⟨_, rfl, rfl⟩ rfl rfl (Nat.le_of_ble_eq_true rfl) (fun v7 s7 q7 => ?_)
              obtain ⟨rfl, u1, u2, u3, u4⟩ := q7
              refine xgo 80 rfl ?_
              try simp only [xlo0, List.map_cons, List.map_nil, List.length_cons, List.length_nil, xrs, xr0, Nat.reduceAdd, Nat.reduceSub, List.cons_append, List.nil_append, List.set_cons_zero, List.set_cons_succ, Option.toList_none, Option.toList_some, nI_1]
              refine xi_ret_i rfl rfl rfl ⟨rfl, ⟨_, _, after s7 u1 u2 u3⟩, fun q h1 h2 => u2 q (by omega) (by omega) (by omega), by omega, by omega, by omega⟩
          · rw [bI_z, Bool.not_eq_false] at c3
            rw [if_pos c3]
            refine xgo 80 rfl ?_
            try simp only [xlo0, List.map_cons, List.map_nil, List.length_cons, List.length_nil, xrs, xr0, Nat.reduceAdd, Nat.reduceSub, List.cons_append, List.nil_append, List.set_cons_zero, List.set_cons_succ, Option.toList_none, Option.toList_some, nI_1]
            refine xi_ret_i rfl rfl rfl (ppost.same h rfl)
        refine xgo 80 rfl ?_
        try simp only [xlo0, List.map_cons, List.map_nil, List.length_cons, List.length_nil, xrs, xr0, Nat.reduceAdd, Nat.reduceSub, List.cons_append, List.nil_append, List.set_cons_zero, List.set_cons_succ, Option.toList_none, Option.toList_some, nI_1]
        refine xg 8 rfl rfl rfl hbk.1 rfl ?_
        refine xgo 80 rfl ?_
        try simp only [xlo0, List.map_cons, List.map_nil, List.length_cons, List.length_nil, xrs, xr0, Nat.reduceAdd, Nat.reduceSub, List.cons_append, List.nil_append, List.set_cons_zero, List.set_cons_succ, Option.toList_none, Option.toList_some, nI_1]
        refine xi_ifeq rfl (fun c7 => ?_) (fun c7 => ?_)
        · rw [if_neg (fun hc => hc.1 c7)]
          exact rest
        · refine xgo 80 rfl ?_
          try simp only [xlo0, List.map_cons, List.map_nil, List.length_cons, List.length_nil, xrs, xr0, Nat.reduceAdd, Nat.reduceSub, List.cons_append, List.nil_append, List.set_cons_zero, List.set_cons_succ, Option.toList_none, Option.toList_some, nI_1]
          refine xg 8 rfl rfl rfl hbk.1 rfl ?_
          refine xgo 80 rfl ?_
          try simp only [xlo0, List.map_cons, List.map_nil, List.length_cons, List.length_nil, xrs, xr0, Nat.reduceAdd, Nat.reduceSub, List.cons_append, List.nil_append, List.set_cons_zero, List.set_cons_succ, Option.toList_none, Option.toList_some, nI_1]
          refine xi_icmpeq rfl (fun c8 => ?_) (fun c8 => ?_)
          · rw [if_neg (fun hc => hc.2 c8)]
            exact rest
          · rw [if_pos ⟨c7, c8⟩]
            refine xgo 80 rfl ?_
            try simp only [xlo0, List.map_cons, List.map_nil, List.length_cons, List.length_nil, xrs, xr0, Nat.reduceAdd, Nat.reduceSub, List.cons_append, List.nil_append, List.set_cons_zero, List.set_cons_succ, Option.toList_none, Option.toList_some, nI_1]
            refine xi_ret_i rfl rfl rfl (ppost.same h rfl)
      · rw [bI_z, Bool.not_eq_false] at c2
        refine xgo 80 rfl ?_
        try simp only [xlo0, List.map_cons, List.map_nil, List.length_cons, List.length_nil, xrs, xr0, Nat.reduceAdd, Nat.reduceSub, List.cons_append, List.nil_append, List.set_cons_zero, List.set_cons_succ, Option.toList_none, Option.toList_some, nI_1]
        refine xi_ret_i rfl rfl rfl (ppost.same h (if_pos (Or.inr c2)))
    · refine xgo 80 rfl ?_
      try simp only [xlo0, List.map_cons, List.map_nil, List.length_cons, List.length_nil, xrs, xr0, Nat.reduceAdd, Nat.reduceSub, List.cons_append, List.nil_append, List.set_cons_zero, List.set_cons_succ, Option.toList_none, Option.toList_some, nI_1]
      refine xcV 8 rfl rfl rfl (c_PP_bookAtN hb1) rfl kX8_bookAt iX8_bookAt h.obj ⟨_, rfl, rfl⟩ rfl rfl (Nat.le_of_ble_eq_true rfl) (fun v2 s2 q2 => ?_)
      obtain ⟨rfl, rfl⟩ := q2
      refine xgo 80 rfl ?_
      try simp only [xlo0, List.map_cons, List.map_nil, List.length_cons, List.length_nil, xrs, xr0, Nat.reduceAdd, Nat.reduceSub, List.cons_append, List.nil_append, List.set_cons_zero, List.set_cons_succ, Option.toList_none, Option.toList_some, nI_1]
      refine xi_ifnull_n rfl ?_
      refine xgo 80 rfl ?_
      try simp only [xlo0, List.map_cons, List.map_nil, List.length_cons, List.length_nil, xrs, xr0, Nat.reduceAdd, Nat.reduceSub, List.cons_append, List.nil_append, List.set_cons_zero, List.set_cons_succ, Option.toList_none, Option.toList_some, nI_1]
      refine xi_ret_i rfl rfl rfl (ppost.same h (if_pos (Or.inl hb1)))
  · have hl0 : Z.2.2.2.1.length = 0 := by
      rw [i_eq, i_n (by omega)] at c1
      omega
    refine xgo 80 rfl ?_
    try simp only [xlo0, List.map_cons, List.map_nil, List.length_cons, List.length_nil, xrs, xr0, Nat.reduceAdd, Nat.reduceSub, List.cons_append, List.nil_append, List.set_cons_zero, List.set_cons_succ, Option.toList_none, Option.toList_some, nI_1]
    refine xi_ret_i rfl rfl rfl (ppost.same h (if_pos hl0))
