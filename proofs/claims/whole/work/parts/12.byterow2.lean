theorem nI_inc (j : Nat) : nI j + 1 = nI (j + 1) := nI_1 j
theorem seg_snoc {os : List Int32} {i j : Nat} (h1 : i ≤ j) (h2 : j < os.length) : (os.drop i).take (j + 1 - i) = (os.drop i).take (j - i) ++ [os.getD j (-1)] := by
  rw [show j + 1 - i = (j - i) + 1 by omega, List.take_succ, List.getElem?_drop, show i + (j - i) = j by omega, List.getD_eq_getElem?_getD, List.getElem?_eq_getElem h2]
  rfl
set_option maxRecDepth 100000 in
set_option maxHeartbeats 8000000 in
theorem l_BR_pushRange {G : xG} {d a o cap ocap i e : Nat} {bs os : List Int32} {σ : xS} (hd : a + 2 ≤ o ∨ o + 2 ≤ a) (he : e ≤ os.length) (hol : os.length < 100000) (hc : bs.length + (e - i) ≤ cap) : ∀ (n j : Nat) (bs' : List Int32) (s : xS), j + n = e → i ≤ j → bs' = bs ++ (os.drop i).take (j - i) → brr G s.1 a cap bs' → brr G s.1 o ocap os → frz σ.1 s.1 a 2 → s.2 = σ.2 →
    xw G (d + 1) mX1_pushRange 3 [some (rf G a), some (rf G o), some (.int (nI i)), some (.int (nI e)), some (.int (nI j))] [] s (fun v σ' => v = none ∧ brr G σ'.1 a cap (bs ++ (os.drop i).take (e - i)) ∧ frz σ.1 σ'.1 a 2 ∧ σ'.2 = σ.2) := by
  intro n
  induction n with
  | zero =>
    intro j bs' s hj hij hb h1 h2 hf h3
    have : j = e := by omega
    subst this
    refine xgo 80 rfl ?_
    try simp only [xlo0, List.map_cons, List.map_nil, List.length_cons, List.length_nil, xrs, xr0, Nat.reduceAdd, Nat.reduceSub, List.cons_append, List.nil_append, List.set_cons_zero, List.set_cons_succ, Option.toList_none, Option.toList_some, nI_1]
    refine xi_icmpge rfl (fun c => ?_) (fun c => ?_)
    · refine xgo 80 rfl ?_
      try simp only [xlo0, List.map_cons, List.map_nil, List.length_cons, List.length_nil, xrs, xr0, Nat.reduceAdd, Nat.reduceSub, List.cons_append, List.nil_append, List.set_cons_zero, List.set_cons_succ, Option.toList_none, Option.toList_some, nI_1]
      refine xi_ret_v rfl rfl ⟨rfl, by rw [← hb]; exact h1, hf, h3⟩
    · exact absurd (i_le.mpr (Int.le_refl _)) c
  | succ n ih =>
    intro j bs' s hj hij hb h1 h2 hf h3
    refine xgo 80 rfl ?_
    try simp only [xlo0, List.map_cons, List.map_nil, List.length_cons, List.length_nil, xrs, xr0, Nat.reduceAdd, Nat.reduceSub, List.cons_append, List.nil_append, List.set_cons_zero, List.set_cons_succ, Option.toList_none, Option.toList_some, nI_1]
    refine xi_icmpge rfl (fun c => ?_) (fun c => ?_)
    · exfalso
      rw [i_le, i_n (by omega), i_n (by omega)] at c
      omega
    · have hjl : j < os.length := by omega
      have hbl : bs'.length = bs.length + (j - i) := by rw [hb]; simp; omega
      refine xgo 80 rfl ?_
      try simp only [xlo0, List.map_cons, List.map_nil, List.length_cons, List.length_nil, xrs, xr0, Nat.reduceAdd, Nat.reduceSub, List.cons_append, List.nil_append, List.set_cons_zero, List.set_cons_succ, Option.toList_none, Option.toList_some, nI_1]
      refine xcV 1 rfl rfl rfl (c_BR_at h2) rfl kX1_at iX1_at h2.obj ⟨_, rfl, rfl⟩ rfl rfl (Nat.le_of_ble_eq_true rfl) (fun v1 s1 q1 => ?_)
      obtain ⟨rfl, rfl⟩ := q1
      rw [bat_n (by omega)]
      refine xgo 80 rfl ?_
      try simp only [xlo0, List.map_cons, List.map_nil, List.length_cons, List.length_nil, xrs, xr0, Nat.reduceAdd, Nat.reduceSub, List.cons_append, List.nil_append, List.set_cons_zero, List.set_cons_succ, Option.toList_none, Option.toList_some, nI_1]
      refine xcV 1 rfl rfl rfl (c_BR_push h1 (by omega)) rfl kX1_push iX1_push h1.obj ⟨_, rfl, rfl⟩ rfl rfl (Nat.le_of_ble_eq_true rfl) (fun v2 s2 q2 => ?_)
      obtain ⟨rfl, p1, p2, p3⟩ := q2
      refine xto 3 80 rfl ?_
      try simp only [xlo0, List.map_cons, List.map_nil, List.length_cons, List.length_nil, xrs, xr0, Nat.reduceAdd, Nat.reduceSub, List.cons_append, List.nil_append, List.set_cons_zero, List.set_cons_succ, Option.toList_none, Option.toList_some, nI_1]
      refine ih (j + 1) _ _ (by omega) (by omega) ?_ p1 (h2.keep p2 (by omega)) (hf.tr p2) (p3.trans h3)
      rw [hb, seg_snoc hij hjl, List.append_assoc]
set_option maxRecDepth 100000 in
set_option maxHeartbeats 8000000 in
theorem c_BR_pushRange {G : xG} {d a o cap ocap i e : Nat} {bs os : List Int32} {σ : xS} (h1 : brr G σ.1 a cap bs) (h2 : brr G σ.1 o ocap os) (hd : a + 2 ≤ o ∨ o + 2 ≤ a) (hi : i ≤ e) (he : e ≤ os.length) (hc : bs.length + (e - i) ≤ cap) : xm G (d + 1) mX1_pushRange [rf G a, rf G o, .int (nI i), .int (nI e)] σ (fun v σ' => v = none ∧ brr G σ'.1 a cap (bs ++ (os.drop i).take (e - i)) ∧ frz σ.1 σ'.1 a 2 ∧ σ'.2 = σ.2) := by
  refine xm_at 5 rfl (by decide) (Nat.le_of_ble_eq_true rfl) (by simp [Value.category]) tX1_pushRange_ok ?_
  try simp only [xlo0, List.map_cons, List.map_nil, List.length_cons, List.length_nil, xrs, xr0, Nat.reduceAdd, Nat.reduceSub, List.cons_append, List.nil_append, List.set_cons_zero, List.set_cons_succ, Option.toList_none, Option.toList_some, nI_1]
  refine xto 3 80 rfl ?_
  try simp only [xlo0, List.map_cons, List.map_nil, List.length_cons, List.length_nil, xrs, xr0, Nat.reduceAdd, Nat.reduceSub, List.cons_append, List.nil_append, List.set_cons_zero, List.set_cons_succ, Option.toList_none, Option.toList_some, nI_1]
  exact l_BR_pushRange hd he (Nat.lt_of_le_of_lt h2.len.1 h2.len.2) hc (e - i) i bs σ (by omega) (Nat.le_refl _) (by simp) h1 h2 frz.rf rfl
set_option maxRecDepth 100000 in
set_option maxHeartbeats 8000000 in
theorem c_BR_pushNumber {G : xG} {d a cap : Nat} {bs : List Int32} {n : Int32} {σ : xS} (h1 : brr G σ.1 a cap bs) (hc : bs.length + 4 ≤ cap) : xm G (d + 1) mX1_pushNumber [rf G a, .int n] σ (fun v σ' => v = none ∧ brr G σ'.1 a cap (bs ++ four n) ∧ frz σ.1 σ'.1 a 2 ∧ σ'.2 = σ.2) := by
  refine xm_at 3 rfl (by decide) (Nat.le_of_ble_eq_true rfl) (by simp [Value.category]) tX1_pushNumber_ok ?_
  try simp only [xlo0, List.map_cons, List.map_nil, List.length_cons, List.length_nil, xrs, xr0, Nat.reduceAdd, Nat.reduceSub, List.cons_append, List.nil_append, List.set_cons_zero, List.set_cons_succ, Option.toList_none, Option.toList_some, nI_1]
  refine xgo 80 rfl ?_
  try simp only [xlo0, List.map_cons, List.map_nil, List.length_cons, List.length_nil, xrs, xr0, Nat.reduceAdd, Nat.reduceSub, List.cons_append, List.nil_append, List.set_cons_zero, List.set_cons_succ, Option.toList_none, Option.toList_some, nI_1]
  refine xi_iflt rfl (fun c => ?_) (fun c => ?_)
  · exact absurd c (by decide)
  refine xgo 80 rfl ?_
  try simp only [xlo0, List.map_cons, List.map_nil, List.length_cons, List.length_nil, xrs, xr0, Nat.reduceAdd, Nat.reduceSub, List.cons_append, List.nil_append, List.set_cons_zero, List.set_cons_succ, Option.toList_none, Option.toList_some, nI_1]
  refine xcV 1 rfl rfl rfl (c_BR_push h1 (by omega)) rfl kX1_push iX1_push h1.obj ⟨_, rfl, rfl⟩ rfl rfl (Nat.le_of_ble_eq_true rfl) (fun v1 s1 q1 => ?_)
  obtain ⟨rfl, p1, p2, p3⟩ := q1
  refine xgo 80 rfl ?_
  try simp only [xlo0, List.map_cons, List.map_nil, List.length_cons, List.length_nil, xrs, xr0, Nat.reduceAdd, Nat.reduceSub, List.cons_append, List.nil_append, List.set_cons_zero, List.set_cons_succ, Option.toList_none, Option.toList_some, nI_1]
  refine xi_iflt rfl (fun c => ?_) (fun c => ?_)
  · exact absurd c (by decide)
  refine xgo 80 rfl ?_
  try simp only [xlo0, List.map_cons, List.map_nil, List.length_cons, List.length_nil, xrs, xr0, Nat.reduceAdd, Nat.reduceSub, List.cons_append, List.nil_append, List.set_cons_zero, List.set_cons_succ, Option.toList_none, Option.toList_some, nI_1]
  refine xcV 1 rfl rfl rfl (c_BR_push p1 (by simp; omega)) rfl kX1_push iX1_push p1.obj ⟨_, rfl, rfl⟩ rfl rfl (Nat.le_of_ble_eq_true rfl) (fun v2 s2 q2 => ?_)
  obtain ⟨rfl, r1, r2, r3⟩ := q2
  refine xgo 80 rfl ?_
  try simp only [xlo0, List.map_cons, List.map_nil, List.length_cons, List.length_nil, xrs, xr0, Nat.reduceAdd, Nat.reduceSub, List.cons_append, List.nil_append, List.set_cons_zero, List.set_cons_succ, Option.toList_none, Option.toList_some, nI_1]
  refine xi_iflt rfl (fun c => ?_) (fun c => ?_)
  · exact absurd c (by decide)
  refine xgo 80 rfl ?_
  try simp only [xlo0, List.map_cons, List.map_nil, List.length_cons, List.length_nil, xrs, xr0, Nat.reduceAdd, Nat.reduceSub, List.cons_append, List.nil_append, List.set_cons_zero, List.set_cons_succ, Option.toList_none, Option.toList_some, nI_1]
  refine xcV 1 rfl rfl rfl (c_BR_push r1 (by simp; omega)) rfl kX1_push iX1_push r1.obj ⟨_, rfl, rfl⟩ rfl rfl (Nat.le_of_ble_eq_true rfl) (fun v3 s3 q3 => ?_)
  obtain ⟨rfl, t1, t2, t3⟩ := q3
  refine xgo 80 rfl ?_
  try simp only [xlo0, List.map_cons, List.map_nil, List.length_cons, List.length_nil, xrs, xr0, Nat.reduceAdd, Nat.reduceSub, List.cons_append, List.nil_append, List.set_cons_zero, List.set_cons_succ, Option.toList_none, Option.toList_some, nI_1]
  refine xi_iflt rfl (fun c => ?_) (fun c => ?_)
  · exact absurd c (by decide)
  refine xgo 80 rfl ?_
  try simp only [xlo0, List.map_cons, List.map_nil, List.length_cons, List.length_nil, xrs, xr0, Nat.reduceAdd, Nat.reduceSub, List.cons_append, List.nil_append, List.set_cons_zero, List.set_cons_succ, Option.toList_none, Option.toList_some, nI_1]
  refine xcV 1 rfl rfl rfl (c_BR_push t1 (by simp; omega)) rfl kX1_push iX1_push t1.obj ⟨_, rfl, rfl⟩ rfl rfl (Nat.le_of_ble_eq_true rfl) (fun v4 s4 q4 => ?_)
  obtain ⟨rfl, u1, u2, u3⟩ := q4
  refine xgo 80 rfl ?_
  try simp only [xlo0, List.map_cons, List.map_nil, List.length_cons, List.length_nil, xrs, xr0, Nat.reduceAdd, Nat.reduceSub, List.cons_append, List.nil_append, List.set_cons_zero, List.set_cons_succ, Option.toList_none, Option.toList_some, nI_1]
  refine xi_iflt rfl (fun c => ?_) (fun c => ?_)
  · refine xgo 80 rfl ?_
    try simp only [xlo0, List.map_cons, List.map_nil, List.length_cons, List.length_nil, xrs, xr0, Nat.reduceAdd, Nat.reduceSub, List.cons_append, List.nil_append, List.set_cons_zero, List.set_cons_succ, Option.toList_none, Option.toList_some, nI_1]
    refine xi_ret_v rfl rfl ⟨rfl, ?_, ((p2.tr r2).tr t2).tr u2, u3.trans (t3.trans (r3.trans p3))⟩
    simp only [List.append_assoc, List.cons_append, List.nil_append] at u1
    exact u1
  · exact absurd (by decide) c
/-- the number that four bytes at i make -/
def num4 (bs : List Int32) (i : Int32) : Int32 := ((((((((0 : Int32) <<< ((8 : Int32) &&& 31)) ||| (bat bs (i + 0) &&& 255)) <<< ((8 : Int32) &&& 31)) ||| (bat bs (i + 0 + 1) &&& 255)) <<< ((8 : Int32) &&& 31)) ||| (bat bs (i + 0 + 1 + 1) &&& 255)) <<< ((8 : Int32) &&& 31)) ||| (bat bs (i + 0 + 1 + 1 + 1) &&& 255)
set_option maxRecDepth 100000 in
set_option maxHeartbeats 8000000 in
theorem c_BR_number {G : xG} {d a cap : Nat} {bs : List Int32} {i : Int32} {σ : xS} (h1 : brr G σ.1 a cap bs) : xm G (d + 1) mX1_number [rf G a, .int i] σ (fun v σ' => v = some (.int (num4 bs i)) ∧ σ' = σ) := by
  refine xm_at 4 rfl (by decide) (Nat.le_of_ble_eq_true rfl) (by simp [Value.category]) tX1_number_ok ?_
  try simp only [xlo0, List.map_cons, List.map_nil, List.length_cons, List.length_nil, xrs, xr0, Nat.reduceAdd, Nat.reduceSub, List.cons_append, List.nil_append, List.set_cons_zero, List.set_cons_succ, Option.toList_none, Option.toList_some, nI_1]
  refine xgo 80 rfl ?_
  try simp only [xlo0, List.map_cons, List.map_nil, List.length_cons, List.length_nil, xrs, xr0, Nat.reduceAdd, Nat.reduceSub, List.cons_append, List.nil_append, List.set_cons_zero, List.set_cons_succ, Option.toList_none, Option.toList_some, nI_1]
  refine xi_icmpge rfl (fun c => ?_) (fun c => ?_)
  · exact absurd c (by decide)
  refine xgo 80 rfl ?_
  try simp only [xlo0, List.map_cons, List.map_nil, List.length_cons, List.length_nil, xrs, xr0, Nat.reduceAdd, Nat.reduceSub, List.cons_append, List.nil_append, List.set_cons_zero, List.set_cons_succ, Option.toList_none, Option.toList_some, nI_1]
  refine xcV 1 rfl rfl rfl (c_BR_at h1) rfl kX1_at iX1_at h1.obj ⟨_, rfl, rfl⟩ rfl rfl (Nat.le_of_ble_eq_true rfl) (fun v1 s1 q1 => ?_)
  obtain ⟨rfl, rfl⟩ := q1
  refine xgo 80 rfl ?_
  try simp only [xlo0, List.map_cons, List.map_nil, List.length_cons, List.length_nil, xrs, xr0, Nat.reduceAdd, Nat.reduceSub, List.cons_append, List.nil_append, List.set_cons_zero, List.set_cons_succ, Option.toList_none, Option.toList_some, nI_1]
  refine xi_icmpge rfl (fun c => ?_) (fun c => ?_)
  · exact absurd c (by decide)
  refine xgo 80 rfl ?_
  try simp only [xlo0, List.map_cons, List.map_nil, List.length_cons, List.length_nil, xrs, xr0, Nat.reduceAdd, Nat.reduceSub, List.cons_append, List.nil_append, List.set_cons_zero, List.set_cons_succ, Option.toList_none, Option.toList_some, nI_1]
  refine xcV 1 rfl rfl rfl (c_BR_at h1) rfl kX1_at iX1_at h1.obj ⟨_, rfl, rfl⟩ rfl rfl (Nat.le_of_ble_eq_true rfl) (fun v2 s2 q2 => ?_)
  obtain ⟨rfl, rfl⟩ := q2
  refine xgo 80 rfl ?_
  try simp only [xlo0, List.map_cons, List.map_nil, List.length_cons, List.length_nil, xrs, xr0, Nat.reduceAdd, Nat.reduceSub, List.cons_append, List.nil_append, List.set_cons_zero, List.set_cons_succ, Option.toList_none, Option.toList_some, nI_1]
  refine xi_icmpge rfl (fun c => ?_) (fun c => ?_)
  · exact absurd c (by decide)
  refine xgo 80 rfl ?_
  try simp only [xlo0, List.map_cons, List.map_nil, List.length_cons, List.length_nil, xrs, xr0, Nat.reduceAdd, Nat.reduceSub, List.cons_append, List.nil_append, List.set_cons_zero, List.set_cons_succ, Option.toList_none, Option.toList_some, nI_1]
  refine xcV 1 rfl rfl rfl (c_BR_at h1) rfl kX1_at iX1_at h1.obj ⟨_, rfl, rfl⟩ rfl rfl (Nat.le_of_ble_eq_true rfl) (fun v3 s3 q3 => ?_)
  obtain ⟨rfl, rfl⟩ := q3
  refine xgo 80 rfl ?_
  try simp only [xlo0, List.map_cons, List.map_nil, List.length_cons, List.length_nil, xrs, xr0, Nat.reduceAdd, Nat.reduceSub, List.cons_append, List.nil_append, List.set_cons_zero, List.set_cons_succ, Option.toList_none, Option.toList_some, nI_1]
  refine xi_icmpge rfl (fun c => ?_) (fun c => ?_)
  · exact absurd c (by decide)
  refine xgo 80 rfl ?_
  try simp only [xlo0, List.map_cons, List.map_nil, List.length_cons, List.length_nil, xrs, xr0, Nat.reduceAdd, Nat.reduceSub, List.cons_append, List.nil_append, List.set_cons_zero, List.set_cons_succ, Option.toList_none, Option.toList_some, nI_1]
  refine xcV 1 rfl rfl rfl (c_BR_at h1) rfl kX1_at iX1_at h1.obj ⟨_, rfl, rfl⟩ rfl rfl (Nat.le_of_ble_eq_true rfl) (fun v4 s4 q4 => ?_)
  obtain ⟨rfl, rfl⟩ := q4
  refine xgo 80 rfl ?_
  try simp only [xlo0, List.map_cons, List.map_nil, List.length_cons, List.length_nil, xrs, xr0, Nat.reduceAdd, Nat.reduceSub, List.cons_append, List.nil_append, List.set_cons_zero, List.set_cons_succ, Option.toList_none, Option.toList_some, nI_1]
  refine xi_icmpge rfl (fun c => ?_) (fun c => ?_)
  · refine xgo 80 rfl ?_
    try simp only [xlo0, List.map_cons, List.map_nil, List.length_cons, List.length_nil, xrs, xr0, Nat.reduceAdd, Nat.reduceSub, List.cons_append, List.nil_append, List.set_cons_zero, List.set_cons_succ, Option.toList_none, Option.toList_some, nI_1]
    refine xi_ret_i rfl rfl rfl ⟨?_, rfl⟩
    simp only [num4, Int32.add_assoc]
  · exact absurd (by decide) c
theorem ssum_snoc (s : Int32) (bs : List Int32) (b : Int32) : ssum s (bs ++ [b]) = sgo (ssum s bs) b := by simp [ssum]
set_option maxRecDepth 100000 in
set_option maxHeartbeats 8000000 in
theorem l_BR_sum {G : xG} {d a cap e : Nat} {bs : List Int32} {s0 : Int32} {σ : xS} (h1 : brr G σ.1 a cap bs) (he : e ≤ bs.length) : ∀ (n j : Nat), j + n = e →
    xw G (d + 1) mX1_sum 5 [some (rf G a), some (.int s0), some (.int (nI e)), some (.int (ssum s0 (bs.take j))), some (.int (nI j))] [] σ (fun v σ' => v = some (.int (ssum s0 (bs.take e))) ∧ σ' = σ) := by
  have hl := h1.len
  intro n
  induction n with
  | zero =>
    intro j hj
    have : j = e := by omega
    subst this
    refine xgo 80 rfl ?_
    try simp only [xlo0, List.map_cons, List.map_nil, List.length_cons, List.length_nil, xrs, xr0, Nat.reduceAdd, Nat.reduceSub, List.cons_append, List.nil_append, List.set_cons_zero, List.set_cons_succ, Option.toList_none, Option.toList_some, nI_1]
    refine xi_icmpge rfl (fun c => ?_) (fun c => ?_)
    · refine xgo 80 rfl ?_
      try simp only [xlo0, List.map_cons, List.map_nil, List.length_cons, List.length_nil, xrs, xr0, Nat.reduceAdd, Nat.reduceSub, List.cons_append, List.nil_append, List.set_cons_zero, List.set_cons_succ, Option.toList_none, Option.toList_some, nI_1]
      refine xi_ret_i rfl rfl rfl ⟨rfl, rfl⟩
    · exact absurd (i_le.mpr (Int.le_refl _)) c
  | succ n ih =>
    intro j hj
    refine xgo 80 rfl ?_
    try simp only [xlo0, List.map_cons, List.map_nil, List.length_cons, List.length_nil, xrs, xr0, Nat.reduceAdd, Nat.reduceSub, List.cons_append, List.nil_append, List.set_cons_zero, List.set_cons_succ, Option.toList_none, Option.toList_some, nI_1]
    refine xi_icmpge rfl (fun c => ?_) (fun c => ?_)
    · exfalso
      rw [i_le, i_n (by omega), i_n (by omega)] at c
      omega
    · refine xgo 80 rfl ?_
      try simp only [xlo0, List.map_cons, List.map_nil, List.length_cons, List.length_nil, xrs, xr0, Nat.reduceAdd, Nat.reduceSub, List.cons_append, List.nil_append, List.set_cons_zero, List.set_cons_succ, Option.toList_none, Option.toList_some, nI_1]
      refine xcV 1 rfl rfl rfl (c_BR_at h1) rfl kX1_at iX1_at h1.obj ⟨_, rfl, rfl⟩ rfl rfl (Nat.le_of_ble_eq_true rfl) (fun v1 s1 q1 => ?_)
      obtain ⟨rfl, rfl⟩ := q1
      rw [bat_n (by omega)]
      refine xgo 80 rfl ?_
      try simp only [xlo0, List.map_cons, List.map_nil, List.length_cons, List.length_nil, xrs, xr0, Nat.reduceAdd, Nat.reduceSub, List.cons_append, List.nil_append, List.set_cons_zero, List.set_cons_succ, Option.toList_none, Option.toList_some, nI_1]
      refine xgo 80 rfl ?_
      try simp only [xlo0, List.map_cons, List.map_nil, List.length_cons, List.length_nil, xrs, xr0, Nat.reduceAdd, Nat.reduceSub, List.cons_append, List.nil_append, List.set_cons_zero, List.set_cons_succ, Option.toList_none, Option.toList_some, nI_1]
      refine xi_ldc rfl qX1_33 ?_
      refine xto 5 80 rfl ?_
      try simp only [xlo0, List.map_cons, List.map_nil, List.length_cons, List.length_nil, xrs, xr0, Nat.reduceAdd, Nat.reduceSub, List.cons_append, List.nil_append, List.set_cons_zero, List.set_cons_succ, Option.toList_none, Option.toList_some, nI_1]
      have e1 : bs.take (j + 1) = bs.take j ++ [bs.getD j (-1)] := by
        have := seg_snoc (os := bs) (i := 0) (j := j) (Nat.zero_le _) (by omega)
        simpa using this
      have := ih (j + 1) (by omega)
      rw [e1, ssum_snoc] at this
      exact this
set_option maxRecDepth 100000 in
set_option maxHeartbeats 8000000 in
theorem c_BR_sum {G : xG} {d a cap e : Nat} {bs : List Int32} {s0 : Int32} {σ : xS} (h1 : brr G σ.1 a cap bs) (he : e ≤ bs.length) : xm G (d + 1) mX1_sum [rf G a, .int s0, .int (nI e)] σ (fun v σ' => v = some (.int (ssum s0 (bs.take e))) ∧ σ' = σ) := by
  refine xm_at 5 rfl (by decide) (Nat.le_of_ble_eq_true rfl) (by simp [Value.category]) tX1_sum_ok ?_
  try simp only [xlo0, List.map_cons, List.map_nil, List.length_cons, List.length_nil, xrs, xr0, Nat.reduceAdd, Nat.reduceSub, List.cons_append, List.nil_append, List.set_cons_zero, List.set_cons_succ, Option.toList_none, Option.toList_some, nI_1]
  refine xto 5 80 rfl ?_
  try simp only [xlo0, List.map_cons, List.map_nil, List.length_cons, List.length_nil, xrs, xr0, Nat.reduceAdd, Nat.reduceSub, List.cons_append, List.nil_append, List.set_cons_zero, List.set_cons_succ, Option.toList_none, Option.toList_some, nI_1]
  exact l_BR_sum h1 he e 0 (by omega)
set_option maxRecDepth 100000 in
set_option maxHeartbeats 8000000 in
theorem c_BR_xor {G : xG} {d a cap : Nat} {bs : List Int32} {i m : Int32} {σ : xS} (h : brr G σ.1 a cap bs) (hi : bin bs.length i = true) : xm G (d + 1) mX1_xor [rf G a, .int i, .int m] σ (fun v σ' => v = none ∧ brr G σ'.1 a cap (bs.set i.toInt.toNat (bat bs i ^^^ m)) ∧ frz σ.1 σ'.1 a 2 ∧ σ'.2 = σ.2) := by
  have h' := h
  obtain ⟨xs, h1, h2, h3, h4, h5, h6⟩ := h
  have hi' : 0 ≤ i.toInt ∧ i.toInt < bs.length := by simpa [bin] using hi
  have z : (0 : Int32).toInt = 0 := rfl
  have hlt : i.toInt.toNat < bs.length := by omega
  have hg : xs[i.toNatClampNeg]? = some (bat bs i) := by
    rw [i_cl, take_get h5 hlt, bat, if_neg (by omega), List.getD_eq_getElem?_getD, List.getElem?_eq_getElem hlt]
    rfl
  refine xm_at 3 rfl (by decide) (Nat.le_of_ble_eq_true rfl) (by simp [Value.category]) tX1_xor_ok ?_
  try simp only [xlo0, List.map_cons, List.map_nil, List.length_cons, List.length_nil, xrs, xr0, Nat.reduceAdd, Nat.reduceSub, List.cons_append, List.nil_append, List.set_cons_zero, List.set_cons_succ, Option.toList_none, Option.toList_some, nI_1]
  refine xgo 80 rfl ?_
  try simp only [xlo0, List.map_cons, List.map_nil, List.length_cons, List.length_nil, xrs, xr0, Nat.reduceAdd, Nat.reduceSub, List.cons_append, List.nil_append, List.set_cons_zero, List.set_cons_succ, Option.toList_none, Option.toList_some, nI_1]
  refine xcV 1 rfl rfl rfl (c_BR_has h') rfl kX1_has iX1_has h1 ⟨_, rfl, rfl⟩ rfl rfl (Nat.le_of_ble_eq_true rfl) (fun v1 s1 q1 => ?_)
  obtain ⟨rfl, rfl⟩ := q1
  rw [if_pos hi]
  refine xgo 80 rfl ?_
  try simp only [xlo0, List.map_cons, List.map_nil, List.length_cons, List.length_nil, xrs, xr0, Nat.reduceAdd, Nat.reduceSub, List.cons_append, List.nil_append, List.set_cons_zero, List.set_cons_succ, Option.toList_none, Option.toList_some, nI_1]
  refine xi_ifeq rfl (fun c => ?_) (fun c => ?_)
  · exact absurd c (by decide)
  refine xgo 80 rfl ?_
  try simp only [xlo0, List.map_cons, List.map_nil, List.length_cons, List.length_nil, xrs, xr0, Nat.reduceAdd, Nat.reduceSub, List.cons_append, List.nil_append, List.set_cons_zero, List.set_cons_succ, Option.toList_none, Option.toList_some, nI_1]
  refine xg 1 rfl rfl rfl h1 rfl ?_
  refine xgo 80 rfl ?_
  try simp only [xlo0, List.map_cons, List.map_nil, List.length_cons, List.length_nil, xrs, xr0, Nat.reduceAdd, Nat.reduceSub, List.cons_append, List.nil_append, List.set_cons_zero, List.set_cons_succ, Option.toList_none, Option.toList_some, nI_1]
  refine xi_iald rfl h2 (by rw [i_lt]; omega) (vi_get hg) ?_
  refine xgo 80 rfl ?_
  try simp only [xlo0, List.map_cons, List.map_nil, List.length_cons, List.length_nil, xrs, xr0, Nat.reduceAdd, Nat.reduceSub, List.cons_append, List.nil_append, List.set_cons_zero, List.set_cons_succ, Option.toList_none, Option.toList_some, nI_1]
  refine xsi rfl h2 (by rw [i_lt]; omega) (by rw [vi_len, i_cl]; omega) (fun s2 n2 f2 e2 => ?_)
  have h1 := (f2 _ (by omega)).trans h1
  refine xgo 80 rfl ?_
  try simp only [xlo0, List.map_cons, List.map_nil, List.length_cons, List.length_nil, xrs, xr0, Nat.reduceAdd, Nat.reduceSub, List.cons_append, List.nil_append, List.set_cons_zero, List.set_cons_succ, Option.toList_none, Option.toList_some, nI_1]
  refine xi_ret_v rfl rfl ⟨rfl, ⟨xs.set i.toInt.toNat (bat bs i ^^^ m), by rw [List.length_set]; exact h1, by rw [n2, vi_set, i_cl], by rw [List.length_set]; exact h3, by rw [List.length_set]; exact h4, ?_, h6⟩, frz.one f2 (by omega) (by omega), e2⟩
  rw [List.length_set, List.take_set, h5]
set_option maxRecDepth 100000 in
set_option maxHeartbeats 8000000 in
theorem c_BR_keepFirst {G : xG} {d a cap n : Nat} {bs : List Int32} {σ : xS} (h : brr G σ.1 a cap bs) (hn : n ≤ bs.length) : xm G d mX1_keepFirst [rf G a, .int (nI n)] σ (fun v σ' => v = none ∧ brr G σ'.1 a cap (bs.take n) ∧ frz σ.1 σ'.1 a 2 ∧ σ'.2 = σ.2) := by
  have h' := h
  obtain ⟨xs, h1, h2, h3, h4, h5, h6⟩ := h
  have e1 : (nI n).toInt = n := i_n (by omega)
  have e2 : (nI bs.length).toInt = bs.length := i_n (by omega)
  have z : (0 : Int32).toInt = 0 := rfl
  refine xm_at 2 rfl (by decide) (Nat.le_of_ble_eq_true rfl) (by simp [Value.category]) tX1_keepFirst_ok ?_
  try simp only [xlo0, List.map_cons, List.map_nil, List.length_cons, List.length_nil, xrs, xr0, Nat.reduceAdd, Nat.reduceSub, List.cons_append, List.nil_append, List.set_cons_zero, List.set_cons_succ, Option.toList_none, Option.toList_some, nI_1]
  refine xgo 80 rfl ?_
  try simp only [xlo0, List.map_cons, List.map_nil, List.length_cons, List.length_nil, xrs, xr0, Nat.reduceAdd, Nat.reduceSub, List.cons_append, List.nil_append, List.set_cons_zero, List.set_cons_succ, Option.toList_none, Option.toList_some, nI_1]
  refine xi_iflt rfl (fun c => ?_) (fun c => ?_)
  · exact absurd c (by rw [i_lt]; omega)
  refine xgo 80 rfl ?_
  try simp only [xlo0, List.map_cons, List.map_nil, List.length_cons, List.length_nil, xrs, xr0, Nat.reduceAdd, Nat.reduceSub, List.cons_append, List.nil_append, List.set_cons_zero, List.set_cons_succ, Option.toList_none, Option.toList_some, nI_1]
  refine xg 1 rfl rfl rfl h1 rfl ?_
  refine xgo 80 rfl ?_
  try simp only [xlo0, List.map_cons, List.map_nil, List.length_cons, List.length_nil, xrs, xr0, Nat.reduceAdd, Nat.reduceSub, List.cons_append, List.nil_append, List.set_cons_zero, List.set_cons_succ, Option.toList_none, Option.toList_some, nI_1]
  refine xi_icmpge rfl (fun c1 => ?_) (fun c1 => ?_)
  · rw [i_le] at c1
    have : n = bs.length := by omega
    subst this
    refine xgo 80 rfl ?_
    try simp only [xlo0, List.map_cons, List.map_nil, List.length_cons, List.length_nil, xrs, xr0, Nat.reduceAdd, Nat.reduceSub, List.cons_append, List.nil_append, List.set_cons_zero, List.set_cons_succ, Option.toList_none, Option.toList_some, nI_1]
    refine xi_ret_v rfl rfl ⟨rfl, by rw [List.take_length]; exact h', frz.rf, rfl⟩
  · refine xgo 80 rfl ?_
    try simp only [xlo0, List.map_cons, List.map_nil, List.length_cons, List.length_nil, xrs, xr0, Nat.reduceAdd, Nat.reduceSub, List.cons_append, List.nil_append, List.set_cons_zero, List.set_cons_succ, Option.toList_none, Option.toList_some, nI_1]
    refine xp 1 rfl rfl rfl h1 rfl rfl rfl (fun s1 n1 f1 e1 => ?_)
    have h2 := (f1 _ (by omega)).trans h2
    refine xgo 80 rfl ?_
    try simp only [xlo0, List.map_cons, List.map_nil, List.length_cons, List.length_nil, xrs, xr0, Nat.reduceAdd, Nat.reduceSub, List.cons_append, List.nil_append, List.set_cons_zero, List.set_cons_succ, Option.toList_none, Option.toList_some, nI_1]
    refine xi_ret_v rfl rfl ⟨rfl, ⟨xs, by rw [n1, List.length_take, Nat.min_eq_left hn]; rfl, h2, h3, by simp; omega, ?_, h6⟩, frz.one f1 (by omega) (by omega), e1⟩
    rw [List.length_take, Nat.min_eq_left hn, ← h5, List.take_take, Nat.min_eq_left hn]
