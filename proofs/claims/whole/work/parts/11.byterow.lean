set_option maxRecDepth 100000 in
set_option maxHeartbeats 8000000 in
theorem c_isBelow {G : xG} {d : Nat} {x y : Int32} {σ : xS} : xm G d mX8_isBelow [.int x, .int y] σ (fun v σ' => v = some (.int (if 0 ≤ x.toInt ∧ x.toInt < y.toInt then 1 else 0)) ∧ σ' = σ) := by
  refine xm_at 2 rfl (by decide) (Nat.le_of_ble_eq_true rfl) (by simp [Value.category]) tX8_isBelow_ok ?_
  try simp only [xlo0, List.map_cons, List.map_nil, List.length_cons, List.length_nil, xrs, xr0, Nat.reduceAdd, Nat.reduceSub, List.cons_append, List.nil_append, List.set_cons_zero, List.set_cons_succ, Option.toList_none, Option.toList_some, nI_1]
  refine xgo 80 rfl ?_
  try simp only [xlo0, List.map_cons, List.map_nil, List.length_cons, List.length_nil, xrs, xr0, Nat.reduceAdd, Nat.reduceSub, List.cons_append, List.nil_append, List.set_cons_zero, List.set_cons_succ, Option.toList_none, Option.toList_some, nI_1]
  refine xi_iflt rfl (fun c => ?_) (fun c => ?_)
  · refine xgo 80 rfl ?_
    try simp only [xlo0, List.map_cons, List.map_nil, List.length_cons, List.length_nil, xrs, xr0, Nat.reduceAdd, Nat.reduceSub, List.cons_append, List.nil_append, List.set_cons_zero, List.set_cons_succ, Option.toList_none, Option.toList_some, nI_1]
    refine xi_ret_i rfl rfl (by decide) ⟨by rw [if_neg (by rw [i_lt] at c; have : (0 : Int32).toInt = 0 := rfl; omega)], rfl⟩
  · refine xgo 80 rfl ?_
    try simp only [xlo0, List.map_cons, List.map_nil, List.length_cons, List.length_nil, xrs, xr0, Nat.reduceAdd, Nat.reduceSub, List.cons_append, List.nil_append, List.set_cons_zero, List.set_cons_succ, Option.toList_none, Option.toList_some, nI_1]
    refine xi_icmpge rfl (fun c1 => ?_) (fun c1 => ?_)
    · refine xgo 80 rfl ?_
      try simp only [xlo0, List.map_cons, List.map_nil, List.length_cons, List.length_nil, xrs, xr0, Nat.reduceAdd, Nat.reduceSub, List.cons_append, List.nil_append, List.set_cons_zero, List.set_cons_succ, Option.toList_none, Option.toList_some, nI_1]
      refine xi_ret_i rfl rfl (by decide) ⟨by rw [if_neg (by rw [i_le] at c1; omega)], rfl⟩
    · refine xgo 80 rfl ?_
      try simp only [xlo0, List.map_cons, List.map_nil, List.length_cons, List.length_nil, xrs, xr0, Nat.reduceAdd, Nat.reduceSub, List.cons_append, List.nil_append, List.set_cons_zero, List.set_cons_succ, Option.toList_none, Option.toList_some, nI_1]
      refine xi_ret_i rfl rfl (by decide) ⟨by rw [if_pos (by rw [i_le] at c1; rw [i_lt] at c; have : (0 : Int32).toInt = 0 := rfl; omega)], rfl⟩
set_option maxRecDepth 100000 in
set_option maxHeartbeats 8000000 in
theorem c_BR_init {G : xG} {d a : Nat} {room : Int32} {fs : List Value} {σ : xS} (h : σ.1 a = some (1, [fs.head!, .int 0])) (h0 : 0 ≤ room.toInt) (h1 : room.toInt < 100000) (ha : a < σ.2.1) : xm G (d + 1) mX1_init [rf G a, .int room] σ (fun v σ' => v = none ∧ σ'.1 a = some (1, [rf G σ.2.1, .int 0]) ∧ σ'.1 σ.2.1 = some (11, List.replicate room.toInt.toNat (.int 0)) ∧ (∀ q, q ≠ a → q ≠ σ.2.1 → σ'.1 q = σ.1 q) ∧ σ'.2.1 = σ.2.1 + 1 ∧ σ'.2.2 = σ.2.2 + room.toInt.toNat) := by
  refine xm_at 2 rfl (by decide) (Nat.le_of_ble_eq_true rfl) (by simp [Value.category]) tX1_init_ok ?_
  try simp only [xlo0, List.map_cons, List.map_nil, List.length_cons, List.length_nil, xrs, xr0, Nat.reduceAdd, Nat.reduceSub, List.cons_append, List.nil_append, List.set_cons_zero, List.set_cons_succ, Option.toList_none, Option.toList_some, nI_1]
  refine xgo 80 rfl ?_
  try simp only [xlo0, List.map_cons, List.map_nil, List.length_cons, List.length_nil, xrs, xr0, Nat.reduceAdd, Nat.reduceSub, List.cons_append, List.nil_append, List.set_cons_zero, List.set_cons_succ, Option.toList_none, Option.toList_some, nI_1]
  refine xi_obj rfl oX1 (Nat.le_of_ble_eq_true rfl) ?_
  refine xgo 80 rfl ?_
  try simp only [xlo0, List.map_cons, List.map_nil, List.length_cons, List.length_nil, xrs, xr0, Nat.reduceAdd, Nat.reduceSub, List.cons_append, List.nil_append, List.set_cons_zero, List.set_cons_succ, Option.toList_none, Option.toList_some, nI_1]
  refine xi_max rfl gX1_9 (Nat.le_of_ble_eq_true rfl) ?_
  have hr : (if room < 0 then (0 : Int32) else room) = room := if_neg (by rw [i_lt]; have : (0 : Int32).toInt = 0 := rfl; omega)
  rw [hr]
  refine xgo 80 rfl ?_
  try simp only [xlo0, List.map_cons, List.map_nil, List.length_cons, List.length_nil, xrs, xr0, Nat.reduceAdd, Nat.reduceSub, List.cons_append, List.nil_append, List.set_cons_zero, List.set_cons_succ, Option.toList_none, Option.toList_some, nI_1]
  refine xi_newa (t := 11) (atype := .int) rfl rfl (by decide) (by decide) rfl a_11 (by rw [i_lt]; have : (0 : Int32).toInt = 0 := rfl; omega) rfl (by rw [i_cl]; omega) ?_
  have hn : (xnew σ (11, List.replicate room.toNatClampNeg (.int 0)) room.toNatClampNeg).1 a = some (1, [fs.head!, .int 0]) := (if_neg (by omega)).trans h
  refine xgo 80 rfl ?_
  try simp only [xlo0, List.map_cons, List.map_nil, List.length_cons, List.length_nil, xrs, xr0, Nat.reduceAdd, Nat.reduceSub, List.cons_append, List.nil_append, List.set_cons_zero, List.set_cons_succ, Option.toList_none, Option.toList_some, nI_1]
  refine xpF rfl fX1_15F rfl hn rfl rfl rfl (fun s2 n2 f2 e2 => ?_)
  refine xgo 80 rfl ?_
  try simp only [xlo0, List.map_cons, List.map_nil, List.length_cons, List.length_nil, xrs, xr0, Nat.reduceAdd, Nat.reduceSub, List.cons_append, List.nil_append, List.set_cons_zero, List.set_cons_succ, Option.toList_none, Option.toList_some, nI_1]
  refine xi_ret_v rfl rfl ⟨rfl, n2, (f2 _ (by omega)).trans (if_pos rfl), fun q h1 h2 => (f2 q h1).trans (if_neg h2), congrArg Prod.fst e2, congrArg Prod.snd e2⟩
set_option maxRecDepth 100000 in
set_option maxHeartbeats 8000000 in
theorem c_BR_has {G : xG} {d a cap : Nat} {bs : List Int32} {i : Int32} {σ : xS} (h : brr G σ.1 a cap bs) : xm G d mX1_has [rf G a, .int i] σ (fun v σ' => v = some (.int (if bin bs.length i then 1 else 0)) ∧ σ' = σ) := by
  obtain ⟨xs, h1, h2, h3, h4, h5, h6⟩ := h
  have hn : (nI bs.length).toInt = bs.length := i_n (by omega)
  have z : (0 : Int32).toInt = 0 := rfl
  refine xm_at 2 rfl (by decide) (Nat.le_of_ble_eq_true rfl) (by simp [Value.category]) tX1_has_ok ?_
  try simp only [xlo0, List.map_cons, List.map_nil, List.length_cons, List.length_nil, xrs, xr0, Nat.reduceAdd, Nat.reduceSub, List.cons_append, List.nil_append, List.set_cons_zero, List.set_cons_succ, Option.toList_none, Option.toList_some, nI_1]
  refine xgo 80 rfl ?_
  try simp only [xlo0, List.map_cons, List.map_nil, List.length_cons, List.length_nil, xrs, xr0, Nat.reduceAdd, Nat.reduceSub, List.cons_append, List.nil_append, List.set_cons_zero, List.set_cons_succ, Option.toList_none, Option.toList_some, nI_1]
  refine xi_iflt rfl (fun c => ?_) (fun c => ?_)
  · refine xgo 80 rfl ?_
    try simp only [xlo0, List.map_cons, List.map_nil, List.length_cons, List.length_nil, xrs, xr0, Nat.reduceAdd, Nat.reduceSub, List.cons_append, List.nil_append, List.set_cons_zero, List.set_cons_succ, Option.toList_none, Option.toList_some, nI_1]
    refine xi_ret_i rfl rfl (by decide) ⟨by rw [if_neg (by rw [i_lt] at c; simp [bin]; omega)], rfl⟩
  · refine xgo 80 rfl ?_
    try simp only [xlo0, List.map_cons, List.map_nil, List.length_cons, List.length_nil, xrs, xr0, Nat.reduceAdd, Nat.reduceSub, List.cons_append, List.nil_append, List.set_cons_zero, List.set_cons_succ, Option.toList_none, Option.toList_some, nI_1]
    refine xg 1 rfl rfl rfl h1 rfl ?_
    refine xgo 80 rfl ?_
    try simp only [xlo0, List.map_cons, List.map_nil, List.length_cons, List.length_nil, xrs, xr0, Nat.reduceAdd, Nat.reduceSub, List.cons_append, List.nil_append, List.set_cons_zero, List.set_cons_succ, Option.toList_none, Option.toList_some, nI_1]
    refine xi_icmpge rfl (fun c1 => ?_) (fun c1 => ?_)
    · refine xgo 80 rfl ?_
      try simp only [xlo0, List.map_cons, List.map_nil, List.length_cons, List.length_nil, xrs, xr0, Nat.reduceAdd, Nat.reduceSub, List.cons_append, List.nil_append, List.set_cons_zero, List.set_cons_succ, Option.toList_none, Option.toList_some, nI_1]
      refine xi_ret_i rfl rfl (by decide) ⟨by rw [if_neg (by rw [i_le] at c1; simp [bin]; omega)], rfl⟩
    · refine xgo 80 rfl ?_
      try simp only [xlo0, List.map_cons, List.map_nil, List.length_cons, List.length_nil, xrs, xr0, Nat.reduceAdd, Nat.reduceSub, List.cons_append, List.nil_append, List.set_cons_zero, List.set_cons_succ, Option.toList_none, Option.toList_some, nI_1]
      refine xi_ret_i rfl rfl (by decide) ⟨by rw [if_pos (by rw [i_le] at c1; rw [i_lt] at c; simp [bin]; omega)], rfl⟩
set_option maxRecDepth 100000 in
set_option maxHeartbeats 8000000 in
theorem c_BR_at {G : xG} {d a cap : Nat} {bs : List Int32} {i : Int32} {σ : xS} (h : brr G σ.1 a cap bs) : xm G d mX1_at [rf G a, .int i] σ (fun v σ' => v = some (.int (bat bs i)) ∧ σ' = σ) := by
  obtain ⟨xs, h1, h2, h3, h4, h5, h6⟩ := h
  have hn : (nI bs.length).toInt = bs.length := i_n (by omega)
  have z : (0 : Int32).toInt = 0 := rfl
  refine xm_at 2 rfl (by decide) (Nat.le_of_ble_eq_true rfl) (by simp [Value.category]) tX1_at_ok ?_
  try simp only [xlo0, List.map_cons, List.map_nil, List.length_cons, List.length_nil, xrs, xr0, Nat.reduceAdd, Nat.reduceSub, List.cons_append, List.nil_append, List.set_cons_zero, List.set_cons_succ, Option.toList_none, Option.toList_some, nI_1]
  refine xgo 80 rfl ?_
  try simp only [xlo0, List.map_cons, List.map_nil, List.length_cons, List.length_nil, xrs, xr0, Nat.reduceAdd, Nat.reduceSub, List.cons_append, List.nil_append, List.set_cons_zero, List.set_cons_succ, Option.toList_none, Option.toList_some, nI_1]
  refine xi_iflt rfl (fun c => ?_) (fun c => ?_)
  · refine xgo 80 rfl ?_
    try simp only [xlo0, List.map_cons, List.map_nil, List.length_cons, List.length_nil, xrs, xr0, Nat.reduceAdd, Nat.reduceSub, List.cons_append, List.nil_append, List.set_cons_zero, List.set_cons_succ, Option.toList_none, Option.toList_some, nI_1]
    refine xi_ret_i rfl rfl rfl ⟨by rw [bat_out (by rw [i_lt] at c; omega)], rfl⟩
  · refine xgo 80 rfl ?_
    try simp only [xlo0, List.map_cons, List.map_nil, List.length_cons, List.length_nil, xrs, xr0, Nat.reduceAdd, Nat.reduceSub, List.cons_append, List.nil_append, List.set_cons_zero, List.set_cons_succ, Option.toList_none, Option.toList_some, nI_1]
    refine xg 1 rfl rfl rfl h1 rfl ?_
    refine xgo 80 rfl ?_
    try simp only [xlo0, List.map_cons, List.map_nil, List.length_cons, List.length_nil, xrs, xr0, Nat.reduceAdd, Nat.reduceSub, List.cons_append, List.nil_append, List.set_cons_zero, List.set_cons_succ, Option.toList_none, Option.toList_some, nI_1]
    refine xi_icmpge rfl (fun c1 => ?_) (fun c1 => ?_)
    · refine xgo 80 rfl ?_
      try simp only [xlo0, List.map_cons, List.map_nil, List.length_cons, List.length_nil, xrs, xr0, Nat.reduceAdd, Nat.reduceSub, List.cons_append, List.nil_append, List.set_cons_zero, List.set_cons_succ, Option.toList_none, Option.toList_some, nI_1]
      refine xi_ret_i rfl rfl rfl ⟨by rw [bat_out (by rw [i_le] at c1; omega)], rfl⟩
    · rw [i_le] at c1
      rw [i_lt] at c
      have hi : i.toInt.toNat < bs.length := by omega
      have hg : xs[i.toNatClampNeg]? = some (bat bs i) := by
        rw [i_cl, take_get h5 hi, bat, if_neg (by omega), List.getD_eq_getElem?_getD, List.getElem?_eq_getElem hi]
        rfl
      refine xgo 80 rfl ?_
      try simp only [xlo0, List.map_cons, List.map_nil, List.length_cons, List.length_nil, xrs, xr0, Nat.reduceAdd, Nat.reduceSub, List.cons_append, List.nil_append, List.set_cons_zero, List.set_cons_succ, Option.toList_none, Option.toList_some, nI_1]
      refine xg 1 rfl rfl rfl h1 rfl ?_
      refine xgo 80 rfl ?_
      try simp only [xlo0, List.map_cons, List.map_nil, List.length_cons, List.length_nil, xrs, xr0, Nat.reduceAdd, Nat.reduceSub, List.cons_append, List.nil_append, List.set_cons_zero, List.set_cons_succ, Option.toList_none, Option.toList_some, nI_1]
      refine xi_iald rfl h2 (by rw [i_lt]; omega) (vi_get hg) ?_
      refine xgo 80 rfl ?_
      try simp only [xlo0, List.map_cons, List.map_nil, List.length_cons, List.length_nil, xrs, xr0, Nat.reduceAdd, Nat.reduceSub, List.cons_append, List.nil_append, List.set_cons_zero, List.set_cons_succ, Option.toList_none, Option.toList_some, nI_1]
      refine xi_ret_i rfl rfl rfl ⟨rfl, rfl⟩
set_option maxRecDepth 100000 in
set_option maxHeartbeats 8000000 in
theorem c_BR_clear {G : xG} {d a cap : Nat} {bs : List Int32} {σ : xS} (h : brr G σ.1 a cap bs) : xm G d mX1_clear [rf G a] σ (fun v σ' => v = none ∧ brr G σ'.1 a cap [] ∧ frz σ.1 σ'.1 a 2 ∧ σ'.2 = σ.2) := by
  obtain ⟨xs, h1, h2, h3, h4, h5, h6⟩ := h
  refine xm_at 1 rfl (by decide) (Nat.le_of_ble_eq_true rfl) (by simp [Value.category]) tX1_clear_ok ?_
  try simp only [xlo0, List.map_cons, List.map_nil, List.length_cons, List.length_nil, xrs, xr0, Nat.reduceAdd, Nat.reduceSub, List.cons_append, List.nil_append, List.set_cons_zero, List.set_cons_succ, Option.toList_none, Option.toList_some, nI_1]
  refine xgo 80 rfl ?_
  try simp only [xlo0, List.map_cons, List.map_nil, List.length_cons, List.length_nil, xrs, xr0, Nat.reduceAdd, Nat.reduceSub, List.cons_append, List.nil_append, List.set_cons_zero, List.set_cons_succ, Option.toList_none, Option.toList_some, nI_1]
  refine xp 1 rfl rfl rfl h1 rfl rfl rfl (fun s1 n1 f1 e1 => ?_)
  have h2 := (f1 _ (by omega)).trans h2
  refine xgo 80 rfl ?_
  try simp only [xlo0, List.map_cons, List.map_nil, List.length_cons, List.length_nil, xrs, xr0, Nat.reduceAdd, Nat.reduceSub, List.cons_append, List.nil_append, List.set_cons_zero, List.set_cons_succ, Option.toList_none, Option.toList_some, nI_1]
  refine xi_ret_v rfl rfl ⟨rfl, ⟨xs, n1, h2, h3, by simp, by simp, h6⟩, frz.one f1 (by omega) (by omega), e1⟩
set_option maxRecDepth 100000 in
set_option maxHeartbeats 8000000 in
theorem c_BR_push {G : xG} {d a cap : Nat} {bs : List Int32} {b : Int32} {σ : xS} (h : brr G σ.1 a cap bs) (hb : bs.length < cap) : xm G d mX1_push [rf G a, .int b] σ (fun v σ' => v = none ∧ brr G σ'.1 a cap (bs ++ [b]) ∧ frz σ.1 σ'.1 a 2 ∧ σ'.2 = σ.2) := by
  obtain ⟨xs, h1, h2, h3, h4, h5, h6⟩ := h
  have hcl : (nI bs.length).toNatClampNeg = bs.length := nI_clamp (by omega)
  refine xm_at 2 rfl (by decide) (Nat.le_of_ble_eq_true rfl) (by simp [Value.category]) tX1_push_ok ?_
  try simp only [xlo0, List.map_cons, List.map_nil, List.length_cons, List.length_nil, xrs, xr0, Nat.reduceAdd, Nat.reduceSub, List.cons_append, List.nil_append, List.set_cons_zero, List.set_cons_succ, Option.toList_none, Option.toList_some, nI_1]
  refine xgo 80 rfl ?_
  try simp only [xlo0, List.map_cons, List.map_nil, List.length_cons, List.length_nil, xrs, xr0, Nat.reduceAdd, Nat.reduceSub, List.cons_append, List.nil_append, List.set_cons_zero, List.set_cons_succ, Option.toList_none, Option.toList_some, nI_1]
  refine xg 1 rfl rfl rfl h1 rfl ?_
  refine xgo 80 rfl ?_
  try simp only [xlo0, List.map_cons, List.map_nil, List.length_cons, List.length_nil, xrs, xr0, Nat.reduceAdd, Nat.reduceSub, List.cons_append, List.nil_append, List.set_cons_zero, List.set_cons_succ, Option.toList_none, Option.toList_some, nI_1]
  refine xg 1 rfl rfl rfl h1 rfl ?_
  refine xgo 80 rfl ?_
  try simp only [xlo0, List.map_cons, List.map_nil, List.length_cons, List.length_nil, xrs, xr0, Nat.reduceAdd, Nat.reduceSub, List.cons_append, List.nil_append, List.set_cons_zero, List.set_cons_succ, Option.toList_none, Option.toList_some, nI_1]
  refine xi_alen rfl h2 (by decide) rfl ?_
  refine xgo 80 rfl ?_
  try simp only [xlo0, List.map_cons, List.map_nil, List.length_cons, List.length_nil, xrs, xr0, Nat.reduceAdd, Nat.reduceSub, List.cons_append, List.nil_append, List.set_cons_zero, List.set_cons_succ, Option.toList_none, Option.toList_some, nI_1]
  refine xi_icmpge rfl (fun c => ?_) (fun c => ?_)
  · exfalso
    rw [vi_len, h3] at c
    exact nI_ge hb (by omega) c
  refine xgo 80 rfl ?_
  try simp only [xlo0, List.map_cons, List.map_nil, List.length_cons, List.length_nil, xrs, xr0, Nat.reduceAdd, Nat.reduceSub, List.cons_append, List.nil_append, List.set_cons_zero, List.set_cons_succ, Option.toList_none, Option.toList_some, nI_1]
  refine xg 1 rfl rfl rfl h1 rfl ?_
  refine xgo 80 rfl ?_
  try simp only [xlo0, List.map_cons, List.map_nil, List.length_cons, List.length_nil, xrs, xr0, Nat.reduceAdd, Nat.reduceSub, List.cons_append, List.nil_append, List.set_cons_zero, List.set_cons_succ, Option.toList_none, Option.toList_some, nI_1]
  refine xg 1 rfl rfl rfl h1 rfl ?_
  refine xgo 80 rfl ?_
  try simp only [xlo0, List.map_cons, List.map_nil, List.length_cons, List.length_nil, xrs, xr0, Nat.reduceAdd, Nat.reduceSub, List.cons_append, List.nil_append, List.set_cons_zero, List.set_cons_succ, Option.toList_none, Option.toList_some, nI_1]
  refine xsi rfl h2 (nI_pos (by omega)) (by rw [hcl, vi_len]; omega) (fun s1 n1 f1 e1 => ?_)
  have h1 := (f1 _ (by omega)).trans h1
  refine xgo 80 rfl ?_
  try simp only [xlo0, List.map_cons, List.map_nil, List.length_cons, List.length_nil, xrs, xr0, Nat.reduceAdd, Nat.reduceSub, List.cons_append, List.nil_append, List.set_cons_zero, List.set_cons_succ, Option.toList_none, Option.toList_some, nI_1]
  refine xg 1 rfl rfl rfl h1 rfl ?_
  refine xgo 80 rfl ?_
  try simp only [xlo0, List.map_cons, List.map_nil, List.length_cons, List.length_nil, xrs, xr0, Nat.reduceAdd, Nat.reduceSub, List.cons_append, List.nil_append, List.set_cons_zero, List.set_cons_succ, Option.toList_none, Option.toList_some, nI_1]
  refine xp 1 rfl rfl rfl h1 rfl rfl rfl (fun s2 n2 f2 e2 => ?_)
  have n1 := (f2 _ (by omega)).trans n1
  refine xgo 80 rfl ?_
  try simp only [xlo0, List.map_cons, List.map_nil, List.length_cons, List.length_nil, xrs, xr0, Nat.reduceAdd, Nat.reduceSub, List.cons_append, List.nil_append, List.set_cons_zero, List.set_cons_succ, Option.toList_none, Option.toList_some, nI_1]
  refine xi_ret_v rfl rfl ⟨rfl, ⟨xs.set bs.length b, ?_, ?_, by simp [h3], by simp; omega, take_snoc h5 (by omega), h6⟩, (frz.one f1 (by omega) (by omega)).tr (frz.one f2 (by omega) (by omega)), e2.trans e1⟩
  · rw [n2]
    simp [nI_1]
  · rw [n1, hcl, vi_set]
