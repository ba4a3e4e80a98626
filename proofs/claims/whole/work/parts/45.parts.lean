set_option maxRecDepth 100000 in
set_option maxHeartbeats 2000000 in
theorem c_PP_isPartSize {G : xG} {d : Nat} {x : Int32} {σ : xS} : xm G d mX8_isPartSize [.int x] σ (fun v σ' => v = some (.int (if 8 ≤ x.toInt ∧ x.toInt ≤ 100 then 1 else 0)) ∧ σ' = σ) := by
  have z8 : (8 : Int32).toInt = 8 := rfl
  have z100 : (100 : Int32).toInt = 100 := rfl
  refine xm_at 1 rfl (by decide) (Nat.le_of_ble_eq_true rfl) (by simp [Value.category]) tX8_isPartSize_ok ?_
  try simp only [xlo0, List.map_cons, List.map_nil, List.length_cons, List.length_nil, xrs, xr0, Nat.reduceAdd, Nat.reduceSub, List.cons_append, List.nil_append, List.set_cons_zero, List.set_cons_succ, Option.toList_none, Option.toList_some, nI_1]
  refine xgo 80 rfl ?_
  try simp only [xlo0, List.map_cons, List.map_nil, List.length_cons, List.length_nil, xrs, xr0, Nat.reduceAdd, Nat.reduceSub, List.cons_append, List.nil_append, List.set_cons_zero, List.set_cons_succ, Option.toList_none, Option.toList_some, nI_1]
  refine xi_icmplt rfl (fun c => ?_) (fun c => ?_)
  · refine xgo 80 rfl ?_
    try simp only [xlo0, List.map_cons, List.map_nil, List.length_cons, List.length_nil, xrs, xr0, Nat.reduceAdd, Nat.reduceSub, List.cons_append, List.nil_append, List.set_cons_zero, List.set_cons_succ, Option.toList_none, Option.toList_some, nI_1]
    refine xi_ret_i rfl rfl (by decide) ⟨by rw [if_neg (by rw [i_lt] at c; omega)], rfl⟩
  · refine xgo 80 rfl ?_
    try simp only [xlo0, List.map_cons, List.map_nil, List.length_cons, List.length_nil, xrs, xr0, Nat.reduceAdd, Nat.reduceSub, List.cons_append, List.nil_append, List.set_cons_zero, List.set_cons_succ, Option.toList_none, Option.toList_some, nI_1]
    refine xi_icmpgt rfl (fun c1 => ?_) (fun c1 => ?_)
    · refine xgo 80 rfl ?_
      try simp only [xlo0, List.map_cons, List.map_nil, List.length_cons, List.length_nil, xrs, xr0, Nat.reduceAdd, Nat.reduceSub, List.cons_append, List.nil_append, List.set_cons_zero, List.set_cons_succ, Option.toList_none, Option.toList_some, nI_1]
      refine xi_ret_i rfl rfl (by decide) ⟨by rw [if_neg (by rw [i_lt] at c1; omega)], rfl⟩
    · refine xgo 80 rfl ?_
      try simp only [xlo0, List.map_cons, List.map_nil, List.length_cons, List.length_nil, xrs, xr0, Nat.reduceAdd, Nat.reduceSub, List.cons_append, List.nil_append, List.set_cons_zero, List.set_cons_succ, Option.toList_none, Option.toList_some, nI_1]
      refine xi_ret_i rfl rfl (by decide) ⟨by rw [if_pos (by rw [i_lt] at c1 c; omega)], rfl⟩
def pcnt (n m : Nat) : Nat := (n + m - 1) / m
theorem nI_div {a b : Nat} (ha : a < 2 ^ 31) (hb : b < 2 ^ 31) : nI a / nI b = nI (a / b) := (Int32.ofNat_div ha hb).symm
theorem nI_mulN (a b : Nat) : nI a * nI b = nI (a * b) := (Int32.ofNat_mul a b).symm
set_option maxRecDepth 100000 in
set_option maxHeartbeats 2000000 in
theorem c_PP_partCount {G : xG} {d n m : Nat} {σ : xS} (hn : n < 100000) (hm : 1 ≤ m) (hm2 : m ≤ 100) : xm G d mX8_partCount [.int (nI n), .int (nI m)] σ (fun v σ' => v = some (.int (nI (pcnt n m))) ∧ σ' = σ) := by
  have z1 : (1 : Int32).toInt = 1 := rfl
  have e1 : nI (n + m) - 1 = nI (n + m - 1) := nI_subN (b := 1) (by omega)
  refine xm_at 2 rfl (by decide) (Nat.le_of_ble_eq_true rfl) (by simp [Value.category]) tX8_partCount_ok ?_
  try simp only [xlo0, List.map_cons, List.map_nil, List.length_cons, List.length_nil, xrs, xr0, Nat.reduceAdd, Nat.reduceSub, List.cons_append, List.nil_append, List.set_cons_zero, List.set_cons_succ, Option.toList_none, Option.toList_some, nI_1]
  refine xgo 80 rfl ?_
  try simp only [xlo0, List.map_cons, List.map_nil, List.length_cons, List.length_nil, xrs, xr0, Nat.reduceAdd, Nat.reduceSub, List.cons_append, List.nil_append, List.set_cons_zero, List.set_cons_succ, Option.toList_none, Option.toList_some, nI_1]
  refine xi_icmpge rfl (fun c => ?_) (fun c => ?_)
  · refine xgo 80 rfl ?_
    try simp only [xlo0, List.map_cons, List.map_nil, List.length_cons, List.length_nil, xrs, xr0, Nat.reduceAdd, Nat.reduceSub, List.cons_append, List.nil_append, List.set_cons_zero, List.set_cons_succ, Option.toList_none, Option.toList_some, nI_1]
    rw [nI_addN, e1]
    refine xgo 80 rfl ?_
    try simp only [xlo0, List.map_cons, List.map_nil, List.length_cons, List.length_nil, xrs, xr0, Nat.reduceAdd, Nat.reduceSub, List.cons_append, List.nil_append, List.set_cons_zero, List.set_cons_succ, Option.toList_none, Option.toList_some, nI_1]
    refine xi_idiv rfl (by rw [i_eq, i_n (by omega)]; have : (0 : Int32).toInt = 0 := rfl; omega) ?_
    rw [nI_div (by omega) (by omega)]
    refine xgo 80 rfl ?_
    try simp only [xlo0, List.map_cons, List.map_nil, List.length_cons, List.length_nil, xrs, xr0, Nat.reduceAdd, Nat.reduceSub, List.cons_append, List.nil_append, List.set_cons_zero, List.set_cons_succ, Option.toList_none, Option.toList_some, nI_1]
    refine xi_ret_i rfl rfl rfl ⟨rfl, rfl⟩
  · exact absurd (by rw [i_le, i_n (by omega)]; omega) c
def F_parts (p s : Int32) (Z : pZ) : Int32 × pZ := match pget Z.2.2.1 p with
  | none => (-1, Z)
  | some x => if 8 ≤ s.toInt ∧ s.toInt ≤ 100 then (nI (pcnt x.2.2.length s.toInt.toNat), Z) else (-1, Z)
set_option maxRecDepth 100000 in
set_option maxHeartbeats 2000000 in
theorem c_PP_parts {G : xG} {d rc : Nat} {own : Nat → Nat} {p s : Int32} {Z : pZ} {σ : xS} (h : pw G σ own rc Z) : xm G (d + 20) mX8_parts [rf G 0, .int p, .int s] σ (ppost G σ (F_parts p s Z)) := by
  unfold F_parts
  cases hp : pget Z.2.2.1 p with
  | none =>
    refine xm_at 4 rfl (by decide) (Nat.le_of_ble_eq_true rfl) (by simp [Value.category]) tX8_parts_ok ?_
    try simp only [xlo0, List.map_cons, List.map_nil, List.length_cons, List.length_nil, xrs, xr0, Nat.reduceAdd, Nat.reduceSub, List.cons_append, List.nil_append, List.set_cons_zero, List.set_cons_succ, Option.toList_none, Option.toList_some, nI_1]
    refine xgo 80 rfl ?_
    try simp only [xlo0, List.map_cons, List.map_nil, List.length_cons, List.length_nil, xrs, xr0, Nat.reduceAdd, Nat.reduceSub, List.cons_append, List.nil_append, List.set_cons_zero, List.set_cons_succ, Option.toList_none, Option.toList_some, nI_1]
    refine xcV 8 rfl rfl rfl (c_PP_packAtN h hp) rfl kX8_packAt iX8_packAt h.obj ⟨_, rfl, rfl⟩ rfl rfl (Nat.le_of_ble_eq_true rfl) (fun v1 s1 q1 => ?_)
    obtain ⟨rfl, rfl⟩ := q1
    refine xgo 80 rfl ?_
    try simp only [xlo0, List.map_cons, List.map_nil, List.length_cons, List.length_nil, xrs, xr0, Nat.reduceAdd, Nat.reduceSub, List.cons_append, List.nil_append, List.set_cons_zero, List.set_cons_succ, Option.toList_none, Option.toList_some, nI_1]
    refine xi_ifnull_n rfl ?_
    refine xgo 80 rfl ?_
    try simp only [xlo0, List.map_cons, List.map_nil, List.length_cons, List.length_nil, xrs, xr0, Nat.reduceAdd, Nat.reduceSub, List.cons_append, List.nil_append, List.set_cons_zero, List.set_cons_succ, Option.toList_none, Option.toList_some, nI_1]
    refine xi_ret_i rfl rfl rfl (ppost.same h rfl)
  | some x =>
    obtain ⟨j, rfl, hj, -⟩ := pget_s hp h.2.2.1.1
    obtain ⟨-, ar, -, -, b3⟩ := id h.2.2.1
    have hx := (b3 j x hj).2.1
    have hxl := hx.len
    dsimp only
    refine xm_at 4 rfl (by decide) (Nat.le_of_ble_eq_true rfl) (by simp [Value.category]) tX8_parts_ok ?_
    try simp only [xlo0, List.map_cons, List.map_nil, List.length_cons, List.length_nil, xrs, xr0, Nat.reduceAdd, Nat.reduceSub, List.cons_append, List.nil_append, List.set_cons_zero, List.set_cons_succ, Option.toList_none, Option.toList_some, nI_1]
    refine xgo 80 rfl ?_
    try simp only [xlo0, List.map_cons, List.map_nil, List.length_cons, List.length_nil, xrs, xr0, Nat.reduceAdd, Nat.reduceSub, List.cons_append, List.nil_append, List.set_cons_zero, List.set_cons_succ, Option.toList_none, Option.toList_some, nI_1]
    refine xcV 8 rfl rfl rfl (c_PP_packAt h hj) rfl kX8_packAt iX8_packAt h.obj ⟨_, rfl, rfl⟩ rfl rfl (Nat.le_of_ble_eq_true rfl) (fun v1 s1 q1 => ?_)
    obtain ⟨rfl, rfl⟩ := q1
    refine xgo 80 rfl ?_
    try simp only [xlo0, List.map_cons, List.map_nil, List.length_cons, List.length_nil, xrs, xr0, Nat.reduceAdd, Nat.reduceSub, List.cons_append, List.nil_append, List.set_cons_zero, List.set_cons_succ, Option.toList_none, Option.toList_some, nI_1]
    refine xi_ifnull_r rfl ?_
    refine xgo 80 rfl ?_
    try simp only [xlo0, List.map_cons, List.map_nil, List.length_cons, List.length_nil, xrs, xr0, Nat.reduceAdd, Nat.reduceSub, List.cons_append, List.nil_append, List.set_cons_zero, List.set_cons_succ, Option.toList_none, Option.toList_some, nI_1]
    refine xcS 8 rfl rfl rfl c_PP_isPartSize rfl kX8_isPartSize iX8_isPartSize rfl rfl (Nat.le_of_ble_eq_true rfl) (fun v2 s2 q2 => ?_)
    obtain ⟨rfl, rfl⟩ := q2
    refine xgo 80 rfl ?_
    try simp only [xlo0, List.map_cons, List.map_nil, List.length_cons, List.length_nil, xrs, xr0, Nat.reduceAdd, Nat.reduceSub, List.cons_append, List.nil_append, List.set_cons_zero, List.set_cons_succ, Option.toList_none, Option.toList_some, nI_1]
    refine xi_ifne rfl (fun c1 => ?_) (fun c1 => ?_)
    · simp only [one_z, Classical.not_not] at c1
      rw [if_pos c1]
      refine xgo 80 rfl ?_
      try simp only [xlo0, List.map_cons, List.map_nil, List.length_cons, List.length_nil, xrs, xr0, Nat.reduceAdd, Nat.reduceSub, List.cons_append, List.nil_append, List.set_cons_zero, List.set_cons_succ, Option.toList_none, Option.toList_some, nI_1]
      refine xg 8 rfl rfl rfl hx.obj rfl ?_
      refine xgo 80 rfl ?_
      try simp only [xlo0, List.map_cons, List.map_nil, List.length_cons, List.length_nil, xrs, xr0, Nat.reduceAdd, Nat.reduceSub, List.cons_append, List.nil_append, List.set_cons_zero, List.set_cons_succ, Option.toList_none, Option.toList_some, nI_1]
      rw [toN (x := s) (by omega)]
      refine xgo 80 rfl ?_
      try simp only [xlo0, List.map_cons, List.map_nil, List.length_cons, List.length_nil, xrs, xr0, Nat.reduceAdd, Nat.reduceSub, List.cons_append, List.nil_append, List.set_cons_zero, List.set_cons_succ, Option.toList_none, Option.toList_some, nI_1]
      refine xcS 8 rfl rfl rfl (c_PP_partCount (n := x.2.2.length) (m := s.toInt.toNat) (by omega) (by omega) (by omega)) rfl kX8_partCount iX8_partCount rfl rfl (Nat.le_of_ble_eq_true rfl) (fun v3 s3 q3 => ?_)
      obtain ⟨rfl, rfl⟩ := q3
      rw [← toN (x := s) (by omega)]
      refine xgo 80 rfl ?_
      try simp only [xlo0, List.map_cons, List.map_nil, List.length_cons, List.length_nil, xrs, xr0, Nat.reduceAdd, Nat.reduceSub, List.cons_append, List.nil_append, List.set_cons_zero, List.set_cons_succ, Option.toList_none, Option.toList_some, nI_1]
      refine xi_ret_i rfl rfl rfl (ppost.same h rfl)
    · simp only [one_z] at c1
      rw [if_neg c1]
      refine xgo 80 rfl ?_
      try simp only [xlo0, List.map_cons, List.map_nil, List.length_cons, List.length_nil, xrs, xr0, Nat.reduceAdd, Nat.reduceSub, List.cons_append, List.nil_append, List.set_cons_zero, List.set_cons_succ, Option.toList_none, Option.toList_some, nI_1]
      refine xi_ret_i rfl rfl rfl (ppost.same h rfl)
def zR (Z : pZ) (r : List Int32) : pZ := (Z.1, Z.2.1, Z.2.2.1, r, Z.2.2.2.2)
theorem pw.reel {G : xG} {σ σ' : xS} {own : Nat → Nat} {rc : Nat} {Z : pZ} {r : List Int32} (H : pw G σ own rc Z) (f : frz σ.1 σ'.1 21 2) (e : σ'.2 = σ.2) (hb : brr G σ'.1 21 108 r) : pw G σ' own rc (zR Z r) ∧ mk σ σ' := by
  obtain ⟨a0, a1, a2, ⟨ds, a3⟩, a4, a5, ⟨bw, sz, mb, ml, a6⟩, a7, a8, ⟨st, a9⟩, a10⟩ := H
  have ho := a10.2
  refine ⟨⟨(f 0 (by omega)).trans a0, a1.keepQ (fun q _ _ => f q (by omega)), a2.keep (fun _ _ => rfl) (fun q hq => f q (by have := ho q; omega)), ⟨ds, a3.keepQ (fun q _ _ => f q (by omega))⟩, hb, a5.keep (fun _ _ => rfl) (fun q hq => f q (by have := ho q; omega)), ⟨bw, sz, mb, ml, a6.keepQ (fun q _ _ => f q (by omega))⟩, a7.keep (fun _ _ => rfl) (fun q hq => f q (by have := ho q; omega)), a8.keep (fun _ _ => rfl) (fun q hq => f q (by have := ho q; omega)), ⟨st, a9.keepQ (fun q _ _ => f q (by omega))⟩, by rw [e]; exact a10⟩, fun q h1 h2 => f q (by omega), by rw [e]; omega, by rw [e]; omega, by rw [e]; omega⟩
/-- part i of a pack -/
def pbody (p i : Int32) (many m : Nat) (bs : List Int32) : List Int32 := [112, p, i, nI many] ++ (bs.drop (i.toInt.toNat * m)).take (min ((i.toInt.toNat + 1) * m) bs.length - i.toInt.toNat * m)
def ptape (p i : Int32) (many m : Nat) (bs : List Int32) : List Int32 := pbody p i many m bs ++ four (ssum 2 (pbody p i many m bs))
def F_load (p s i : Int32) (Z : pZ) : Int32 × pZ := match pget Z.2.2.1 p with
  | none => (-1, Z)
  | some x => if ¬ (8 ≤ s.toInt ∧ s.toInt ≤ 100) then (-1, Z) else if ¬ blw i (pcnt x.2.2.length s.toInt.toNat) then (-1, Z) else (nI (ptape p i (pcnt x.2.2.length s.toInt.toNat) s.toInt.toNat x.2.2).length, zR Z (ptape p i (pcnt x.2.2.length s.toInt.toNat) s.toInt.toNat x.2.2))
theorem pcnt_lt {n m i : Nat} (hm : 1 ≤ m) (hi : i < pcnt n m) : i * m < n := by
  unfold pcnt at hi
  have h1 : i + 1 ≤ (n + m - 1) / m := hi
  have h2 := (Nat.le_div_iff_mul_le (by omega)).mp h1
  rw [Nat.add_mul, Nat.one_mul] at h2
  omega
theorem pcnt_le {n m : Nat} (hm : 8 ≤ m) (hn : n < 100000) : pcnt n m < 20000 := by
  unfold pcnt
  refine (Nat.div_lt_iff_lt_mul (by omega)).mpr ?_
  have : 20000 * 8 ≤ 20000 * m := Nat.mul_le_mul_left _ hm
  omega
set_option maxRecDepth 100000 in
set_option maxHeartbeats 2000000 in
theorem c_PP_load {G : xG} {d rc : Nat} {own : Nat → Nat} {p s i : Int32} {Z : pZ} {σ : xS} (h : pw G σ own rc Z) : xm G (d + 20) mX8_load [rf G 0, .int p, .int s, .int i] σ (ppost G σ (F_load p s i Z)) := by
  unfold F_load
  cases hp : pget Z.2.2.1 p with
  | none =>
    refine xm_at 6 rfl (by decide) (Nat.le_of_ble_eq_true rfl) (by simp [Value.category]) tX8_load_ok ?_
    try simp only [xlo0, List.map_cons, List.map_nil, List.length_cons, List.length_nil, xrs, xr0, Nat.reduceAdd, Nat.reduceSub, List.cons_append, List.nil_append, List.set_cons_zero, List.set_cons_succ, Option.toList_none, Option.toList_some, nI_1]
    refine xgo 80 rfl ?_
    try simp only [xlo0, List.map_cons, List.map_nil, List.length_cons, List.length_nil, xrs, xr0, Nat.reduceAdd, Nat.reduceSub, List.cons_append, List.nil_append, List.set_cons_zero, List.set_cons_succ, Option.toList_none, Option.toList_some, nI_1]
    refine xcV 8 rfl rfl rfl (c_PP_packAtN h hp) rfl kX8_packAt iX8_packAt h.obj ⟨_, rfl, rfl⟩ rfl rfl (Nat.le_of_ble_eq_true rfl) (fun v1 s1 q1 => ?_)
    obtain ⟨rfl, rfl⟩ := q1
    refine xgo 80 rfl ?_
    try simp only [xlo0, List.map_cons, List.map_nil, List.length_cons, List.length_nil, xrs, xr0, Nat.reduceAdd, Nat.reduceSub, List.cons_append, List.nil_append, List.set_cons_zero, List.set_cons_succ, Option.toList_none, Option.toList_some, nI_1]
    refine xi_ifnull_n rfl ?_
    refine xgo 80 rfl ?_
    try simp only [xlo0, List.map_cons, List.map_nil, List.length_cons, List.length_nil, xrs, xr0, Nat.reduceAdd, Nat.reduceSub, List.cons_append, List.nil_append, List.set_cons_zero, List.set_cons_succ, Option.toList_none, Option.toList_some, nI_1]
    refine xi_ret_i rfl rfl rfl (ppost.same h rfl)
  | some x =>
    obtain ⟨j, rfl, hj, hj16, -⟩ := pget_s hp h.2.2.1.1
    obtain ⟨-, ar, -, -, b3⟩ := id h.2.2.1
    have hx := (b3 j x hj).2.1
    have hxo := (b3 j x hj).2.2
    have ho := h.own0.2.2 x.1 (by omega)
    have hxl := hx.len
    have hr := h.2.2.2.2.1
    dsimp only
    refine xm_at 6 rfl (by decide) (Nat.le_of_ble_eq_true rfl) (by simp [Value.category]) tX8_load_ok ?_
    try simp only [xlo0, List.map_cons, List.map_nil, List.length_cons, List.length_nil, xrs, xr0, Nat.reduceAdd, Nat.reduceSub, List.cons_append, List.nil_append, List.set_cons_zero, List.set_cons_succ, Option.toList_none, Option.toList_some, nI_1]
    refine xgo 80 rfl ?_
    try simp only [xlo0, List.map_cons, List.map_nil, List.length_cons, List.length_nil, xrs, xr0, Nat.reduceAdd, Nat.reduceSub, List.cons_append, List.nil_append, List.set_cons_zero, List.set_cons_succ, Option.toList_none, Option.toList_some, nI_1]
    refine xcV 8 rfl rfl rfl (c_PP_packAt h hj) rfl kX8_packAt iX8_packAt h.obj ⟨_, rfl, rfl⟩ rfl rfl (Nat.le_of_ble_eq_true rfl) (fun v1 s1 q1 => ?_)
    obtain ⟨rfl, rfl⟩ := q1
    refine xgo 80 rfl ?_
    try simp only [xlo0, List.map_cons, List.map_nil, List.length_cons, List.length_nil, xrs, xr0, Nat.reduceAdd, Nat.reduceSub, List.cons_append, List.nil_append, List.set_cons_zero, List.set_cons_succ, Option.toList_none, Option.toList_some, nI_1]
    refine xi_ifnull_r rfl ?_
    refine xgo 80 rfl ?_
    try simp only [xlo0, List.map_cons, List.map_nil, List.length_cons, List.length_nil, xrs, xr0, Nat.reduceAdd, Nat.reduceSub, List.cons_append, List.nil_append, List.set_cons_zero, List.set_cons_succ, Option.toList_none, Option.toList_some, nI_1]
    refine xcS 8 rfl rfl rfl c_PP_isPartSize rfl kX8_isPartSize iX8_isPartSize rfl rfl (Nat.le_of_ble_eq_true rfl) (fun v2 s2 q2 => ?_)
    obtain ⟨rfl, rfl⟩ := q2
    refine xgo 80 rfl ?_
    try simp only [xlo0, List.map_cons, List.map_nil, List.length_cons, List.length_nil, xrs, xr0, Nat.reduceAdd, Nat.reduceSub, List.cons_append, List.nil_append, List.set_cons_zero, List.set_cons_succ, Option.toList_none, Option.toList_some, nI_1]
    refine xi_ifne rfl (fun c1 => ?_) (fun c1 => ?_)
    · simp only [one_z, Classical.not_not] at c1
      rw [if_neg (fun hc => hc c1)]
      generalize hm : s.toInt.toNat = m
      have hsm : s = nI m := by rw [← hm]; exact toN (by omega)
      subst hsm
      have hcl := pcnt_le (n := x.2.2.length) (m := m) (by omega) (by omega)
      generalize hmany : pcnt x.2.2.length m = many
      refine xgo 80 rfl ?_
      try simp only [xlo0, List.map_cons, List.map_nil, List.length_cons, List.length_nil, xrs, xr0, Nat.reduceAdd, Nat.reduceSub, List.cons_append, List.nil_append, List.set_cons_zero, List.set_cons_succ, Option.toList_none, Option.toList_some, nI_1]
      refine xg 8 rfl rfl rfl hx.obj rfl ?_
      refine xgo 80 rfl ?_
      try simp only [xlo0, List.map_cons, List.map_nil, List.length_cons, List.length_nil, xrs, xr0, Nat.reduceAdd, Nat.reduceSub, List.cons_append, List.nil_append, List.set_cons_zero, List.set_cons_succ, Option.toList_none, Option.toList_some, nI_1]
      refine xcS 8 rfl rfl rfl (c_PP_partCount (n := x.2.2.length) (m := m) (by omega) (by omega) (by omega)) rfl kX8_partCount iX8_partCount rfl rfl (Nat.le_of_ble_eq_true rfl) (fun v3 s3 q3 => ?_)
      obtain ⟨rfl, rfl⟩ := q3
      rw [hmany]
      refine xgo 80 rfl ?_
      try simp only [xlo0, List.map_cons, List.map_nil, List.length_cons, List.length_nil, xrs, xr0, Nat.reduceAdd, Nat.reduceSub, List.cons_append, List.nil_append, List.set_cons_zero, List.set_cons_succ, Option.toList_none, Option.toList_some, nI_1]
      refine xcS 8 rfl rfl rfl c_isBelow rfl kX8_isBelow iX8_isBelow rfl rfl (Nat.le_of_ble_eq_true rfl) (fun v4 s4 q4 => ?_)
      obtain ⟨rfl, rfl⟩ := q4
      refine xgo 80 rfl ?_
      try simp only [xlo0, List.map_cons, List.map_nil, List.length_cons, List.length_nil, xrs, xr0, Nat.reduceAdd, Nat.reduceSub, List.cons_append, List.nil_append, List.set_cons_zero, List.set_cons_succ, Option.toList_none, Option.toList_some, nI_1]
      refine xi_ifne rfl (fun c2 => ?_) (fun c2 => ?_)
      · simp only [one_z, Classical.not_not] at c2
        rw [i_n (by omega)] at c2
        rw [if_neg (fun hc => hc c2)]
        generalize hii : i.toInt.toNat = ii
        have hin : i = nI ii := by rw [← hii]; exact toN c2.1
        subst hin
        have hiib : ii < many := by omega
        have himlt : ii * m < x.2.2.length := pcnt_lt (by omega) (by rw [hmany]; exact hiib)
        have him2 : (ii + 1) * m = ii * m + m := by rw [Nat.add_mul, Nat.one_mul]
        refine xgo 80 rfl ?_
        try simp only [xlo0, List.map_cons, List.map_nil, List.length_cons, List.length_nil, xrs, xr0, Nat.reduceAdd, Nat.reduceSub, List.cons_append, List.nil_append, List.set_cons_zero, List.set_cons_succ, Option.toList_none, Option.toList_some, nI_1]
        refine xg 8 rfl rfl rfl h.obj rfl ?_
        refine xgo 80 rfl ?_
        try simp only [xlo0, List.map_cons, List.map_nil, List.length_cons, List.length_nil, xrs, xr0, Nat.reduceAdd, Nat.reduceSub, List.cons_append, List.nil_append, List.set_cons_zero, List.set_cons_succ, Option.toList_none, Option.toList_some, nI_1]
        refine xcV 8 rfl rfl rfl (c_BR_clear hr) rfl kX1_clear iX1_clear hr.obj ⟨_, rfl, rfl⟩ rfl rfl (Nat.le_of_ble_eq_true rfl) (fun v5 s5 q5 => ?_)
        obtain ⟨rfl, p1, p2, p3⟩ := q5
        refine xgo 80 rfl ?_
        try simp only [xlo0, List.map_cons, List.map_nil, List.length_cons, List.length_nil, xrs, xr0, Nat.reduceAdd, Nat.reduceSub, List.cons_append, List.nil_append, List.set_cons_zero, List.set_cons_succ, Option.toList_none, Option.toList_some, nI_1]
        refine xg 8 rfl rfl rfl ((p2 0 (by omega)).trans h.obj) rfl ?_
        refine xgo 80 rfl ?_
        try simp only [xlo0, List.map_cons, List.map_nil, List.length_cons, List.length_nil, xrs, xr0, Nat.reduceAdd, Nat.reduceSub, List.cons_append, List.nil_append, List.set_cons_zero, List.set_cons_succ, Option.toList_none, Option.toList_some, nI_1]
        refine xcV 8 rfl rfl rfl (c_BR_push p1 (by simp)) rfl kX1_push iX1_push p1.obj ⟨_, rfl, rfl⟩ rfl rfl (Nat.le_of_ble_eq_true rfl) (fun v6 s6 q6 => ?_)
        obtain ⟨rfl, p4, p5, p6⟩ := q6
        have f6 := p2.tr p5
        refine xgo 80 rfl ?_
        try simp only [xlo0, List.map_cons, List.map_nil, List.length_cons, List.length_nil, xrs, xr0, Nat.reduceAdd, Nat.reduceSub, List.cons_append, List.nil_append, List.set_cons_zero, List.set_cons_succ, Option.toList_none, Option.toList_some, nI_1]
        refine xg 8 rfl rfl rfl ((f6 0 (by omega)).trans h.obj) rfl ?_
        refine xgo 80 rfl ?_
        try simp only [xlo0, List.map_cons, List.map_nil, List.length_cons, List.length_nil, xrs, xr0, Nat.reduceAdd, Nat.reduceSub, List.cons_append, List.nil_append, List.set_cons_zero, List.set_cons_succ, Option.toList_none, Option.toList_some, nI_1]
        refine xcV 8 rfl rfl rfl (c_BR_push p4 (by simp)) rfl kX1_push iX1_push p4.obj ⟨_, rfl, rfl⟩ rfl rfl (Nat.le_of_ble_eq_true rfl) (fun v7 s7 q7 => ?_)
        obtain ⟨rfl, p7, p8, p9⟩ := q7
        have f7 := f6.tr p8
        refine xgo 80 rfl ?_
        try simp only [xlo0, List.map_cons, List.map_nil, List.length_cons, List.length_nil, xrs, xr0, Nat.reduceAdd, Nat.reduceSub, List.cons_append, List.nil_append, List.set_cons_zero, List.set_cons_succ, Option.toList_none, Option.toList_some, nI_1]
        refine xg 8 rfl rfl rfl ((f7 0 (by omega)).trans h.obj) rfl ?_
        refine xgo 80 rfl ?_
        try simp only [xlo0, List.map_cons, List.map_nil, List.length_cons, List.length_nil, xrs, xr0, Nat.reduceAdd, Nat.reduceSub, List.cons_append, List.nil_append, List.set_cons_zero, List.set_cons_succ, Option.toList_none, Option.toList_some, nI_1]
        refine xcV 8 rfl rfl rfl (c_BR_push p7 (by simp)) rfl kX1_push iX1_push p7.obj ⟨_, rfl, rfl⟩ rfl rfl (Nat.le_of_ble_eq_true rfl) (fun v8 s8 q8 => ?_)
        obtain ⟨rfl, p10, p11, p12⟩ := q8
        have f8 := f7.tr p11
        refine xgo 80 rfl ?_
        try simp only [xlo0, List.map_cons, List.map_nil, List.length_cons, List.length_nil, xrs, xr0, Nat.reduceAdd, Nat.reduceSub, List.cons_append, List.nil_append, List.set_cons_zero, List.set_cons_succ, Option.toList_none, Option.toList_some, nI_1]
        refine xg 8 rfl rfl rfl ((f8 0 (by omega)).trans h.obj) rfl ?_
        refine xgo 80 rfl ?_
        try simp only [xlo0, List.map_cons, List.map_nil, List.length_cons, List.length_nil, xrs, xr0, Nat.reduceAdd, Nat.reduceSub, List.cons_append, List.nil_append, List.set_cons_zero, List.set_cons_succ, Option.toList_none, Option.toList_some, nI_1]
        refine xcV 8 rfl rfl rfl (c_BR_push p10 (by simp)) rfl kX1_push iX1_push p10.obj ⟨_, rfl, rfl⟩ rfl rfl (Nat.le_of_ble_eq_true rfl) (fun v9 s9 q9 => ?_)
        obtain ⟨rfl, p13, p14, p15⟩ := q9
        have f9 := f8.tr p14
        have hx9 := hx.keep f9 (by omega)
        have p13' : brr G s9.1 21 108 [112, nI j, nI ii, nI many] := by simpa using p13
        refine xgo 80 rfl ?_
        try simp only [xlo0, List.map_cons, List.map_nil, List.length_cons, List.length_nil, xrs, xr0, Nat.reduceAdd, Nat.reduceSub, List.cons_append, List.nil_append, List.set_cons_zero, List.set_cons_succ, Option.toList_none, Option.toList_some, nI_1]
        refine xg 8 rfl rfl rfl ((f9 0 (by omega)).trans h.obj) rfl ?_
        refine xgo 80 rfl ?_
        try simp only [xlo0, List.map_cons, List.map_nil, List.length_cons, List.length_nil, xrs, xr0, Nat.reduceAdd, Nat.reduceSub, List.cons_append, List.nil_append, List.set_cons_zero, List.set_cons_succ, Option.toList_none, Option.toList_some, nI_1]
        refine xg 8 rfl rfl rfl hx9.obj rfl ?_
        refine xgo 80 rfl ?_
        try simp only [xlo0, List.map_cons, List.map_nil, List.length_cons, List.length_nil, xrs, xr0, Nat.reduceAdd, Nat.reduceSub, List.cons_append, List.nil_append, List.set_cons_zero, List.set_cons_succ, Option.toList_none, Option.toList_some, nI_1]
        refine xi_min rfl gX8_175 (Nat.le_of_ble_eq_true rfl) ?_
        rw [nI_mulN, nI_mulN]
        have hmin : (if nI x.2.2.length < nI ((ii + 1) * m) then nI x.2.2.length else nI ((ii + 1) * m)) = nI (min ((ii + 1) * m) x.2.2.length) := by
          by_cases hlt : nI x.2.2.length < nI ((ii + 1) * m)
          · rw [if_pos hlt]
            rw [i_lt, i_n (by omega), i_n (by omega)] at hlt
            rw [Nat.min_eq_right (by omega)]
          · rw [if_neg hlt]
            rw [i_lt, i_n (by omega), i_n (by omega)] at hlt
            rw [Nat.min_eq_left (by omega)]
        rw [hmin]
        refine xgo 80 rfl ?_
        try simp only [xlo0, List.map_cons, List.map_nil, List.length_cons, List.length_nil, xrs, xr0, Nat.reduceAdd, Nat.reduceSub, List.cons_append, List.nil_append, List.set_cons_zero, List.set_cons_succ, Option.toList_none, Option.toList_some, nI_1]
        refine xcV 8 rfl rfl rfl (c_BR_pushRange (i := ii * m) (e := min ((ii + 1) * m) x.2.2.length) p13' hx9 (by omega) (by omega) (by omega) (by simp only [List.length_cons, List.length_nil]; omega)) rfl kX1_pushRange iX1_pushRange p13'.obj ⟨_, rfl, rfl⟩ rfl rfl (Nat.le_of_ble_eq_true rfl) (fun v10 s10 q10 => ?_)
        obtain ⟨rfl, r1, r2, r3⟩ := q10
        have f10 := f9.tr r2
        have hbd : [112, nI j, nI ii, nI many] ++ (x.2.2.drop (ii * m)).take (min ((ii + 1) * m) x.2.2.length - ii * m) = pbody (nI j) (nI ii) many m x.2.2 := by
          unfold pbody
          rw [i_n (by omega)]
          rfl
        have hbl : (pbody (nI j) (nI ii) many m x.2.2).length ≤ 104 := by
          rw [← hbd]
          simp only [List.length_append, List.length_cons, List.length_nil, List.length_take, List.length_drop]
          omega
        rw [hbd] at r1
        have hpt : ptape (nI j) (nI ii) many m x.2.2 = pbody (nI j) (nI ii) many m x.2.2 ++ four (ssum 2 (pbody (nI j) (nI ii) many m x.2.2)) := rfl
        generalize pbody (nI j) (nI ii) many m x.2.2 = pb at r1 hbl hpt
        rw [hpt]
        refine xgo 80 rfl ?_
        try simp only [xlo0, List.map_cons, List.map_nil, List.length_cons, List.length_nil, xrs, xr0, Nat.reduceAdd, Nat.reduceSub, List.cons_append, List.nil_append, List.set_cons_zero, List.set_cons_succ, Option.toList_none, Option.toList_some, nI_1]
        refine xg 8 rfl rfl rfl ((f10 0 (by omega)).trans h.obj) rfl ?_
        refine xgo 80 rfl ?_
        try simp only [xlo0, List.map_cons, List.map_nil, List.length_cons, List.length_nil, xrs, xr0, Nat.reduceAdd, Nat.reduceSub, List.cons_append, List.nil_append, List.set_cons_zero, List.set_cons_succ, Option.toList_none, Option.toList_some, nI_1]
        refine xg 8 rfl rfl rfl ((f10 0 (by omega)).trans h.obj) rfl ?_
        refine xgo 80 rfl ?_
        try simp only [xlo0, List.map_cons, List.map_nil, List.length_cons, List.length_nil, xrs, xr0, Nat.reduceAdd, Nat.reduceSub, List.cons_append, List.nil_append, List.set_cons_zero, List.set_cons_succ, Option.toList_none, Option.toList_some, nI_1]
        refine xg 8 rfl rfl rfl ((f10 0 (by omega)).trans h.obj) rfl ?_
        refine xgo 80 rfl ?_
        try simp only [xlo0, List.map_cons, List.map_nil, List.length_cons, List.length_nil, xrs, xr0, Nat.reduceAdd, Nat.reduceSub, List.cons_append, List.nil_append, List.set_cons_zero, List.set_cons_succ, Option.toList_none, Option.toList_some, nI_1]
        refine xg 8 rfl rfl rfl r1.obj rfl ?_
        refine xgo 80 rfl ?_
        try simp only [xlo0, List.map_cons, List.map_nil, List.length_cons, List.length_nil, xrs, xr0, Nat.reduceAdd, Nat.reduceSub, List.cons_append, List.nil_append, List.set_cons_zero, List.set_cons_succ, Option.toList_none, Option.toList_some, nI_1]
        refine xcV 8 rfl rfl rfl (c_BR_sum r1 (Nat.le_refl _)) rfl kX1_sum iX1_sum r1.obj ⟨_, rfl, rfl⟩ rfl rfl (Nat.le_of_ble_eq_true rfl) (fun v11 s11 q11 => ?_)
        obtain ⟨rfl, rfl⟩ := q11
        rw [List.take_length]
        refine xgo 80 rfl ?_
        try simp only [xlo0, List.map_cons, List.map_nil, List.length_cons, List.length_nil, xrs, xr0, Nat.reduceAdd, Nat.reduceSub, List.cons_append, List.nil_append, List.set_cons_zero, List.set_cons_succ, Option.toList_none, Option.toList_some, nI_1]
        refine xcV 8 rfl rfl rfl (c_BR_pushNumber r1 (by omega)) rfl kX1_pushNumber iX1_pushNumber r1.obj ⟨_, rfl, rfl⟩ rfl rfl (Nat.le_of_ble_eq_true rfl) (fun v12 s12 q12 => ?_)
        obtain ⟨rfl, t1, t2, t3⟩ := q12
        have hp2 := h.reel (f10.tr t2) (t3.trans (r3.trans (p15.trans (p12.trans (p9.trans (p6.trans p3)))))) t1
        refine xgo 80 rfl ?_
        try simp only [xlo0, List.map_cons, List.map_nil, List.length_cons, List.length_nil, xrs, xr0, Nat.reduceAdd, Nat.reduceSub, List.cons_append, List.nil_append, List.set_cons_zero, List.set_cons_succ, Option.toList_none, Option.toList_some, nI_1]
        refine xg 8 rfl rfl rfl hp2.1.obj rfl ?_
        refine xgo 80 rfl ?_
        try simp only [xlo0, List.map_cons, List.map_nil, List.length_cons, List.length_nil, xrs, xr0, Nat.reduceAdd, Nat.reduceSub, List.cons_append, List.nil_append, List.set_cons_zero, List.set_cons_succ, Option.toList_none, Option.toList_some, nI_1]
        refine xg 8 rfl rfl rfl t1.obj rfl ?_
        refine xgo 80 rfl ?_
        try simp only [xlo0, List.map_cons, List.map_nil, List.length_cons, List.length_nil, xrs, xr0, Nat.reduceAdd, Nat.reduceSub, List.cons_append, List.nil_append, List.set_cons_zero, List.set_cons_succ, Option.toList_none, Option.toList_some, nI_1]
        refine xi_ret_i rfl rfl rfl ⟨rfl, ⟨own, rc, hp2.1⟩, hp2.2⟩
      · simp only [one_z] at c2
        rw [i_n (by omega)] at c2
        rw [if_pos c2]
        refine xgo 80 rfl ?_
        try simp only [xlo0, List.map_cons, List.map_nil, List.length_cons, List.length_nil, xrs, xr0, Nat.reduceAdd, Nat.reduceSub, List.cons_append, List.nil_append, List.set_cons_zero, List.set_cons_succ, Option.toList_none, Option.toList_some, nI_1]
        refine xi_ret_i rfl rfl rfl (ppost.same h rfl)
    · simp only [one_z] at c1
      rw [if_pos c1]
      refine xgo 80 rfl ?_
      try simp only [xlo0, List.map_cons, List.map_nil, List.length_cons, List.length_nil, xrs, xr0, Nat.reduceAdd, Nat.reduceSub, List.cons_append, List.nil_append, List.set_cons_zero, List.set_cons_succ, Option.toList_none, Option.toList_some, nI_1]
      refine xi_ret_i rfl rfl rfl (ppost.same h rfl)
def F_tape (k : Int32) (Z : pZ) : Int32 × pZ := (bat Z.2.2.2.1 k, Z)
set_option maxRecDepth 100000 in
set_option maxHeartbeats 2000000 in
theorem c_PP_tape {G : xG} {d rc : Nat} {own : Nat → Nat} {k : Int32} {Z : pZ} {σ : xS} (h : pw G σ own rc Z) : xm G (d + 20) mX8_tape [rf G 0, .int k] σ (ppost G σ (F_tape k Z)) := by
  have hr := h.2.2.2.2.1
  refine xm_at 2 rfl (by decide) (Nat.le_of_ble_eq_true rfl) (by simp [Value.category]) tX8_tape_ok ?_
  try simp only [xlo0, List.map_cons, List.map_nil, List.length_cons, List.length_nil, xrs, xr0, Nat.reduceAdd, Nat.reduceSub, List.cons_append, List.nil_append, List.set_cons_zero, List.set_cons_succ, Option.toList_none, Option.toList_some, nI_1]
  refine xgo 80 rfl ?_
  try simp only [xlo0, List.map_cons, List.map_nil, List.length_cons, List.length_nil, xrs, xr0, Nat.reduceAdd, Nat.reduceSub, List.cons_append, List.nil_append, List.set_cons_zero, List.set_cons_succ, Option.toList_none, Option.toList_some, nI_1]
  refine xg 8 rfl rfl rfl h.obj rfl ?_
  refine xgo 80 rfl ?_
  try simp only [xlo0, List.map_cons, List.map_nil, List.length_cons, List.length_nil, xrs, xr0, Nat.reduceAdd, Nat.reduceSub, List.cons_append, List.nil_append, List.set_cons_zero, List.set_cons_succ, Option.toList_none, Option.toList_some, nI_1]
  refine xcV 8 rfl rfl rfl (c_BR_at hr) rfl kX1_at iX1_at hr.obj ⟨_, rfl, rfl⟩ rfl rfl (Nat.le_of_ble_eq_true rfl) (fun v1 s1 q1 => ?_)
  obtain ⟨rfl, rfl⟩ := q1
  refine xgo 80 rfl ?_
  try simp only [xlo0, List.map_cons, List.map_nil, List.length_cons, List.length_nil, xrs, xr0, Nat.reduceAdd, Nat.reduceSub, List.cons_append, List.nil_append, List.set_cons_zero, List.set_cons_succ, Option.toList_none, Option.toList_some, nI_1]
  refine xi_ret_i rfl rfl rfl (ppost.same h rfl)
def F_bend (k m : Int32) (Z : pZ) : Int32 × pZ := if xorOk Z.2.2.2.1.length k m then (1, zR Z (xorB Z.2.2.2.1 k m)) else (-1, Z)
set_option maxRecDepth 100000 in
set_option maxHeartbeats 2000000 in
theorem c_PP_bend {G : xG} {d rc : Nat} {own : Nat → Nat} {k m : Int32} {Z : pZ} {σ : xS} (h : pw G σ own rc Z) : xm G (d + 20) mX8_bend [rf G 0, .int k, .int m] σ (ppost G σ (F_bend k m Z)) := by
  have hr := h.2.2.2.2.1
  unfold F_bend
  refine xm_at 3 rfl (by decide) (Nat.le_of_ble_eq_true rfl) (by simp [Value.category]) tX8_bend_ok ?_
  try simp only [xlo0, List.map_cons, List.map_nil, List.length_cons, List.length_nil, xrs, xr0, Nat.reduceAdd, Nat.reduceSub, List.cons_append, List.nil_append, List.set_cons_zero, List.set_cons_succ, Option.toList_none, Option.toList_some, nI_1]
  refine xgo 80 rfl ?_
  try simp only [xlo0, List.map_cons, List.map_nil, List.length_cons, List.length_nil, xrs, xr0, Nat.reduceAdd, Nat.reduceSub, List.cons_append, List.nil_append, List.set_cons_zero, List.set_cons_succ, Option.toList_none, Option.toList_some, nI_1]
  refine xg 8 rfl rfl rfl h.obj rfl ?_
  by_cases hk : xorOk Z.2.2.2.1.length k m
  · rw [if_pos hk]
    refine xgo 80 rfl ?_
    try simp only [xlo0, List.map_cons, List.map_nil, List.length_cons, List.length_nil, xrs, xr0, Nat.reduceAdd, Nat.reduceSub, List.cons_append, List.nil_append, List.set_cons_zero, List.set_cons_succ, Option.toList_none, Option.toList_some, nI_1]
    refine xcS 8 rfl rfl rfl (c_PP_xorByte hr hk) rfl kX8_xorByte iX8_xorByte rfl rfl (Nat.le_of_ble_eq_true rfl) (fun v2 s2 q2 => ?_)
    obtain ⟨rfl, p1, p2, p3⟩ := q2
    have hp2 := h.reel p2 p3 p1
    refine xgo 80 rfl ?_
    try simp only [xlo0, List.map_cons, List.map_nil, List.length_cons, List.length_nil, xrs, xr0, Nat.reduceAdd, Nat.reduceSub, List.cons_append, List.nil_append, List.set_cons_zero, List.set_cons_succ, Option.toList_none, Option.toList_some, nI_1]
    refine xi_ret_i rfl rfl rfl ⟨rfl, ⟨own, rc, hp2.1⟩, hp2.2⟩
  · rw [if_neg hk]
    refine xgo 80 rfl ?_
    try simp only [xlo0, List.map_cons, List.map_nil, List.length_cons, List.length_nil, xrs, xr0, Nat.reduceAdd, Nat.reduceSub, List.cons_append, List.nil_append, List.set_cons_zero, List.set_cons_succ, Option.toList_none, Option.toList_some, nI_1]
    refine xcS 8 rfl rfl rfl (c_PP_xorByteN hr hk) rfl kX8_xorByte iX8_xorByte rfl rfl (Nat.le_of_ble_eq_true rfl) (fun v2 s2 q2 => ?_)
    obtain ⟨rfl, rfl⟩ := q2
    refine xgo 80 rfl ?_
    try simp only [xlo0, List.map_cons, List.map_nil, List.length_cons, List.length_nil, xrs, xr0, Nat.reduceAdd, Nat.reduceSub, List.cons_append, List.nil_append, List.set_cons_zero, List.set_cons_succ, Option.toList_none, Option.toList_some, nI_1]
    refine xi_ret_i rfl rfl rfl (ppost.same h rfl)
theorem yrangeP {α : Type} {g : Nat → α} {k n : Nat} (h : k < n) : ((List.range n).map g)[k]? = some (g k) := by simp [h]
set_option maxRecDepth 100000 in
set_option maxHeartbeats 2000000 in
theorem c_PP_bookAt {G : xG} {d rc b : Nat} {own : Nat → Nat} {Z : pZ} {σ : xS} (h : pw G σ own rc Z) (hb : b < 16) : xm G (d + 1) mX8_bookAt [rf G 0, .int (nI b)] σ (fun v σ' => v = some (rf G (24 + 2 * b)) ∧ σ' = σ) := by
  have hB := h.2.2.2.2.2.1.1
  have hcl : (nI b).toNatClampNeg = b := nI_clamp (by omega)
  refine xm_at 2 rfl (by decide) (Nat.le_of_ble_eq_true rfl) (by simp [Value.category]) tX8_bookAt_ok ?_
  try simp only [xlo0, List.map_cons, List.map_nil, List.length_cons, List.length_nil, xrs, xr0, Nat.reduceAdd, Nat.reduceSub, List.cons_append, List.nil_append, List.set_cons_zero, List.set_cons_succ, Option.toList_none, Option.toList_some, nI_1]
  refine xgo 80 rfl ?_
  try simp only [xlo0, List.map_cons, List.map_nil, List.length_cons, List.length_nil, xrs, xr0, Nat.reduceAdd, Nat.reduceSub, List.cons_append, List.nil_append, List.set_cons_zero, List.set_cons_succ, Option.toList_none, Option.toList_some, nI_1]
  refine xcS 8 rfl rfl rfl c_isBelow rfl kX8_isBelow iX8_isBelow rfl rfl (Nat.le_of_ble_eq_true rfl) (fun v1 s1 q1 => ?_)
  obtain ⟨rfl, rfl⟩ := q1
  refine xgo 80 rfl ?_
  try simp only [xlo0, List.map_cons, List.map_nil, List.length_cons, List.length_nil, xrs, xr0, Nat.reduceAdd, Nat.reduceSub, List.cons_append, List.nil_append, List.set_cons_zero, List.set_cons_succ, Option.toList_none, Option.toList_some, nI_1]
  refine xi_ifeq rfl (fun c1 => ?_) (fun c1 => ?_)
  · simp only [one_z, Int32.reduceToInt] at c1
    exact absurd ⟨by rw [i_n (by omega)]; omega, by rw [i_n (by omega)]; omega⟩ c1
  refine xgo 80 rfl ?_
  try simp only [xlo0, List.map_cons, List.map_nil, List.length_cons, List.length_nil, xrs, xr0, Nat.reduceAdd, Nat.reduceSub, List.cons_append, List.nil_append, List.set_cons_zero, List.set_cons_succ, Option.toList_none, Option.toList_some, nI_1]
  refine xg 8 rfl rfl rfl h.obj rfl ?_
  refine xgo 80 rfl ?_
  try simp only [xlo0, List.map_cons, List.map_nil, List.length_cons, List.length_nil, xrs, xr0, Nat.reduceAdd, Nat.reduceSub, List.cons_append, List.nil_append, List.set_cons_zero, List.set_cons_succ, Option.toList_none, Option.toList_some, nI_1]
  refine xi_aald rfl hB (by decide) (nI_pos (by omega)) (by rw [hcl]; exact yrangeP hb) ?_
  refine xgo 80 rfl ?_
  try simp only [xlo0, List.map_cons, List.map_nil, List.length_cons, List.length_nil, xrs, xr0, Nat.reduceAdd, Nat.reduceSub, List.cons_append, List.nil_append, List.set_cons_zero, List.set_cons_succ, Option.toList_none, Option.toList_some, nI_1]
  refine xi_ret_a rfl rfl (Or.inl ⟨_, rfl⟩) (Or.inr ⟨_, rfl⟩) ⟨rfl, rfl⟩
set_option maxRecDepth 100000 in
set_option maxHeartbeats 2000000 in
theorem c_PP_bookAtN {G : xG} {d : Nat} {i : Int32} {σ : xS} (hi : ¬ blw i 16) : xm G (d + 1) mX8_bookAt [rf G 0, .int i] σ (fun v σ' => v = some .null ∧ σ' = σ) := by
  refine xm_at 2 rfl (by decide) (Nat.le_of_ble_eq_true rfl) (by simp [Value.category]) tX8_bookAt_ok ?_
  try simp only [xlo0, List.map_cons, List.map_nil, List.length_cons, List.length_nil, xrs, xr0, Nat.reduceAdd, Nat.reduceSub, List.cons_append, List.nil_append, List.set_cons_zero, List.set_cons_succ, Option.toList_none, Option.toList_some, nI_1]
  refine xgo 80 rfl ?_
  try simp only [xlo0, List.map_cons, List.map_nil, List.length_cons, List.length_nil, xrs, xr0, Nat.reduceAdd, Nat.reduceSub, List.cons_append, List.nil_append, List.set_cons_zero, List.set_cons_succ, Option.toList_none, Option.toList_some, nI_1]
  refine xcS 8 rfl rfl rfl c_isBelow rfl kX8_isBelow iX8_isBelow rfl rfl (Nat.le_of_ble_eq_true rfl) (fun v1 s1 q1 => ?_)
  obtain ⟨rfl, rfl⟩ := q1
  refine xgo 80 rfl ?_
  try simp only [xlo0, List.map_cons, List.map_nil, List.length_cons, List.length_nil, xrs, xr0, Nat.reduceAdd, Nat.reduceSub, List.cons_append, List.nil_append, List.set_cons_zero, List.set_cons_succ, Option.toList_none, Option.toList_some, nI_1]
  refine xi_ifeq rfl (fun c1 => ?_) (fun c1 => ?_)
  · refine xgo 80 rfl ?_
    try simp only [xlo0, List.map_cons, List.map_nil, List.length_cons, List.length_nil, xrs, xr0, Nat.reduceAdd, Nat.reduceSub, List.cons_append, List.nil_append, List.set_cons_zero, List.set_cons_succ, Option.toList_none, Option.toList_some, nI_1]
    refine xi_ret_a rfl rfl (Or.inl ⟨_, rfl⟩) (Or.inl rfl) ⟨rfl, rfl⟩
  · simp only [one_z, Int32.reduceToInt, Classical.not_not] at c1
    exact absurd c1 hi
def F_book (p w : Int32) (Z : pZ) : Int32 × pZ := if ¬ blw p 16 ∨ w.toInt < 0 then (-1, Z) else if w = 0 then ((Z.2.2.2.2.1 p.toInt.toNat).1.1, Z) else if w = 1 then ((Z.2.2.2.2.1 p.toInt.toNat).1.2.1, Z) else (bI (phas (Z.2.2.2.2.1 p.toInt.toNat).2.2 (w - 2)), Z)
set_option maxRecDepth 100000 in
set_option maxHeartbeats 2000000 in
theorem c_PP_book {G : xG} {d rc : Nat} {own : Nat → Nat} {p w : Int32} {Z : pZ} {σ : xS} (h : pw G σ own rc Z) : xm G (d + 20) mX8_book [rf G 0, .int p, .int w] σ (ppost G σ (F_book p w Z)) := by
  unfold F_book
  have z0 : (0 : Int32).toInt = 0 := rfl
  by_cases hp : blw p 16
  · generalize hb : p.toInt.toNat = b
    have hpb : p = nI b := by rw [← hb]; exact toN hp.1
    subst hpb
    have hb16 : b < 16 := by omega
    have hbk := (h.2.2.2.2.2.1.2 b hb16).1
    refine xm_at 4 rfl (by decide) (Nat.le_of_ble_eq_true rfl) (by simp [Value.category]) tX8_book_ok ?_
    try simp only [xlo0, List.map_cons, List.map_nil, List.length_cons, List.length_nil, xrs, xr0, Nat.reduceAdd, Nat.reduceSub, List.cons_append, List.nil_append, List.set_cons_zero, List.set_cons_succ, Option.toList_none, Option.toList_some, nI_1]
    refine xgo 80 rfl ?_
    try simp only [xlo0, List.map_cons, List.map_nil, List.length_cons, List.length_nil, xrs, xr0, Nat.reduceAdd, Nat.reduceSub, List.cons_append, List.nil_append, List.set_cons_zero, List.set_cons_succ, Option.toList_none, Option.toList_some, nI_1]
    refine xcV 8 rfl rfl rfl (c_PP_bookAt h hb16) rfl kX8_bookAt iX8_bookAt h.obj ⟨_, rfl, rfl⟩ rfl rfl (Nat.le_of_ble_eq_true rfl) (fun v1 s1 q1 => ?_)
    obtain ⟨rfl, rfl⟩ := q1
    refine xgo 80 rfl ?_
    try simp only [xlo0, List.map_cons, List.map_nil, List.length_cons, List.length_nil, xrs, xr0, Nat.reduceAdd, Nat.reduceSub, List.cons_append, List.nil_append, List.set_cons_zero, List.set_cons_succ, Option.toList_none, Option.toList_some, nI_1]
    refine xi_ifnull_r rfl ?_
    refine xgo 80 rfl ?_
    try simp only [xlo0, List.map_cons, List.map_nil, List.length_cons, List.length_nil, xrs, xr0, Nat.reduceAdd, Nat.reduceSub, List.cons_append, List.nil_append, List.set_cons_zero, List.set_cons_succ, Option.toList_none, Option.toList_some, nI_1]
    refine xi_ifge rfl (fun c1 => ?_) (fun c1 => ?_)
    · rw [i_le] at c1
      rw [if_neg (by intro hc; rcases hc with hc | hc; exact hc hp; omega)]
      refine xgo 80 rfl ?_
      try simp only [xlo0, List.map_cons, List.map_nil, List.length_cons, List.length_nil, xrs, xr0, Nat.reduceAdd, Nat.reduceSub, List.cons_append, List.nil_append, List.set_cons_zero, List.set_cons_succ, Option.toList_none, Option.toList_some, nI_1]
      refine xi_ifne rfl (fun c2 => ?_) (fun c2 => ?_)
      · rw [if_neg c2]
        refine xgo 80 rfl ?_
        try simp only [xlo0, List.map_cons, List.map_nil, List.length_cons, List.length_nil, xrs, xr0, Nat.reduceAdd, Nat.reduceSub, List.cons_append, List.nil_append, List.set_cons_zero, List.set_cons_succ, Option.toList_none, Option.toList_some, nI_1]
        refine xi_icmpne rfl (fun c3 => ?_) (fun c3 => ?_)
        · rw [if_neg c3]
          refine xgo 80 rfl ?_
          try simp only [xlo0, List.map_cons, List.map_nil, List.length_cons, List.length_nil, xrs, xr0, Nat.reduceAdd, Nat.reduceSub, List.cons_append, List.nil_append, List.set_cons_zero, List.set_cons_succ, Option.toList_none, Option.toList_some, nI_1]
          refine xcV 8 rfl rfl rfl (c_BK_hasPart hbk) rfl kX0_hasPart iX0_hasPart hbk.1 ⟨_, rfl, rfl⟩ rfl rfl (Nat.le_of_ble_eq_true rfl) (fun v2 s2 q2 => ?_)
          obtain ⟨rfl, rfl⟩ := q2
          refine xgo 80 rfl ?_
          try simp only [xlo0, List.map_cons, List.map_nil, List.length_cons, List.length_nil, xrs, xr0, Nat.reduceAdd, Nat.reduceSub, List.cons_append, List.nil_append, List.set_cons_zero, List.set_cons_succ, Option.toList_none, Option.toList_some, nI_1]
          refine xi_ifeq rfl (fun c4 => ?_) (fun c4 => ?_)
          · rw [bI_z] at c4
            rw [c4]
            refine xgo 80 rfl ?_
            try simp only [xlo0, List.map_cons, List.map_nil, List.length_cons, List.length_nil, xrs, xr0, Nat.reduceAdd, Nat.reduceSub, List.cons_append, List.nil_append, List.set_cons_zero, List.set_cons_succ, Option.toList_none, Option.toList_some, nI_1]
            refine xi_ret_i rfl rfl rfl (ppost.same h rfl)
          · rw [bI_z, Bool.not_eq_false] at c4
            rw [c4]
            refine xgo 80 rfl ?_
            try simp only [xlo0, List.map_cons, List.map_nil, List.length_cons, List.length_nil, xrs, xr0, Nat.reduceAdd, Nat.reduceSub, List.cons_append, List.nil_append, List.set_cons_zero, List.set_cons_succ, Option.toList_none, Option.toList_some, nI_1]
            refine xi_ret_i rfl rfl rfl (ppost.same h rfl)
        · rw [if_pos c3]
          refine xgo 80 rfl ?_
          try simp only [xlo0, List.map_cons, List.map_nil, List.length_cons, List.length_nil, xrs, xr0, Nat.reduceAdd, Nat.reduceSub, List.cons_append, List.nil_append, List.set_cons_zero, List.set_cons_succ, Option.toList_none, Option.toList_some, nI_1]
          refine xg 8 rfl rfl rfl hbk.1 rfl ?_
          refine xgo 80 rfl ?_
          try simp only [xlo0, List.map_cons, List.map_nil, List.length_cons, List.length_nil, xrs, xr0, Nat.reduceAdd, Nat.reduceSub, List.cons_append, List.nil_append, List.set_cons_zero, List.set_cons_succ, Option.toList_none, Option.toList_some, nI_1]
          refine xi_ret_i rfl rfl rfl (ppost.same h rfl)
      · rw [if_pos c2]
        refine xgo 80 rfl ?_
        try simp only [xlo0, List.map_cons, List.map_nil, List.length_cons, List.length_nil, xrs, xr0, Nat.reduceAdd, Nat.reduceSub, List.cons_append, List.nil_append, List.set_cons_zero, List.set_cons_succ, Option.toList_none, Option.toList_some, nI_1]
        refine xg 8 rfl rfl rfl hbk.1 rfl ?_
        refine xgo 80 rfl ?_
        try simp only [xlo0, List.map_cons, List.map_nil, List.length_cons, List.length_nil, xrs, xr0, Nat.reduceAdd, Nat.reduceSub, List.cons_append, List.nil_append, List.set_cons_zero, List.set_cons_succ, Option.toList_none, Option.toList_some, nI_1]
        refine xi_ret_i rfl rfl rfl (ppost.same h rfl)
    · rw [i_le] at c1
      refine xgo 80 rfl ?_
      try simp only [xlo0, List.map_cons, List.map_nil, List.length_cons, List.length_nil, xrs, xr0, Nat.reduceAdd, Nat.reduceSub, List.cons_append, List.nil_append, List.set_cons_zero, List.set_cons_succ, Option.toList_none, Option.toList_some, nI_1]
      refine xi_ret_i rfl rfl rfl (ppost.same h (if_pos (by right; omega)))
  · refine xm_at 4 rfl (by decide) (Nat.le_of_ble_eq_true rfl) (by simp [Value.category]) tX8_book_ok ?_
    try simp only [xlo0, List.map_cons, List.map_nil, List.length_cons, List.length_nil, xrs, xr0, Nat.reduceAdd, Nat.reduceSub, List.cons_append, List.nil_append, List.set_cons_zero, List.set_cons_succ, Option.toList_none, Option.toList_some, nI_1]
    refine xgo 80 rfl ?_
    try simp only [xlo0, List.map_cons, List.map_nil, List.length_cons, List.length_nil, xrs, xr0, Nat.reduceAdd, Nat.reduceSub, List.cons_append, List.nil_append, List.set_cons_zero, List.set_cons_succ, Option.toList_none, Option.toList_some, nI_1]
    refine xcV 8 rfl rfl rfl (c_PP_bookAtN hp) rfl kX8_bookAt iX8_bookAt h.obj ⟨_, rfl, rfl⟩ rfl rfl (Nat.le_of_ble_eq_true rfl) (fun v1 s1 q1 => ?_)
    obtain ⟨rfl, rfl⟩ := q1
    refine xgo 80 rfl ?_
    try simp only [xlo0, List.map_cons, List.map_nil, List.length_cons, List.length_nil, xrs, xr0, Nat.reduceAdd, Nat.reduceSub, List.cons_append, List.nil_append, List.set_cons_zero, List.set_cons_succ, Option.toList_none, Option.toList_some, nI_1]
    refine xi_ifnull_n rfl ?_
    refine xgo 80 rfl ?_
    try simp only [xlo0, List.map_cons, List.map_nil, List.length_cons, List.length_nil, xrs, xr0, Nat.reduceAdd, Nat.reduceSub, List.cons_append, List.nil_append, List.set_cons_zero, List.set_cons_succ, Option.toList_none, Option.toList_some, nI_1]
    refine xi_ret_i rfl rfl rfl (ppost.same h (if_pos (Or.inl hp)))
def zB (Z : pZ) (b : Nat) (v : bB) : pZ := (Z.1, Z.2.1, Z.2.2.1, Z.2.2.2.1, fun q => if q = b then v else Z.2.2.2.2.1 q, Z.2.2.2.2.2)
def bEmpty : bB := ((0, 0, 0), List.replicate 88 none, List.replicate 88 none)
theorem pw.book1 {G : xG} {σ σ' : xS} {own own' : Nat → Nat} {rc b : Nat} {Z : pZ} {v : bB} (H : pw G σ own rc Z) (hb : b < 16) (f : ∀ q, q < σ.2.1 → q ≠ 24 + 2 * b → q ≠ 24 + 2 * b + 1 → σ'.1 q = σ.1 q) (hn : σ.2.1 ≤ σ'.2.1) (eo : ∀ q, own q ≠ 0 → own' q = own q) (hbk : bk G σ'.1 (24 + 2 * b) v.1.1 v.1.2.1 v.1.2.2 v.2.1 v.2.2) (htk : ∀ i k, v.2.1[i]? = some (some k) → own' k = 1000 + 100 * b + i ∧ own' (k + 1) = 1000 + 100 * b + i) (hown : ∀ q, own' q ≠ 0 → ((65 ≤ q ∧ q < 82) ∨ 124 ≤ q) ∧ q < σ'.2.1) : pw G σ' own' rc (zB Z b v) := by
  obtain ⟨a0, a1, a2, ⟨ds, a3⟩, a4, a5, ⟨bw, sz, mb, ml, a6⟩, a7, a8, ⟨st, a9⟩, a10⟩ := H
  have h0 := a10.1
  have ho := a10.2
  refine ⟨(f 0 (by omega) (by omega) (by omega)).trans a0, a1.keepQ (fun q _ _ => f q (by omega) (by omega) (by omega)), a2.keep eo (fun q hq => f q (by have := ho q; omega) (by have := ho q; omega) (by have := ho q; omega)), ⟨ds, a3.keepQ (fun q _ _ => f q (by omega) (by omega) (by omega))⟩, a4.keepQ (fun q _ _ => f q (by omega) (by omega) (by omega)), ⟨(f 23 (by omega) (by omega) (by omega)).trans a5.1, fun c hc => ?_⟩, ⟨bw, sz, mb, ml, a6.keepQ (fun q _ _ => f q (by omega) (by omega) (by omega))⟩, a7.keep eo (fun q hq => f q (by have := ho q; omega) (by have := ho q; omega) (by have := ho q; omega)), a8.keep eo (fun q hq => f q (by have := ho q; omega) (by have := ho q; omega) (by have := ho q; omega)), ⟨st, a9.keepQ (fun q _ _ => f q (by omega) (by omega) (by omega))⟩, by omega, hown⟩
  by_cases hcb : c = b
  · subst hcb
    simp only [zB, if_true]
    exact ⟨hbk, htk⟩
  · simp only [zB, if_neg hcb]
    obtain ⟨⟨b1, b2, b3⟩, b4⟩ := a5.2 c hc
    refine ⟨⟨(f _ (by omega) (by omega) (by omega)).trans b1, (f _ (by omega) (by omega) (by omega)).trans b2, b3.keep (fun k hk => ?_)⟩, fun i k hk => ?_⟩
    · obtain ⟨i, hi⟩ := List.getElem?_of_mem hk
      have := b4 i k hi
      have o1 := ho k (by omega)
      have o2 := ho (k + 1) (by omega)
      exact ⟨f _ (by omega) (by omega) (by omega), f _ (by omega) (by omega) (by omega)⟩
    · have := b4 i k hk
      exact ⟨(eo _ (by omega)).trans this.1, (eo _ (by omega)).trans this.2⟩
theorem rep_none {i k : Nat} (h : (List.replicate 88 (none : Option Nat))[i]? = some (some k)) : False := by
  rw [List.getElem?_replicate] at h
  split at h <;> cases h
def F_drop (p : Int32) (Z : pZ) : Int32 × pZ := if blw p 16 then ((Z.2.2.2.2.1 p.toInt.toNat).1.2.1, zB Z p.toInt.toNat bEmpty) else (-1, Z)
set_option maxRecDepth 100000 in
set_option maxHeartbeats 2000000 in
theorem c_PP_drop {G : xG} {d rc : Nat} {own : Nat → Nat} {p : Int32} {Z : pZ} {σ : xS} (h : pw G σ own rc Z) : xm G (d + 20) mX8_drop [rf G 0, .int p] σ (ppost G σ (F_drop p Z)) := by
  unfold F_drop
  by_cases hp : blw p 16
  · rw [if_pos hp]
    generalize hb : p.toInt.toNat = b
    have hpb : p = nI b := by rw [← hb]; exact toN hp.1
    subst hpb
    have hb16 : b < 16 := by omega
    have hbk := (h.2.2.2.2.2.1.2 b hb16).1
    refine xm_at 4 rfl (by decide) (Nat.le_of_ble_eq_true rfl) (by simp [Value.category]) tX8_drop_ok ?_
    try simp only [xlo0, List.map_cons, List.map_nil, List.length_cons, List.length_nil, xrs, xr0, Nat.reduceAdd, Nat.reduceSub, List.cons_append, List.nil_append, List.set_cons_zero, List.set_cons_succ, Option.toList_none, Option.toList_some, nI_1]
    refine xgo 80 rfl ?_
    try simp only [xlo0, List.map_cons, List.map_nil, List.length_cons, List.length_nil, xrs, xr0, Nat.reduceAdd, Nat.reduceSub, List.cons_append, List.nil_append, List.set_cons_zero, List.set_cons_succ, Option.toList_none, Option.toList_some, nI_1]
    refine xcV 8 rfl rfl rfl (c_PP_bookAt h hb16) rfl kX8_bookAt iX8_bookAt h.obj ⟨_, rfl, rfl⟩ rfl rfl (Nat.le_of_ble_eq_true rfl) (fun v1 s1 q1 => ?_)
    obtain ⟨rfl, rfl⟩ := q1
    refine xgo 80 rfl ?_
    try simp only [xlo0, List.map_cons, List.map_nil, List.length_cons, List.length_nil, xrs, xr0, Nat.reduceAdd, Nat.reduceSub, List.cons_append, List.nil_append, List.set_cons_zero, List.set_cons_succ, Option.toList_none, Option.toList_some, nI_1]
    refine xi_ifnonnull_r rfl ?_
    refine xgo 80 rfl ?_
    try simp only [xlo0, List.map_cons, List.map_nil, List.length_cons, List.length_nil, xrs, xr0, Nat.reduceAdd, Nat.reduceSub, List.cons_append, List.nil_append, List.set_cons_zero, List.set_cons_succ, Option.toList_none, Option.toList_some, nI_1]
    refine xg 8 rfl rfl rfl hbk.1 rfl ?_
    refine xgo 80 rfl ?_
    try simp only [xlo0, List.map_cons, List.map_nil, List.length_cons, List.length_nil, xrs, xr0, Nat.reduceAdd, Nat.reduceSub, List.cons_append, List.nil_append, List.set_cons_zero, List.set_cons_succ, Option.toList_none, Option.toList_some, nI_1]
    refine xcV 8 rfl rfl rfl (c_BK_clear hbk) rfl kX0_clear iX0_clear hbk.1 ⟨_, rfl, rfl⟩ rfl rfl (Nat.le_of_ble_eq_true rfl) (fun v2 s2 q2 => ?_)
    obtain ⟨rfl, p1, p2, p3⟩ := q2
    have e1 : s2.2.1 = s1.2.1 := congrArg Prod.fst p3
    have hp2 := h.book1 (v := bEmpty) hb16 (fun q _ h1 h2 => p2 q (by omega)) (by omega) (fun _ _ => rfl) p1 (fun i k hk => (rep_none hk).elim) (by rw [e1]; exact h.own0.2.2)
    refine xgo 80 rfl ?_
    try simp only [xlo0, List.map_cons, List.map_nil, List.length_cons, List.length_nil, xrs, xr0, Nat.reduceAdd, Nat.reduceSub, List.cons_append, List.nil_append, List.set_cons_zero, List.set_cons_succ, Option.toList_none, Option.toList_some, nI_1]
    refine xi_ret_i rfl rfl rfl ⟨rfl, ⟨own, rc, hp2⟩, fun q h1 h2 => p2 q (by omega), by rw [p3]; omega, by rw [p3]; omega, by rw [p3]; omega⟩
  · rw [if_neg hp]
    refine xm_at 4 rfl (by decide) (Nat.le_of_ble_eq_true rfl) (by simp [Value.category]) tX8_drop_ok ?_
    try simp only [xlo0, List.map_cons, List.map_nil, List.length_cons, List.length_nil, xrs, xr0, Nat.reduceAdd, Nat.reduceSub, List.cons_append, List.nil_append, List.set_cons_zero, List.set_cons_succ, Option.toList_none, Option.toList_some, nI_1]
    refine xgo 80 rfl ?_
    try simp only [xlo0, List.map_cons, List.map_nil, List.length_cons, List.length_nil, xrs, xr0, Nat.reduceAdd, Nat.reduceSub, List.cons_append, List.nil_append, List.set_cons_zero, List.set_cons_succ, Option.toList_none, Option.toList_some, nI_1]
    refine xcV 8 rfl rfl rfl (c_PP_bookAtN hp) rfl kX8_bookAt iX8_bookAt h.obj ⟨_, rfl, rfl⟩ rfl rfl (Nat.le_of_ble_eq_true rfl) (fun v1 s1 q1 => ?_)
    obtain ⟨rfl, rfl⟩ := q1
    refine xgo 80 rfl ?_
    try simp only [xlo0, List.map_cons, List.map_nil, List.length_cons, List.length_nil, xrs, xr0, Nat.reduceAdd, Nat.reduceSub, List.cons_append, List.nil_append, List.set_cons_zero, List.set_cons_succ, Option.toList_none, Option.toList_some, nI_1]
    refine xi_ifnonnull_n rfl ?_
    refine xgo 80 rfl ?_
    try simp only [xlo0, List.map_cons, List.map_nil, List.length_cons, List.length_nil, xrs, xr0, Nat.reduceAdd, Nat.reduceSub, List.cons_append, List.nil_append, List.set_cons_zero, List.set_cons_succ, Option.toList_none, Option.toList_some, nI_1]
    refine xi_ret_i rfl rfl rfl (ppost.same h rfl)
