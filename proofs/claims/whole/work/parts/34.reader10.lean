set_option maxRecDepth 100000 in
set_option maxHeartbeats 8000000 in
theorem c_RD_init {G : xG} {d r : Nat} {σ : xS} (h : σ.1 r = some (5, xdef 5)) (hx : σ.2.1 = r + 1) : xm G (d + 2) mX5_init [rf G r] σ (fun v σ' => v = none ∧ rd0 G σ'.1 r (r + 5) cnew (List.replicate 8 0) (List.replicate 8 0) ∧ (∀ q, (q < r ∨ r + 22 ≤ q) → σ'.1 q = σ.1 q) ∧ σ'.2.1 = r + 22 ∧ σ'.2.2 = σ.2.2 + 1041) := by
  have hxd : xdef 5 = [.null, .null, .int 0, .int 0, .null, .null] := rfl
  rw [hxd] at h
  have hN1 : xN 1 = 2 := rfl
  have hN2 : xN 2 = 15 := rfl
  refine xm_at 1 rfl (by decide) (Nat.le_of_ble_eq_true rfl) (by simp [Value.category]) tX5_init_ok ?_
  try simp only [xlo0, List.map_cons, List.map_nil, List.length_cons, List.length_nil, xrs, xr0, Nat.reduceAdd, Nat.reduceSub, List.cons_append, List.nil_append, List.set_cons_zero, List.set_cons_succ, Option.toList_none, Option.toList_some, nI_1]
  refine xgo 80 rfl ?_
  try simp only [xlo0, List.map_cons, List.map_nil, List.length_cons, List.length_nil, xrs, xr0, Nat.reduceAdd, Nat.reduceSub, List.cons_append, List.nil_append, List.set_cons_zero, List.set_cons_succ, Option.toList_none, Option.toList_some, nI_1]
  refine xi_obj rfl oX5 (Nat.le_of_ble_eq_true rfl) ?_
  refine xgo 80 rfl ?_
  try simp only [xlo0, List.map_cons, List.map_nil, List.length_cons, List.length_nil, xrs, xr0, Nat.reduceAdd, Nat.reduceSub, List.cons_append, List.nil_append, List.set_cons_zero, List.set_cons_succ, Option.toList_none, Option.toList_some, nI_1]
  refine xna (t := 11) (atype := .int) (N := 8) hx rfl rfl (by decide) (by decide) rfl a_11 (by decide) rfl (by decide) (fun s1 n1 f1 g1 k1 => ?_)
  have h := (f1 _ (by omega)).trans h
  refine xgo 80 rfl ?_
  try simp only [xlo0, List.map_cons, List.map_nil, List.length_cons, List.length_nil, xrs, xr0, Nat.reduceAdd, Nat.reduceSub, List.cons_append, List.nil_append, List.set_cons_zero, List.set_cons_succ, Option.toList_none, Option.toList_some, nI_1]
  refine xpF rfl fX5_9F rfl h rfl rfl rfl (fun s2 n2 f2 e2 => ?_)
  have n1 := (f2 _ (by omega)).trans n1
  refine xgo 80 rfl ?_
  try simp only [xlo0, List.map_cons, List.map_nil, List.length_cons, List.length_nil, xrs, xr0, Nat.reduceAdd, Nat.reduceSub, List.cons_append, List.nil_append, List.set_cons_zero, List.set_cons_succ, Option.toList_none, Option.toList_some, nI_1]
  refine xna (t := 11) (atype := .int) (N := 8) ((congrArg Prod.fst e2).trans g1) rfl rfl (by decide) (by decide) rfl a_11 (by decide) rfl (by decide) (fun s3 n3 f3 g3 k3 => ?_)
  have n1 := (f3 _ (by omega)).trans n1
  have n2 := (f3 _ (by omega)).trans n2
  refine xgo 80 rfl ?_
  try simp only [xlo0, List.map_cons, List.map_nil, List.length_cons, List.length_nil, xrs, xr0, Nat.reduceAdd, Nat.reduceSub, List.cons_append, List.nil_append, List.set_cons_zero, List.set_cons_succ, Option.toList_none, Option.toList_some, nI_1]
  refine xpF rfl fX5_15F rfl n2 rfl rfl rfl (fun s4 n4 f4 e4 => ?_)
  have n1 := (f4 _ (by omega)).trans n1
  have n3 := (f4 _ (by omega)).trans n3
  have e21 : s2.2.1 = s1.2.1 := congrArg Prod.fst e2
  have e22 : s2.2.2 = s1.2.2 := congrArg Prod.snd e2
  have e41 : s4.2.1 = s3.2.1 := congrArg Prod.fst e4
  have e42 : s4.2.2 = s3.2.2 := congrArg Prod.snd e4
  refine xgo 80 rfl ?_
  try simp only [xlo0, List.map_cons, List.map_nil, List.length_cons, List.length_nil, xrs, xr0, Nat.reduceAdd, Nat.reduceSub, List.cons_append, List.nil_append, List.set_cons_zero, List.set_cons_succ, Option.toList_none, Option.toList_some, nI_1]
  refine xnn (k := r + 3) (by omega) rfl nX5_18 (fun s5 n5 f5 g5 k5 => ?_)
  have n1 := (f5 _ (by omega)).trans n1
  have n3 := (f5 _ (by omega)).trans n3
  have n4 := (f5 _ (by omega)).trans n4
  refine xgo 80 rfl ?_
  try simp only [xlo0, List.map_cons, List.map_nil, List.length_cons, List.length_nil, xrs, xr0, Nat.reduceAdd, Nat.reduceSub, List.cons_append, List.nil_append, List.set_cons_zero, List.set_cons_succ, Option.toList_none, Option.toList_some, nI_1]
  refine xcI 5 rfl rfl rfl (c_BR_init (a := r + 3) (fs := [.null]) (room := 0) n5 (by decide) (by decide) (by omega)) rfl kX1_init iX1_init rfl rfl rfl rfl (Nat.le_of_ble_eq_true rfl) (fun v6 s6 q6 => ?_)
  obtain ⟨rfl, p1, p2, p3, p4, p5⟩ := q6
  rw [g5] at p1 p2 p3 p4
  have n4 := (p3 _ (by omega) (by omega)).trans n4
  have n1 := (p3 _ (by omega) (by omega)).trans n1
  have n3 := (p3 _ (by omega) (by omega)).trans n3
  refine xgo 80 rfl ?_
  try simp only [xlo0, List.map_cons, List.map_nil, List.length_cons, List.length_nil, xrs, xr0, Nat.reduceAdd, Nat.reduceSub, List.cons_append, List.nil_append, List.set_cons_zero, List.set_cons_succ, Option.toList_none, Option.toList_some, nI_1]
  refine xp 5 rfl rfl rfl n4 rfl rfl rfl (fun s7 n7 f7 e7 => ?_)
  have n1 := (f7 _ (by omega)).trans n1
  have n3 := (f7 _ (by omega)).trans n3
  have e71 : s7.2.1 = s6.2.1 := congrArg Prod.fst e7
  have e72 : s7.2.2 = s6.2.2 := congrArg Prod.snd e7
  have z0 : (0 : Int32).toInt.toNat = 0 := rfl
  refine xgo 80 rfl ?_
  try simp only [xlo0, List.map_cons, List.map_nil, List.length_cons, List.length_nil, xrs, xr0, Nat.reduceAdd, Nat.reduceSub, List.cons_append, List.nil_append, List.set_cons_zero, List.set_cons_succ, Option.toList_none, Option.toList_some, nI_1]
  refine xnn (k := r + 5) (by omega) rfl nX5_27 (fun s8 n8 f8 g8 k8 => ?_)
  have n1 := (f8 _ (by omega)).trans n1
  have n3 := (f8 _ (by omega)).trans n3
  have n7 := (f8 _ (by omega)).trans n7
  refine xgo 80 rfl ?_
  try simp only [xlo0, List.map_cons, List.map_nil, List.length_cons, List.length_nil, xrs, xr0, Nat.reduceAdd, Nat.reduceSub, List.cons_append, List.nil_append, List.set_cons_zero, List.set_cons_succ, Option.toList_none, Option.toList_some, nI_1]
  refine xcI 5 rfl rfl rfl (c_CT_init n8 g8) rfl kX2_init iX2_init rfl rfl rfl rfl (Nat.le_of_ble_eq_true rfl) (fun v9 s9 q9 => ?_)
  obtain ⟨rfl, t1, t2, t3, t4⟩ := q9
  have n7 := (t2 _ (by omega)).trans n7
  have n1 := (t2 _ (by omega)).trans n1
  have n3 := (t2 _ (by omega)).trans n3
  refine xgo 80 rfl ?_
  try simp only [xlo0, List.map_cons, List.map_nil, List.length_cons, List.length_nil, xrs, xr0, Nat.reduceAdd, Nat.reduceSub, List.cons_append, List.nil_append, List.set_cons_zero, List.set_cons_succ, Option.toList_none, Option.toList_some, nI_1]
  refine xp 5 rfl rfl rfl n7 rfl rfl rfl (fun s10 n10 f10 e10 => ?_)
  have n1 := (f10 _ (by omega)).trans n1
  have n3 := (f10 _ (by omega)).trans n3
  have e101 : s10.2.1 = s9.2.1 := congrArg Prod.fst e10
  have e102 : s10.2.2 = s9.2.2 := congrArg Prod.snd e10
  have fz : frz s9.1 s10.1 r 1 := frz.one f10 (by omega) (by omega)
  refine xgo 80 rfl ?_
  try simp only [xlo0, List.map_cons, List.map_nil, List.length_cons, List.length_nil, xrs, xr0, Nat.reduceAdd, Nat.reduceSub, List.cons_append, List.nil_append, List.set_cons_zero, List.set_cons_succ, Option.toList_none, Option.toList_some, nI_1]
  refine xi_ret_v rfl rfl ⟨rfl, ⟨⟨_, _, _, n10⟩, by rw [n1]; rfl, by rw [n3]; rfl, rfl, rfl, t1.keep fz (by omega)⟩, fun q hq => by rw [f10 q (by omega), t2 q (by omega), f8 q (by omega), f7 q (by omega), p3 q (by omega) (by omega), f5 q (by omega), f4 q (by omega), f3 q (by omega), f2 q (by omega), f1 q (by omega)], by omega, by omega⟩
