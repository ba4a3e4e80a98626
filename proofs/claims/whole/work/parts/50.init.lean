set_option maxRecDepth 100000 in
set_option maxHeartbeats 2000000 in
theorem l_PP_init {G : xG} {d : Nat} {σ : xS} {Q : Option Value → xS → Prop} (h0 : σ.1 0 = some (8, [rf G 1, .int 0, rf G 18, .int 0, rf G 19, rf G 21, rf G 23, .null, .null, .null, .null, .int 0]))
    (kq : ∀ s : xS, s.1 23 = some (13, (List.range 16).map (fun i => rf G (24 + 2 * i))) → (∀ b, b < 16 → bk G s.1 (24 + 2 * b) 0 0 0 (List.replicate 88 none) (List.replicate 88 none)) → (∀ q, q < 23 → s.1 q = σ.1 q) → s.2.1 = 56 → s.2.2 = σ.2.2 + 92 * 16 → xw G (d + 2) mX8_init 87 [some (rf G 0), some (.int 16)] [] s Q) : ∀ (n i : Nat) (s : xS) (ar : List Value), i + n = 16 → s.1 23 = some (13, ar) → ar.length = 16 → (∀ j, j < i → ar[j]? = some (rf G (24 + 2 * j))) → (∀ b, b < i → bk G s.1 (24 + 2 * b) 0 0 0 (List.replicate 88 none) (List.replicate 88 none)) → (∀ q, q < 23 → s.1 q = σ.1 q) → s.2.1 = 24 + 2 * i → s.2.2 = σ.2.2 + 92 * i →
    xw G (d + 2) mX8_init 62 [some (rf G 0), some (.int (nI i))] [] s Q := by
  intro n
  induction n with
  | zero =>
    intro i s ar hi h1 h2 h3 h4 h5 h6 h7
    have : i = 16 := by omega
    subst this
    refine xgo 80 rfl ?_
    try simp only [xlo0, List.map_cons, List.map_nil, List.length_cons, List.length_nil, xrs, xr0, Nat.reduceAdd, Nat.reduceSub, List.cons_append, List.nil_append, List.set_cons_zero, List.set_cons_succ, Option.toList_none, Option.toList_some, nI_1]
    refine xi_icmpge rfl (fun c => ?_) (fun c => ?_)
    · refine kq s ?_ h4 h5 h6 h7
      rw [h1]
      congr 2
      apply List.ext_getElem?
      intro j
      by_cases hj : j < 16
      · rw [h3 j hj, yrangeP hj]
      · rw [List.getElem?_eq_none (by omega), List.getElem?_eq_none (by simp; omega)]
    · exact absurd (by decide) c
  | succ n ih =>
    intro i s ar hi h1 h2 h3 h4 h5 h6 h7
    have hN0 : xN 0 = 4 := rfl
    have hcl : (nI i).toNatClampNeg = i := nI_clamp (by omega)
    have z16 : (16 : Int32).toInt = 16 := rfl
    refine xgo 80 rfl ?_
    try simp only [xlo0, List.map_cons, List.map_nil, List.length_cons, List.length_nil, xrs, xr0, Nat.reduceAdd, Nat.reduceSub, List.cons_append, List.nil_append, List.set_cons_zero, List.set_cons_succ, Option.toList_none, Option.toList_some, nI_1]
    refine xi_icmpge rfl (fun c => ?_) (fun c => ?_)
    · exact absurd c (by rw [i_le, i_n (by omega)]; omega)
    refine xgo 80 rfl ?_
    try simp only [xlo0, List.map_cons, List.map_nil, List.length_cons, List.length_nil, xrs, xr0, Nat.reduceAdd, Nat.reduceSub, List.cons_append, List.nil_append, List.set_cons_zero, List.set_cons_succ, Option.toList_none, Option.toList_some, nI_1]
    refine xg 8 rfl rfl rfl ((h5 0 (by omega)).trans h0) rfl ?_
    refine xgo 80 rfl ?_
    try simp only [xlo0, List.map_cons, List.map_nil, List.length_cons, List.length_nil, xrs, xr0, Nat.reduceAdd, Nat.reduceSub, List.cons_append, List.nil_append, List.set_cons_zero, List.set_cons_succ, Option.toList_none, Option.toList_some, nI_1]
    refine xnn (k := 24 + 2 * i) h6 rfl nX8_32 (fun s1 n1 f1 g1 k1 => ?_)
    refine xgo 80 rfl ?_
    try simp only [xlo0, List.map_cons, List.map_nil, List.length_cons, List.length_nil, xrs, xr0, Nat.reduceAdd, Nat.reduceSub, List.cons_append, List.nil_append, List.set_cons_zero, List.set_cons_succ, Option.toList_none, Option.toList_some, nI_1]
    refine xcI 8 rfl rfl rfl (c_BK_init (b := 24 + 2 * i) n1 (by omega)) rfl kX0_init iX0_init rfl rfl rfl rfl (Nat.le_of_ble_eq_true rfl) (fun v2 s2 q2 => ?_)
    obtain ⟨rfl, p1, p2, p3, p4⟩ := q2
    have h1' : s2.1 23 = some (13, ar) := by rw [p2 23 (by omega), f1 23 (by omega)]; exact h1
    refine xgo 80 rfl ?_
    try simp only [xlo0, List.map_cons, List.map_nil, List.length_cons, List.length_nil, xrs, xr0, Nat.reduceAdd, Nat.reduceSub, List.cons_append, List.nil_append, List.set_cons_zero, List.set_cons_succ, Option.toList_none, Option.toList_some, nI_1]
    refine xsa rfl h1' (by decide) (by decide) p1.1 (nI_pos (by omega)) (by rw [hcl]; omega) (fun s3 n3 f3 e3 => ?_)
    have e31 : s3.2.1 = s2.2.1 := congrArg Prod.fst e3
    have e32 : s3.2.2 = s2.2.2 := congrArg Prod.snd e3
    refine xto 62 80 rfl ?_
    try simp only [xlo0, List.map_cons, List.map_nil, List.length_cons, List.length_nil, xrs, xr0, Nat.reduceAdd, Nat.reduceSub, List.cons_append, List.nil_append, List.set_cons_zero, List.set_cons_succ, Option.toList_none, Option.toList_some, nI_1]
    refine ih (i + 1) s3 (ar.set i (rf G (24 + 2 * i))) (by omega) (by rw [n3, hcl]) (by rw [List.length_set]; exact h2) (fun j hj => ?_) (fun b hb => ?_) (fun q hq => by rw [f3 q (by omega), p2 q (by omega), f1 q (by omega), h5 q hq]) (by omega) (by omega)
    · by_cases hji : j = i
      · subst hji
        exact List.getElem?_set_self (by omega)
      · rw [List.getElem?_set_ne (by omega)]
        exact h3 j (by omega)
    · have key : ∀ q, q ≠ 23 → s3.1 q = s2.1 q := f3
      by_cases hbi : b = i
      · subst hbi
        obtain ⟨r1, r2, r3⟩ := p1
        exact ⟨(key _ (by omega)).trans r1, (key _ (by omega)).trans r2, r3.keep (fun k hk => by simp at hk)⟩
      · obtain ⟨r1, r2, r3⟩ := h4 b (by omega)
        exact ⟨by rw [key _ (by omega), p2 _ (by omega), f1 _ (by omega)]; exact r1, by rw [key _ (by omega), p2 _ (by omega), f1 _ (by omega)]; exact r2, r3.keep (fun k hk => by simp at hk)⟩
def zNew : pZ := (cnew, false, [], [], fun _ => bEmpty, [], 0)
set_option maxRecDepth 100000 in
set_option maxHeartbeats 2000000 in
theorem c_PP_init {G : xG} {d : Nat} {σ : xS} (h : σ.1 0 = some (8, xdef 8)) (hx : σ.2.1 = 1) : xm G (d + 5) mX8_init [rf G 0] σ (fun v σ' => v = none ∧ (∀ s : xS, (∀ q, q < 87 → s.1 q = σ'.1 q) → 124 ≤ s.2.1 → ∃ own, pw G s own 65 zNew) ∧ σ'.2.1 = 87 ∧ σ'.2.2 ≤ σ.2.2 + 20000) := by
  have hxd : xdef 8 = [.null, .int 0, .null, .int 0, .null, .null, .null, .null, .null, .null, .null, .int 0] := rfl
  rw [hxd] at h
  have hN1 : xN 1 = 2 := rfl
  have hN2 : xN 2 = 15 := rfl
  have hN4 : xN 4 = 3 := rfl
  have hN5 : xN 5 = 6 := rfl
  have hN6 : xN 6 = 4 := rfl
  have hN7 : xN 7 = 2 := rfl
  refine xm_at 2 rfl (by decide) (Nat.le_of_ble_eq_true rfl) (by simp [Value.category]) tX8_init_ok ?_
  try simp only [xlo0, List.map_cons, List.map_nil, List.length_cons, List.length_nil, xrs, xr0, Nat.reduceAdd, Nat.reduceSub, List.cons_append, List.nil_append, List.set_cons_zero, List.set_cons_succ, Option.toList_none, Option.toList_some, nI_1]
  refine xgo 80 rfl ?_
  try simp only [xlo0, List.map_cons, List.map_nil, List.length_cons, List.length_nil, xrs, xr0, Nat.reduceAdd, Nat.reduceSub, List.cons_append, List.nil_append, List.set_cons_zero, List.set_cons_succ, Option.toList_none, Option.toList_some, nI_1]
  refine xi_obj rfl oX8 (Nat.le_of_ble_eq_true rfl) ?_
  refine xgo 80 rfl ?_
  try simp only [xlo0, List.map_cons, List.map_nil, List.length_cons, List.length_nil, xrs, xr0, Nat.reduceAdd, Nat.reduceSub, List.cons_append, List.nil_append, List.set_cons_zero, List.set_cons_succ, Option.toList_none, Option.toList_some, nI_1]
  refine xnn (k := 1) hx rfl nX8_9 (fun s1 n1 f1 g1 k1 => ?_)
  have h := (f1 _ (by omega)).trans h
  refine xgo 80 rfl ?_
  try simp only [xlo0, List.map_cons, List.map_nil, List.length_cons, List.length_nil, xrs, xr0, Nat.reduceAdd, Nat.reduceSub, List.cons_append, List.nil_append, List.set_cons_zero, List.set_cons_succ, Option.toList_none, Option.toList_some, nI_1]
  refine xcI 8 rfl rfl rfl (c_CT_init (c := 1) n1 (by omega)) rfl kX2_init iX2_init rfl rfl rfl rfl (Nat.le_of_ble_eq_true rfl) (fun v2 s2 q2 => ?_)
  obtain ⟨rfl, p1, p2, p3, p4⟩ := q2
  have h := (p2 0 (by omega)).trans h
  refine xgo 80 rfl ?_
  try simp only [xlo0, List.map_cons, List.map_nil, List.length_cons, List.length_nil, xrs, xr0, Nat.reduceAdd, Nat.reduceSub, List.cons_append, List.nil_append, List.set_cons_zero, List.set_cons_succ, Option.toList_none, Option.toList_some, nI_1]
  refine xpF rfl fX8_12F rfl h rfl rfl rfl (fun s3 n3 f3 e3 => ?_)
  have e31 : s3.2.1 = s2.2.1 := congrArg Prod.fst e3
  have e32 : s3.2.2 = s2.2.2 := congrArg Prod.snd e3
  have p1 := p1.keepQ (h' := s3.1) (fun q _ _ => f3 q (by omega))
  refine xgo 80 rfl ?_
  try simp only [xlo0, List.map_cons, List.map_nil, List.length_cons, List.length_nil, xrs, xr0, Nat.reduceAdd, Nat.reduceSub, List.cons_append, List.nil_append, List.set_cons_zero, List.set_cons_succ, Option.toList_none, Option.toList_some, nI_1]
  refine xnb (t := 14) (k := 18) (N := 16) (by omega) rfl (by decide) (by decide) rfl (by decide) cX8_16 (by decide) rfl (by decide) (fun s4 n4 f4 g4 k4 => ?_)
  have n3 := (f4 _ (by omega)).trans n3
  refine xgo 80 rfl ?_
  try simp only [xlo0, List.map_cons, List.map_nil, List.length_cons, List.length_nil, xrs, xr0, Nat.reduceAdd, Nat.reduceSub, List.cons_append, List.nil_append, List.set_cons_zero, List.set_cons_succ, Option.toList_none, Option.toList_some, nI_1]
  refine xpF rfl fX8_18F rfl n3 rfl rfl rfl (fun s5 n5 f5 e5 => ?_)
  have n4 := (f5 _ (by omega)).trans n4
  have e51 : s5.2.1 = s4.2.1 := congrArg Prod.fst e5
  have e52 : s5.2.2 = s4.2.2 := congrArg Prod.snd e5
  have p1 := p1.keepQ (h' := s5.1) (fun q _ _ => by rw [f5 q (by omega), f4 q (by omega)])
  refine xgo 80 rfl ?_
  try simp only [xlo0, List.map_cons, List.map_nil, List.length_cons, List.length_nil, xrs, xr0, Nat.reduceAdd, Nat.reduceSub, List.cons_append, List.nil_append, List.set_cons_zero, List.set_cons_succ, Option.toList_none, Option.toList_some, nI_1]
  refine xnn (k := 19) (by omega) rfl nX8_16 (fun s6 n6 f6 g6 k6 => ?_)
  refine xgo 80 rfl ?_
  try simp only [xlo0, List.map_cons, List.map_nil, List.length_cons, List.length_nil, xrs, xr0, Nat.reduceAdd, Nat.reduceSub, List.cons_append, List.nil_append, List.set_cons_zero, List.set_cons_succ, Option.toList_none, Option.toList_some, nI_1]
  refine xcI 8 rfl rfl rfl (c_BR_init (a := 19) (fs := [.null]) (room := 2020) n6 (by decide) (by decide) (by omega)) rfl kX1_init iX1_init rfl rfl rfl rfl (Nat.le_of_ble_eq_true rfl) (fun v7 s7 q7 => ?_)
  obtain ⟨rfl, r1, r2, r3, r4, r5⟩ := q7
  rw [g6] at r1 r2 r3 r4
  have z0 : (2020 : Int32).toInt.toNat = 2020 := rfl
  rw [z0] at r2 r5
  have h := (r3 0 (by omega) (by omega)).trans ((f6 0 (by omega)).trans n5)
  refine xgo 80 rfl ?_
  try simp only [xlo0, List.map_cons, List.map_nil, List.length_cons, List.length_nil, xrs, xr0, Nat.reduceAdd, Nat.reduceSub, List.cons_append, List.nil_append, List.set_cons_zero, List.set_cons_succ, Option.toList_none, Option.toList_some, nI_1]
  refine xpF rfl fX8_25F rfl h rfl rfl rfl (fun s8 n8 f8 e8 => ?_)
  have e81 : s8.2.1 = s7.2.1 := congrArg Prod.fst e8
  have e82 : s8.2.2 = s7.2.2 := congrArg Prod.snd e8
  have dk : brr G s8.1 19 2020 [] := ⟨List.replicate 2020 0, (f8 _ (by omega)).trans r1, by rw [f8 _ (by omega), r2]; simp [vi], by simp, by simp, by simp, by omega⟩
  have c8 : ∀ q, q < 19 → q ≠ 0 → s8.1 q = s5.1 q := fun q h1 h2 => by rw [f8 q h2, r3 q (by omega) (by omega), f6 q (by omega)]
  have p1 := p1.keepQ (h' := s8.1) (fun q _ _ => c8 q (by omega) (by omega))
  have n4 := (c8 18 (by omega) (by omega)).trans n4
  refine xgo 80 rfl ?_
  try simp only [xlo0, List.map_cons, List.map_nil, List.length_cons, List.length_nil, xrs, xr0, Nat.reduceAdd, Nat.reduceSub, List.cons_append, List.nil_append, List.set_cons_zero, List.set_cons_succ, Option.toList_none, Option.toList_some, nI_1]
  refine xnn (k := 21) (by omega) rfl nX8_16 (fun s9 n9 f9 g9 k9 => ?_)
  refine xgo 80 rfl ?_
  try simp only [xlo0, List.map_cons, List.map_nil, List.length_cons, List.length_nil, xrs, xr0, Nat.reduceAdd, Nat.reduceSub, List.cons_append, List.nil_append, List.set_cons_zero, List.set_cons_succ, Option.toList_none, Option.toList_some, nI_1]
  refine xcI 8 rfl rfl rfl (c_BR_init (a := 21) (fs := [.null]) (room := 108) n9 (by decide) (by decide) (by omega)) rfl kX1_init iX1_init rfl rfl rfl rfl (Nat.le_of_ble_eq_true rfl) (fun v10 s10 q10 => ?_)
  obtain ⟨rfl, t1, t2, t3, t4, t5⟩ := q10
  rw [g9] at t1 t2 t3 t4
  have z0 : (108 : Int32).toInt.toNat = 108 := rfl
  rw [z0] at t2 t5
  have h := (t3 0 (by omega) (by omega)).trans ((f9 0 (by omega)).trans n8)
  refine xgo 80 rfl ?_
  try simp only [xlo0, List.map_cons, List.map_nil, List.length_cons, List.length_nil, xrs, xr0, Nat.reduceAdd, Nat.reduceSub, List.cons_append, List.nil_append, List.set_cons_zero, List.set_cons_succ, Option.toList_none, Option.toList_some, nI_1]
  refine xpF rfl fX8_29F rfl h rfl rfl rfl (fun s11 n11 f11 e11 => ?_)
  have e111 : s11.2.1 = s10.2.1 := congrArg Prod.fst e11
  have e112 : s11.2.2 = s10.2.2 := congrArg Prod.snd e11
  have rl : brr G s11.1 21 108 [] := ⟨List.replicate 108 0, (f11 _ (by omega)).trans t1, by rw [f11 _ (by omega), t2]; simp [vi], by simp, by simp, by simp, by omega⟩
  have c11 : ∀ q, q < 21 → q ≠ 0 → s11.1 q = s8.1 q := fun q h1 h2 => by rw [f11 q h2, t3 q (by omega) (by omega), f9 q (by omega)]
  have p1 := p1.keepQ (h' := s11.1) (fun q _ _ => c11 q (by omega) (by omega))
  have n4 := (c11 18 (by omega) (by omega)).trans n4
  have dk := dk.keepQ (h' := s11.1) (fun q _ _ => c11 q (by omega) (by omega))
  refine xgo 80 rfl ?_
  try simp only [xlo0, List.map_cons, List.map_nil, List.length_cons, List.length_nil, xrs, xr0, Nat.reduceAdd, Nat.reduceSub, List.cons_append, List.nil_append, List.set_cons_zero, List.set_cons_succ, Option.toList_none, Option.toList_some, nI_1]
  refine xnb (t := 13) (k := 23) (N := 16) (by omega) rfl (by decide) (by decide) rfl (by decide) cX8_32 (by decide) rfl (by decide) (fun s12 n12 f12 g12 k12 => ?_)
  have n11 := (f12 _ (by omega)).trans n11
  refine xgo 80 rfl ?_
  try simp only [xlo0, List.map_cons, List.map_nil, List.length_cons, List.length_nil, xrs, xr0, Nat.reduceAdd, Nat.reduceSub, List.cons_append, List.nil_append, List.set_cons_zero, List.set_cons_succ, Option.toList_none, Option.toList_some, nI_1]
  refine xpF rfl fX8_34F rfl n11 rfl rfl rfl (fun s13 n13 f13 e13 => ?_)
  have n12 := (f13 _ (by omega)).trans n12
  have e131 : s13.2.1 = s12.2.1 := congrArg Prod.fst e13
  have e132 : s13.2.2 = s12.2.2 := congrArg Prod.snd e13
  have c13 : ∀ q, q < 23 → q ≠ 0 → s13.1 q = s11.1 q := fun q h1 h2 => by rw [f13 q h2, f12 q (by omega)]
  have p1 := p1.keepQ (h' := s13.1) (fun q _ _ => c13 q (by omega) (by omega))
  have n4 := (c13 18 (by omega) (by omega)).trans n4
  have dk := dk.keepQ (h' := s13.1) (fun q _ _ => c13 q (by omega) (by omega))
  have rl := rl.keepQ (h' := s13.1) (fun q _ _ => c13 q (by omega) (by omega))
  refine xto 62 80 rfl ?_
  try simp only [xlo0, List.map_cons, List.map_nil, List.length_cons, List.length_nil, xrs, xr0, Nat.reduceAdd, Nat.reduceSub, List.cons_append, List.nil_append, List.set_cons_zero, List.set_cons_succ, Option.toList_none, Option.toList_some, nI_1]
  refine l_PP_init (d := d + 3) (σ := s13) n13 (fun s14 w1 w2 w3 w4 w5 => ?_) 16 0 s13 _ (by omega) n12 List.length_replicate (fun j hj => absurd hj (by omega)) (fun b hb => absurd hb (by omega)) (fun q hq => rfl) (by omega) (by omega)
  have p1 := p1.keepQ (h' := s14.1) (fun q _ _ => w3 q (by omega))
  have n4 := (w3 18 (by omega)).trans n4
  have dk := dk.keepQ (h' := s14.1) (fun q _ _ => w3 q (by omega))
  have rl := rl.keepQ (h' := s14.1) (fun q _ _ => w3 q (by omega))
  have h := (w3 0 (by omega)).trans n13
  refine xgo 80 rfl ?_
  try simp only [xlo0, List.map_cons, List.map_nil, List.length_cons, List.length_nil, xrs, xr0, Nat.reduceAdd, Nat.reduceSub, List.cons_append, List.nil_append, List.set_cons_zero, List.set_cons_succ, Option.toList_none, Option.toList_some, nI_1]
  refine xnn (k := 56) (by omega) rfl nX8_39 (fun s15 n15 f15 g15 k15 => ?_)
  refine xgo 80 rfl ?_
  try simp only [xlo0, List.map_cons, List.map_nil, List.length_cons, List.length_nil, xrs, xr0, Nat.reduceAdd, Nat.reduceSub, List.cons_append, List.nil_append, List.set_cons_zero, List.set_cons_succ, Option.toList_none, Option.toList_some, nI_1]
  refine xcI 8 rfl rfl rfl (c_WR_init (w := 56) n15 (by omega)) rfl kX6_init iX6_init rfl rfl rfl rfl (Nat.le_of_ble_eq_true rfl) (fun v16 s16 q16 => ?_)
  obtain ⟨rfl, a1, a2, a3, a4⟩ := q16
  have h := (a2 0 (by omega)).trans ((f15 0 (by omega)).trans h)
  refine xgo 80 rfl ?_
  try simp only [xlo0, List.map_cons, List.map_nil, List.length_cons, List.length_nil, xrs, xr0, Nat.reduceAdd, Nat.reduceSub, List.cons_append, List.nil_append, List.set_cons_zero, List.set_cons_succ, Option.toList_none, Option.toList_some, nI_1]
  refine xpF rfl fX8_42F rfl h rfl rfl rfl (fun s17 n17 f17 e17 => ?_)
  have e171 : s17.2.1 = s16.2.1 := congrArg Prod.fst e17
  have e172 : s17.2.2 = s16.2.2 := congrArg Prod.snd e17
  have wr := a1.keepQ (h' := s17.1) (fun q _ _ => f17 q (by omega))
  have c17 : ∀ q, q < 56 → q ≠ 0 → s17.1 q = s14.1 q := fun q h1 h2 => by rw [f17 q h2, a2 q (by omega), f15 q (by omega)]
  refine xgo 80 rfl ?_
  try simp only [xlo0, List.map_cons, List.map_nil, List.length_cons, List.length_nil, xrs, xr0, Nat.reduceAdd, Nat.reduceSub, List.cons_append, List.nil_append, List.set_cons_zero, List.set_cons_succ, Option.toList_none, Option.toList_some, nI_1]
  refine xnn (k := 60) (by omega) rfl nX8_46 (fun s18 n18 f18 g18 k18 => ?_)
  refine xgo 80 rfl ?_
  try simp only [xlo0, List.map_cons, List.map_nil, List.length_cons, List.length_nil, xrs, xr0, Nat.reduceAdd, Nat.reduceSub, List.cons_append, List.nil_append, List.set_cons_zero, List.set_cons_succ, Option.toList_none, Option.toList_some, nI_1]
  refine xcI 8 rfl rfl rfl (c_RD_init (r := 60) n18 (by omega)) rfl kX5_init iX5_init rfl rfl rfl rfl (Nat.le_of_ble_eq_true rfl) (fun v19 s19 q19 => ?_)
  obtain ⟨rfl, b1, b2, b3, b4⟩ := q19
  have h := (b2 0 (by omega)).trans ((f18 0 (by omega)).trans n17)
  refine xgo 80 rfl ?_
  try simp only [xlo0, List.map_cons, List.map_nil, List.length_cons, List.length_nil, xrs, xr0, Nat.reduceAdd, Nat.reduceSub, List.cons_append, List.nil_append, List.set_cons_zero, List.set_cons_succ, Option.toList_none, Option.toList_some, nI_1]
  refine xpF rfl fX8_49F rfl h rfl rfl rfl (fun s20 n20 f20 e20 => ?_)
  have e201 : s20.2.1 = s19.2.1 := congrArg Prod.fst e20
  have e202 : s20.2.2 = s19.2.2 := congrArg Prod.snd e20
  have rd := b1.keepQ (h' := s20.1) (fun q _ => f20 q (by omega))
  have c20 : ∀ q, q < 60 → q ≠ 0 → s20.1 q = s17.1 q := fun q h1 h2 => by rw [f20 q h2, b2 q (by omega), f18 q (by omega)]
  have wr := wr.keepQ (h' := s20.1) (fun q _ _ => c20 q (by omega) (by omega))
  refine xgo 80 rfl ?_
  try simp only [xlo0, List.map_cons, List.map_nil, List.length_cons, List.length_nil, xrs, xr0, Nat.reduceAdd, Nat.reduceSub, List.cons_append, List.nil_append, List.set_cons_zero, List.set_cons_succ, Option.toList_none, Option.toList_some, nI_1]
  refine xnn (k := 82) (by omega) rfl nX8_53 (fun s21 n21 f21 g21 k21 => ?_)
  refine xgo 80 rfl ?_
  try simp only [xlo0, List.map_cons, List.map_nil, List.length_cons, List.length_nil, xrs, xr0, Nat.reduceAdd, Nat.reduceSub, List.cons_append, List.nil_append, List.set_cons_zero, List.set_cons_succ, Option.toList_none, Option.toList_some, nI_1]
  refine xcI 8 rfl rfl rfl (c_SH_init (s := 82) n21 (by omega)) rfl kX7_init iX7_init rfl rfl rfl rfl (Nat.le_of_ble_eq_true rfl) (fun v22 s22 q22 => ?_)
  obtain ⟨rfl, u1, u2, u3, u4⟩ := q22
  have h := (u2 0 (by omega)).trans ((f21 0 (by omega)).trans n20)
  refine xgo 80 rfl ?_
  try simp only [xlo0, List.map_cons, List.map_nil, List.length_cons, List.length_nil, xrs, xr0, Nat.reduceAdd, Nat.reduceSub, List.cons_append, List.nil_append, List.set_cons_zero, List.set_cons_succ, Option.toList_none, Option.toList_some, nI_1]
  refine xpF rfl fX8_56F rfl h rfl rfl rfl (fun s23 n23 f23 e23 => ?_)
  have e231 : s23.2.1 = s22.2.1 := congrArg Prod.fst e23
  have e232 : s23.2.2 = s22.2.2 := congrArg Prod.snd e23
  have sh := u1.keepQ (h' := s23.1) (f23 _ (by omega)) (f23 _ (by omega)) (fun i x hx => by simp at hx)
  have c23 : ∀ q, q < 82 → q ≠ 0 → s23.1 q = s20.1 q := fun q h1 h2 => by rw [f23 q h2, u2 q (by omega), f21 q (by omega)]
  have rd := rd.keepQ (h' := s23.1) (fun q _ => c23 q (by omega) (by omega))
  have wr := wr.keepQ (h' := s23.1) (fun q _ _ => c23 q (by omega) (by omega))
  refine xgo 80 rfl ?_
  try simp only [xlo0, List.map_cons, List.map_nil, List.length_cons, List.length_nil, xrs, xr0, Nat.reduceAdd, Nat.reduceSub, List.cons_append, List.nil_append, List.set_cons_zero, List.set_cons_succ, Option.toList_none, Option.toList_some, nI_1]
  refine xnn (k := 84) (by omega) rfl nX8_60 (fun s24 n24 f24 g24 k24 => ?_)
  refine xgo 80 rfl ?_
  try simp only [xlo0, List.map_cons, List.map_nil, List.length_cons, List.length_nil, xrs, xr0, Nat.reduceAdd, Nat.reduceSub, List.cons_append, List.nil_append, List.set_cons_zero, List.set_cons_succ, Option.toList_none, Option.toList_some, nI_1]
  refine xcI 8 rfl rfl rfl (c_FN_init (f := 84) n24 (by omega)) rfl kX4_init iX4_init rfl rfl rfl rfl (Nat.le_of_ble_eq_true rfl) (fun v25 s25 q25 => ?_)
  obtain ⟨rfl, v1, v2, v3, v4⟩ := q25
  have h := (v2 0 (by omega)).trans ((f24 0 (by omega)).trans n23)
  refine xgo 80 rfl ?_
  try simp only [xlo0, List.map_cons, List.map_nil, List.length_cons, List.length_nil, xrs, xr0, Nat.reduceAdd, Nat.reduceSub, List.cons_append, List.nil_append, List.set_cons_zero, List.set_cons_succ, Option.toList_none, Option.toList_some, nI_1]
  refine xpF rfl fX8_63F rfl h rfl rfl rfl (fun s26 n26 f26 e26 => ?_)
  have e261 : s26.2.1 = s25.2.1 := congrArg Prod.fst e26
  have e262 : s26.2.2 = s25.2.2 := congrArg Prod.snd e26
  have fd := v1.keepQ (h' := s26.1) (fun q _ _ => f26 q (by omega))
  have c26 : ∀ q, q < 84 → q ≠ 0 → s26.1 q = s23.1 q := fun q h1 h2 => by rw [f26 q h2, v2 q (by omega), f24 q (by omega)]
  refine xgo 80 rfl ?_
  refine xi_ret_v rfl rfl ⟨rfl, fun s hs hn => ?_, by omega, by omega⟩
  have cA : ∀ q, q < 23 → q ≠ 0 → s.1 q = s14.1 q := fun q h1 h2 => by rw [hs q (by omega), c26 q (by omega) h2, c23 q (by omega) h2, c20 q (by omega) h2, c17 q (by omega) h2]
  have cB : ∀ q, q < 56 → q ≠ 0 → s.1 q = s14.1 q := fun q h1 h2 => by rw [hs q (by omega), c26 q (by omega) h2, c23 q (by omega) h2, c20 q (by omega) h2, c17 q (by omega) h2]
  obtain ⟨own, ho⟩ : ∃ own : Nat → Nat, ∀ q, own q = if 65 ≤ q ∧ q < 82 then 400 else 0 := ⟨_, fun _ => rfl⟩
  refine ⟨own, by rw [hs 0 (by omega)]; exact n26, p1.keepQ (fun q _ _ => cA q (by omega) (by omega)), ⟨by decide, _, (cA 18 (by omega) (by omega)).trans n4, List.length_replicate, fun i x hx => by simp [zNew] at hx⟩, ⟨[], dk.keepQ (fun q _ _ => cA q (by omega) (by omega))⟩, rl.keepQ (fun q _ _ => cA q (by omega) (by omega)), ⟨(cB 23 (by omega) (by omega)).trans w1, fun b hb => ?_⟩, ⟨_, _, _, _, wr.keepQ (fun q _ _ => by rw [hs q (by omega), c26 q (by omega) (by omega)])⟩, ⟨⟨_, _, _, rd.keepQ (fun q _ => by rw [hs q (by omega), c26 q (by omega) (by omega)])⟩, fun q h1 h2 => by rw [ho, if_pos ⟨by omega, by omega⟩]⟩, ⟨sh.keepQ (by rw [hs _ (by omega), c26 _ (by omega) (by omega)]) (by rw [hs _ (by omega), c26 _ (by omega) (by omega)]) (fun i x hx => by simp at hx), fun i x hx => by simp [zNew] at hx⟩, ⟨_, fd.keepQ (fun q _ _ => hs q (by omega))⟩, hn, fun q hq => ?_⟩
  · obtain ⟨r1, r2, r3⟩ := w2 b hb
    exact ⟨⟨(cB _ (by omega) (by omega)).trans r1, (cB _ (by omega) (by omega)).trans r2, r3.keep (fun k hk => by simp at hk)⟩, fun i k hk => (rep_none hk).elim⟩
  · rw [ho] at hq
    by_cases hc : 65 ≤ q ∧ q < 82
    · omega
    · rw [if_neg hc] at hq
      exact absurd rfl hq
