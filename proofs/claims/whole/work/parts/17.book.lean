set_option maxRecDepth 100000 in
set_option maxHeartbeats 8000000 in
theorem c_BR_part {G : xG} {d a cap i e : Nat} {bs : List Int32} {σ : xS} (h : brr G σ.1 a cap bs) (hi : i ≤ e) (he : e ≤ bs.length) (ha : a + 2 ≤ σ.2.1) : xm G (d + 2) mX1_part [rf G a, .int (nI i), .int (nI e)] σ (fun v σ' => v = some (rf G σ.2.1) ∧ brr G σ'.1 σ.2.1 (e - i) ((bs.drop i).take (e - i)) ∧ (∀ q, q < σ.2.1 → σ'.1 q = σ.1 q) ∧ σ'.2.1 = σ.2.1 + 2 ∧ σ'.2.2 = σ.2.2 + (2 + (e - i))) := by
  have hl := h.len
  obtain ⟨k, hk⟩ : ∃ k, σ.2.1 = k := ⟨_, rfl⟩
  rw [hk] at ha ⊢
  refine xm_at 4 rfl (by decide) (Nat.le_of_ble_eq_true rfl) (by simp [Value.category]) tX1_part_ok ?_
  try simp only [xlo0, List.map_cons, List.map_nil, List.length_cons, List.length_nil, xrs, xr0, Nat.reduceAdd, Nat.reduceSub, List.cons_append, List.nil_append, List.set_cons_zero, List.set_cons_succ, Option.toList_none, Option.toList_some, nI_1]
  refine xgo 80 rfl ?_
  try simp only [xlo0, List.map_cons, List.map_nil, List.length_cons, List.length_nil, xrs, xr0, Nat.reduceAdd, Nat.reduceSub, List.cons_append, List.nil_append, List.set_cons_zero, List.set_cons_succ, Option.toList_none, Option.toList_some, nI_1]
  refine xnn hk rfl nX1_16 (fun s1 n1 f1 g1 k1 => ?_)
  refine xgo 80 rfl ?_
  try simp only [xlo0, List.map_cons, List.map_nil, List.length_cons, List.length_nil, xrs, xr0, Nat.reduceAdd, Nat.reduceSub, List.cons_append, List.nil_append, List.set_cons_zero, List.set_cons_succ, Option.toList_none, Option.toList_some, nI_1]
  rw [nI_subN hi]
  have hr : (nI (e - i)).toInt = ((e - i : Nat) : Int) := i_n (by omega)
  refine xgo 80 rfl ?_
  try simp only [xlo0, List.map_cons, List.map_nil, List.length_cons, List.length_nil, xrs, xr0, Nat.reduceAdd, Nat.reduceSub, List.cons_append, List.nil_append, List.set_cons_zero, List.set_cons_succ, Option.toList_none, Option.toList_some, nI_1]
  refine xcI 1 rfl rfl rfl (c_BR_init (a := k) (fs := [.null]) (room := nI (e - i)) n1 (by omega) (by omega) (by omega)) rfl kX1_init iX1_init rfl rfl rfl rfl (Nat.le_of_ble_eq_true rfl) (fun v2 s2 q2 => ?_)
  obtain ⟨rfl, p1, p2, p3, p4, p5⟩ := q2
  rw [g1] at p1 p2 p3
  rw [g1] at p4
  have hrn : (nI (e - i)).toInt.toNat = e - i := by omega
  rw [hrn] at p2 p5
  have hk2 : xN 1 = 2 := rfl
  have hb : brr G s2.1 k (e - i) [] := ⟨List.replicate (e - i) 0, p1, by rw [p2]; simp [vi], by simp, by simp, by simp, by omega⟩
  have hfr : ∀ q, q < k → s2.1 q = σ.1 q := fun q hq => by rw [p3 q (by omega) (by omega), f1 q (by omega)]
  have h2 : brr G s2.1 a cap bs := by
    obtain ⟨xs, b1, b2, b3⟩ := h
    exact ⟨xs, by rw [hfr _ (by omega)]; exact b1, by rw [hfr _ (by omega)]; exact b2, b3⟩
  refine xgo 80 rfl ?_
  try simp only [xlo0, List.map_cons, List.map_nil, List.length_cons, List.length_nil, xrs, xr0, Nat.reduceAdd, Nat.reduceSub, List.cons_append, List.nil_append, List.set_cons_zero, List.set_cons_succ, Option.toList_none, Option.toList_some, nI_1]
  refine xcV 1 rfl rfl rfl (c_BR_pushRange hb h2 (by omega) hi he (by simp)) rfl kX1_pushRange iX1_pushRange hb.obj ⟨_, rfl, rfl⟩ rfl rfl (Nat.le_of_ble_eq_true rfl) (fun v3 s3 q3 => ?_)
  obtain ⟨rfl, r1, r2, r3⟩ := q3
  have e31 : s3.2.1 = s2.2.1 := congrArg Prod.fst r3
  have e32 : s3.2.2 = s2.2.2 := congrArg Prod.snd r3
  refine xgo 80 rfl ?_
  try simp only [xlo0, List.map_cons, List.map_nil, List.length_cons, List.length_nil, xrs, xr0, Nat.reduceAdd, Nat.reduceSub, List.cons_append, List.nil_append, List.set_cons_zero, List.set_cons_succ, Option.toList_none, Option.toList_some, nI_1]
  refine xi_ret_a rfl rfl (Or.inl ⟨_, rfl⟩) (Or.inr ⟨_, rfl⟩) ⟨rfl, by simpa using r1, fun q hq => by rw [r2 q (by omega), hfr q hq], by omega, by omega⟩
/-! ===== Book ===== -/
def oref (G : xG) (o : Option Nat) : Value := match o with
  | some k => rf G k
  | none => .null
/-- parts that came: where they lie, what they hold -/
def bkt (G : xG) (h : Nat → Option xC) (tk : List (Option Nat)) (P : List (Option (List Int32))) : Prop := tk.length = 88 ∧ P.length = 88 ∧ ∀ i, i < 88 → (tk[i]? = some none ∧ P[i]? = some none) ∨ ∃ k bs, tk[i]? = some (some k) ∧ P[i]? = some (some bs) ∧ brr G h k bs.length bs
/-- a Book at b -/
def bk (G : xG) (h : Nat → Option xC) (b : Nat) (w c n : Int32) (tk : List (Option Nat)) (P : List (Option (List Int32))) : Prop := h b = some (0, [rf G (b + 1), .int w, .int c, .int n]) ∧ h (b + 1) = some (14, tk.map (oref G)) ∧ bkt G h tk P
theorem bkt.keep {G : xG} {h h' : Nat → Option xC} {tk : List (Option Nat)} {P : List (Option (List Int32))} (H : bkt G h tk P) (hk : ∀ k, some k ∈ tk → h' k = h k ∧ h' (k + 1) = h (k + 1)) : bkt G h' tk P := by
  obtain ⟨h1, h2, h3⟩ := H
  refine ⟨h1, h2, fun i hi => ?_⟩
  rcases h3 i hi with h | ⟨k, bs, a1, a2, xs, b1, b2, b3⟩
  · exact Or.inl h
  · obtain ⟨c1, c2⟩ := hk k (List.mem_of_getElem? a1)
    exact Or.inr ⟨k, bs, a1, a2, xs, by rw [c1]; exact b1, by rw [c2]; exact b2, b3⟩
theorem tk_get {G : xG} {tk : List (Option Nat)} {i : Nat} {o : Option Nat} (h : tk[i]? = some o) : (tk.map (oref G))[i]? = some (oref G o) := by rw [List.getElem?_map, h]; rfl
set_option maxRecDepth 100000 in
set_option maxHeartbeats 8000000 in
theorem c_BK_init {G : xG} {d b : Nat} {σ : xS} (h : σ.1 b = some (0, xdef 0)) (hb : σ.2.1 = b + 1) : xm G (d + 1) mX0_init [rf G b] σ (fun v σ' => v = none ∧ bk G σ'.1 b 0 0 0 (List.replicate 88 none) (List.replicate 88 none) ∧ (∀ q, (q < b ∨ b + 2 ≤ q) → σ'.1 q = σ.1 q) ∧ σ'.2.1 = b + 2 ∧ σ'.2.2 = σ.2.2 + 88) := by
  have hxd : xdef 0 = [.null, .int 0, .int 0, .int 0] := rfl
  rw [hxd] at h
  refine xm_at 1 rfl (by decide) (Nat.le_of_ble_eq_true rfl) (by simp [Value.category]) tX0_init_ok ?_
  try simp only [xlo0, List.map_cons, List.map_nil, List.length_cons, List.length_nil, xrs, xr0, Nat.reduceAdd, Nat.reduceSub, List.cons_append, List.nil_append, List.set_cons_zero, List.set_cons_succ, Option.toList_none, Option.toList_some, nI_1]
  refine xgo 80 rfl ?_
  try simp only [xlo0, List.map_cons, List.map_nil, List.length_cons, List.length_nil, xrs, xr0, Nat.reduceAdd, Nat.reduceSub, List.cons_append, List.nil_append, List.set_cons_zero, List.set_cons_succ, Option.toList_none, Option.toList_some, nI_1]
  refine xi_obj rfl oX0 (Nat.le_of_ble_eq_true rfl) ?_
  refine xgo 80 rfl ?_
  try simp only [xlo0, List.map_cons, List.map_nil, List.length_cons, List.length_nil, xrs, xr0, Nat.reduceAdd, Nat.reduceSub, List.cons_append, List.nil_append, List.set_cons_zero, List.set_cons_succ, Option.toList_none, Option.toList_some, nI_1]
  refine xnb (t := 14) (N := 88) hb rfl (by decide) (by decide) rfl (by decide) cX0_9 (by decide) rfl (by decide) (fun s1 n1 f1 g1 k1 => ?_)
  have h := (f1 _ (by omega)).trans h
  refine xgo 80 rfl ?_
  try simp only [xlo0, List.map_cons, List.map_nil, List.length_cons, List.length_nil, xrs, xr0, Nat.reduceAdd, Nat.reduceSub, List.cons_append, List.nil_append, List.set_cons_zero, List.set_cons_succ, Option.toList_none, Option.toList_some, nI_1]
  refine xpF rfl fX0_11F rfl h rfl rfl rfl (fun s2 n2 f2 e2 => ?_)
  have n1 := (f2 _ (by omega)).trans n1
  have e21 : s2.2.1 = s1.2.1 := congrArg Prod.fst e2
  have e22 : s2.2.2 = s1.2.2 := congrArg Prod.snd e2
  refine xgo 80 rfl ?_
  try simp only [xlo0, List.map_cons, List.map_nil, List.length_cons, List.length_nil, xrs, xr0, Nat.reduceAdd, Nat.reduceSub, List.cons_append, List.nil_append, List.set_cons_zero, List.set_cons_succ, Option.toList_none, Option.toList_some, nI_1]
  refine xi_ret_v rfl rfl ⟨rfl, ⟨n2, by rw [n1, List.map_replicate]; rfl, ⟨List.length_replicate, List.length_replicate, fun i hi => Or.inl ⟨by rw [List.getElem?_replicate, if_pos hi], by rw [List.getElem?_replicate, if_pos hi]⟩⟩⟩, fun q hq => by rw [f2 q (by omega), f1 q (by omega)], by omega, by omega⟩
/-- has part i come? -/
def phas (P : List (Option (List Int32))) (i : Int32) : Bool := decide (0 ≤ i.toInt ∧ i.toInt < 88) && (P.getD i.toInt.toNat none).isSome
set_option maxRecDepth 100000 in
set_option maxHeartbeats 8000000 in
theorem c_BK_hasPart {G : xG} {d b : Nat} {w c n i : Int32} {tk : List (Option Nat)} {P : List (Option (List Int32))} {σ : xS} (h : bk G σ.1 b w c n tk P) : xm G (d + 1) mX0_hasPart [rf G b, .int i] σ (fun v σ' => v = some (.int (bI (phas P i))) ∧ σ' = σ) := by
  obtain ⟨h1, h2, h3, h4, h5⟩ := h
  have z88 : (88 : Int32).toInt = 88 := rfl
  have z0 : (0 : Int32).toInt = 0 := rfl
  refine xm_at 2 rfl (by decide) (Nat.le_of_ble_eq_true rfl) (by simp [Value.category]) tX0_hasPart_ok ?_
  try simp only [xlo0, List.map_cons, List.map_nil, List.length_cons, List.length_nil, xrs, xr0, Nat.reduceAdd, Nat.reduceSub, List.cons_append, List.nil_append, List.set_cons_zero, List.set_cons_succ, Option.toList_none, Option.toList_some, nI_1]
  refine xgo 80 rfl ?_
  try simp only [xlo0, List.map_cons, List.map_nil, List.length_cons, List.length_nil, xrs, xr0, Nat.reduceAdd, Nat.reduceSub, List.cons_append, List.nil_append, List.set_cons_zero, List.set_cons_succ, Option.toList_none, Option.toList_some, nI_1]
  refine xcS 0 rfl rfl rfl c_isBelow rfl kX8_isBelow iX8_isBelow rfl rfl (Nat.le_of_ble_eq_true rfl) (fun v1 s1 q1 => ?_)
  obtain ⟨rfl, rfl⟩ := q1
  by_cases hin : 0 ≤ i.toInt ∧ i.toInt < 88
  · rw [if_pos (by rw [z88]; exact hin)]
    refine xgo 80 rfl ?_
    try simp only [xlo0, List.map_cons, List.map_nil, List.length_cons, List.length_nil, xrs, xr0, Nat.reduceAdd, Nat.reduceSub, List.cons_append, List.nil_append, List.set_cons_zero, List.set_cons_succ, Option.toList_none, Option.toList_some, nI_1]
    refine xi_ifeq rfl (fun c1 => ?_) (fun c1 => ?_)
    · exact absurd c1 (by decide)
    refine xgo 80 rfl ?_
    try simp only [xlo0, List.map_cons, List.map_nil, List.length_cons, List.length_nil, xrs, xr0, Nat.reduceAdd, Nat.reduceSub, List.cons_append, List.nil_append, List.set_cons_zero, List.set_cons_succ, Option.toList_none, Option.toList_some, nI_1]
    refine xg 0 rfl rfl rfl h1 rfl ?_
    rcases h5 i.toInt.toNat (by omega) with ⟨a1, a2⟩ | ⟨k, bs, a1, a2, -⟩
    · refine xgo 80 rfl ?_
      try simp only [xlo0, List.map_cons, List.map_nil, List.length_cons, List.length_nil, xrs, xr0, Nat.reduceAdd, Nat.reduceSub, List.cons_append, List.nil_append, List.set_cons_zero, List.set_cons_succ, Option.toList_none, Option.toList_some, nI_1]
      refine xi_aald rfl h2 (by decide) (by rw [i_lt]; omega) (by rw [i_cl]; exact tk_get a1) ?_
      refine xgo 80 rfl ?_
      try simp only [xlo0, List.map_cons, List.map_nil, List.length_cons, List.length_nil, xrs, xr0, Nat.reduceAdd, Nat.reduceSub, List.cons_append, List.nil_append, List.set_cons_zero, List.set_cons_succ, Option.toList_none, Option.toList_some, nI_1]
      refine xi_ifnull_n rfl ?_
      refine xgo 80 rfl ?_
      try simp only [xlo0, List.map_cons, List.map_nil, List.length_cons, List.length_nil, xrs, xr0, Nat.reduceAdd, Nat.reduceSub, List.cons_append, List.nil_append, List.set_cons_zero, List.set_cons_succ, Option.toList_none, Option.toList_some, nI_1]
      refine xi_ret_i rfl rfl (by decide) ⟨by have a2' : P[i.toNatClampNeg]? = some none := a2; simp [phas, List.getD_eq_getElem?_getD, a2', bI], rfl⟩
    · refine xgo 80 rfl ?_
      try simp only [xlo0, List.map_cons, List.map_nil, List.length_cons, List.length_nil, xrs, xr0, Nat.reduceAdd, Nat.reduceSub, List.cons_append, List.nil_append, List.set_cons_zero, List.set_cons_succ, Option.toList_none, Option.toList_some, nI_1]
      refine xi_aald rfl h2 (by decide) (by rw [i_lt]; omega) (by rw [i_cl]; exact tk_get a1) ?_
      refine xgo 80 rfl ?_
      try simp only [xlo0, List.map_cons, List.map_nil, List.length_cons, List.length_nil, xrs, xr0, Nat.reduceAdd, Nat.reduceSub, List.cons_append, List.nil_append, List.set_cons_zero, List.set_cons_succ, Option.toList_none, Option.toList_some, nI_1]
      refine xi_ifnull_r rfl ?_
      refine xgo 80 rfl ?_
      try simp only [xlo0, List.map_cons, List.map_nil, List.length_cons, List.length_nil, xrs, xr0, Nat.reduceAdd, Nat.reduceSub, List.cons_append, List.nil_append, List.set_cons_zero, List.set_cons_succ, Option.toList_none, Option.toList_some, nI_1]
      refine xi_ret_i rfl rfl (by decide) ⟨by have a2' : P[i.toNatClampNeg]? = some (some bs) := a2; simp [phas, hin, List.getD_eq_getElem?_getD, a2', bI], rfl⟩
  · rw [if_neg (by rw [z88]; exact hin)]
    refine xgo 80 rfl ?_
    try simp only [xlo0, List.map_cons, List.map_nil, List.length_cons, List.length_nil, xrs, xr0, Nat.reduceAdd, Nat.reduceSub, List.cons_append, List.nil_append, List.set_cons_zero, List.set_cons_succ, Option.toList_none, Option.toList_some, nI_1]
    refine xi_ifeq rfl (fun c1 => ?_) (fun c1 => ?_)
    · refine xgo 80 rfl ?_
      try simp only [xlo0, List.map_cons, List.map_nil, List.length_cons, List.length_nil, xrs, xr0, Nat.reduceAdd, Nat.reduceSub, List.cons_append, List.nil_append, List.set_cons_zero, List.set_cons_succ, Option.toList_none, Option.toList_some, nI_1]
      refine xi_ret_i rfl rfl (by decide) ⟨by simp [phas, hin, bI], rfl⟩
    · exact absurd rfl c1
set_option maxRecDepth 100000 in
set_option maxHeartbeats 8000000 in
theorem c_BK_putPart {G : xG} {d b r rc i : Nat} {w c n mn : Int32} {tk : List (Option Nat)} {P : List (Option (List Int32))} {bs : List Int32} {σ : xS} (h : bk G σ.1 b w c n tk P) (hi : i < 88) (hP : P[i]? = some none) (hr : brr G σ.1 r rc bs) (hl : 8 < bs.length) (hl2 : bs.length ≤ 108) (hbx : b + 2 ≤ σ.2.1) (hrx : r + 2 ≤ σ.2.1) (hbr : b + 2 ≤ r ∨ r + 2 ≤ b) (htk : ∀ k, some k ∈ tk → b + 2 ≤ k ∧ k + 2 ≤ σ.2.1) :
    xm G (d + 3) mX0_putPart [rf G b, .int (nI i), .int mn, rf G r] σ (fun v σ' => v = none ∧ bk G σ'.1 b mn (c + 1) (n + (nI (bs.length - 8))) (tk.set i (some σ.2.1)) (P.set i (some ((bs.drop 4).take (bs.length - 8)))) ∧ (∀ q, q < σ.2.1 → q ≠ b → q ≠ b + 1 → σ'.1 q = σ.1 q) ∧ σ'.2.1 = σ.2.1 + 2 ∧ σ'.2.2 ≤ σ.2.2 + 110) := by
  obtain ⟨h1, h2, h3, h4, h5⟩ := h
  have z88 : (88 : Int32).toInt = 88 := rfl
  have hin : (nI i).toInt = i := i_n (by omega)
  have hcl : (nI i).toNatClampNeg = i := nI_clamp (by omega)
  have a1 : tk[i]? = some none := by
    rcases h5 i hi with ⟨a1, -⟩ | ⟨k, bs, a1, a2, -⟩
    · exact a1
    · rw [hP] at a2; cases a2
  refine xm_at 4 rfl (by decide) (Nat.le_of_ble_eq_true rfl) (by simp [Value.category]) tX0_putPart_ok ?_
  try simp only [xlo0, List.map_cons, List.map_nil, List.length_cons, List.length_nil, xrs, xr0, Nat.reduceAdd, Nat.reduceSub, List.cons_append, List.nil_append, List.set_cons_zero, List.set_cons_succ, Option.toList_none, Option.toList_some, nI_1]
  refine xgo 80 rfl ?_
  try simp only [xlo0, List.map_cons, List.map_nil, List.length_cons, List.length_nil, xrs, xr0, Nat.reduceAdd, Nat.reduceSub, List.cons_append, List.nil_append, List.set_cons_zero, List.set_cons_succ, Option.toList_none, Option.toList_some, nI_1]
  refine xcS 0 rfl rfl rfl c_isBelow rfl kX8_isBelow iX8_isBelow rfl rfl (Nat.le_of_ble_eq_true rfl) (fun v1 s1 q1 => ?_)
  obtain ⟨rfl, rfl⟩ := q1
  rw [if_pos (by rw [z88]; omega)]
  refine xgo 80 rfl ?_
  try simp only [xlo0, List.map_cons, List.map_nil, List.length_cons, List.length_nil, xrs, xr0, Nat.reduceAdd, Nat.reduceSub, List.cons_append, List.nil_append, List.set_cons_zero, List.set_cons_succ, Option.toList_none, Option.toList_some, nI_1]
  refine xi_ifeq rfl (fun c1 => ?_) (fun c1 => ?_)
  · exact absurd c1 (by decide)
  refine xgo 80 rfl ?_
  try simp only [xlo0, List.map_cons, List.map_nil, List.length_cons, List.length_nil, xrs, xr0, Nat.reduceAdd, Nat.reduceSub, List.cons_append, List.nil_append, List.set_cons_zero, List.set_cons_succ, Option.toList_none, Option.toList_some, nI_1]
  refine xg 0 rfl rfl rfl h1 rfl ?_
  refine xgo 80 rfl ?_
  try simp only [xlo0, List.map_cons, List.map_nil, List.length_cons, List.length_nil, xrs, xr0, Nat.reduceAdd, Nat.reduceSub, List.cons_append, List.nil_append, List.set_cons_zero, List.set_cons_succ, Option.toList_none, Option.toList_some, nI_1]
  refine xi_aald rfl h2 (by decide) (nI_pos (by omega)) (by rw [hcl]; exact tk_get a1) ?_
  refine xgo 80 rfl ?_
  try simp only [xlo0, List.map_cons, List.map_nil, List.length_cons, List.length_nil, xrs, xr0, Nat.reduceAdd, Nat.reduceSub, List.cons_append, List.nil_append, List.set_cons_zero, List.set_cons_succ, Option.toList_none, Option.toList_some, nI_1]
  refine xi_ifnonnull_n rfl ?_
  refine xgo 80 rfl ?_
  try simp only [xlo0, List.map_cons, List.map_nil, List.length_cons, List.length_nil, xrs, xr0, Nat.reduceAdd, Nat.reduceSub, List.cons_append, List.nil_append, List.set_cons_zero, List.set_cons_succ, Option.toList_none, Option.toList_some, nI_1]
  refine xg 0 rfl rfl rfl h1 rfl ?_
  refine xgo 80 rfl ?_
  try simp only [xlo0, List.map_cons, List.map_nil, List.length_cons, List.length_nil, xrs, xr0, Nat.reduceAdd, Nat.reduceSub, List.cons_append, List.nil_append, List.set_cons_zero, List.set_cons_succ, Option.toList_none, Option.toList_some, nI_1]
  refine xg 0 rfl rfl rfl hr.obj rfl ?_
  refine xgo 80 rfl ?_
  try simp only [xlo0, List.map_cons, List.map_nil, List.length_cons, List.length_nil, xrs, xr0, Nat.reduceAdd, Nat.reduceSub, List.cons_append, List.nil_append, List.set_cons_zero, List.set_cons_succ, Option.toList_none, Option.toList_some, nI_1]
  have u4 : nI bs.length - 4 = nI (bs.length - 4) := nI_subN (a := bs.length) (b := 4) (by omega)
  have u8 : nI bs.length - 8 = nI (bs.length - 8) := nI_subN (a := bs.length) (b := 8) (by omega)
  rw [u4]
  refine xgo 80 rfl ?_
  try simp only [xlo0, List.map_cons, List.map_nil, List.length_cons, List.length_nil, xrs, xr0, Nat.reduceAdd, Nat.reduceSub, List.cons_append, List.nil_append, List.set_cons_zero, List.set_cons_succ, Option.toList_none, Option.toList_some, nI_1]
  refine xcV 0 rfl rfl rfl (c_BR_part (i := 4) (e := bs.length - 4) hr (by omega) (by omega) hrx) rfl kX1_part iX1_part hr.obj ⟨_, rfl, rfl⟩ rfl rfl (Nat.le_of_ble_eq_true rfl) (fun v2 s2 q2 => ?_)
  obtain ⟨rfl, p1, p2, p3, p4⟩ := q2
  have u5 : bs.length - 4 - 4 = bs.length - 8 := by omega
  rw [u5] at p1 p4
  have h1 := (p2 _ (by omega)).trans h1
  have h2 := (p2 _ (by omega)).trans h2
  have hr2 := (p2 _ (by omega)).trans hr.obj
  refine xgo 80 rfl ?_
  try simp only [xlo0, List.map_cons, List.map_nil, List.length_cons, List.length_nil, xrs, xr0, Nat.reduceAdd, Nat.reduceSub, List.cons_append, List.nil_append, List.set_cons_zero, List.set_cons_succ, Option.toList_none, Option.toList_some, nI_1]
  refine xsa rfl h2 (by decide) (by decide) p1.obj (nI_pos (by omega)) (by rw [hcl, List.length_map, h3]; exact hi) (fun s3 n3 f3 e3 => ?_)
  have h1 := (f3 _ (by omega)).trans h1
  have hr2 := (f3 _ (by omega)).trans hr2
  refine xgo 80 rfl ?_
  try simp only [xlo0, List.map_cons, List.map_nil, List.length_cons, List.length_nil, xrs, xr0, Nat.reduceAdd, Nat.reduceSub, List.cons_append, List.nil_append, List.set_cons_zero, List.set_cons_succ, Option.toList_none, Option.toList_some, nI_1]
  refine xp 0 rfl rfl rfl h1 rfl rfl rfl (fun s4 n4 f4 e4 => ?_)
  have n3 := (f4 _ (by omega)).trans n3
  have hr2 := (f4 _ (by omega)).trans hr2
  refine xgo 80 rfl ?_
  try simp only [xlo0, List.map_cons, List.map_nil, List.length_cons, List.length_nil, xrs, xr0, Nat.reduceAdd, Nat.reduceSub, List.cons_append, List.nil_append, List.set_cons_zero, List.set_cons_succ, Option.toList_none, Option.toList_some, nI_1]
  refine xg 0 rfl rfl rfl n4 rfl ?_
  refine xgo 80 rfl ?_
  try simp only [xlo0, List.map_cons, List.map_nil, List.length_cons, List.length_nil, xrs, xr0, Nat.reduceAdd, Nat.reduceSub, List.cons_append, List.nil_append, List.set_cons_zero, List.set_cons_succ, Option.toList_none, Option.toList_some, nI_1]
  refine xp 0 rfl rfl rfl n4 rfl rfl rfl (fun s5 n5 f5 e5 => ?_)
  have n3 := (f5 _ (by omega)).trans n3
  have hr2 := (f5 _ (by omega)).trans hr2
  refine xgo 80 rfl ?_
  try simp only [xlo0, List.map_cons, List.map_nil, List.length_cons, List.length_nil, xrs, xr0, Nat.reduceAdd, Nat.reduceSub, List.cons_append, List.nil_append, List.set_cons_zero, List.set_cons_succ, Option.toList_none, Option.toList_some, nI_1]
  refine xg 0 rfl rfl rfl n5 rfl ?_
  refine xgo 80 rfl ?_
  try simp only [xlo0, List.map_cons, List.map_nil, List.length_cons, List.length_nil, xrs, xr0, Nat.reduceAdd, Nat.reduceSub, List.cons_append, List.nil_append, List.set_cons_zero, List.set_cons_succ, Option.toList_none, Option.toList_some, nI_1]
  refine xg 0 rfl rfl rfl hr2 rfl ?_
  refine xgo 80 rfl ?_
  try simp only [xlo0, List.map_cons, List.map_nil, List.length_cons, List.length_nil, xrs, xr0, Nat.reduceAdd, Nat.reduceSub, List.cons_append, List.nil_append, List.set_cons_zero, List.set_cons_succ, Option.toList_none, Option.toList_some, nI_1]
  rw [u8]
  refine xgo 80 rfl ?_
  try simp only [xlo0, List.map_cons, List.map_nil, List.length_cons, List.length_nil, xrs, xr0, Nat.reduceAdd, Nat.reduceSub, List.cons_append, List.nil_append, List.set_cons_zero, List.set_cons_succ, Option.toList_none, Option.toList_some, nI_1]
  refine xp 0 rfl rfl rfl n5 rfl rfl rfl (fun s6 n6 f6 e6 => ?_)
  have n3 := (f6 _ (by omega)).trans n3
  have hkk : s6.2 = s2.2 := by rw [e6, e5, e4, e3]
  have g1 : s6.2.1 = s2.2.1 := congrArg Prod.fst hkk
  have g2 : s6.2.2 = s2.2.2 := congrArg Prod.snd hkk
  have hff : ∀ q, q ≠ b → q ≠ b + 1 → s6.1 q = s2.1 q := fun q x1 x2 => by rw [f6 q x1, f5 q x1, f4 q x1, f3 q x2]
  have hlen : ((bs.drop 4).take (bs.length - 8)).length = bs.length - 8 := by simp; omega
  refine xgo 80 rfl ?_
  try simp only [xlo0, List.map_cons, List.map_nil, List.length_cons, List.length_nil, xrs, xr0, Nat.reduceAdd, Nat.reduceSub, List.cons_append, List.nil_append, List.set_cons_zero, List.set_cons_succ, Option.toList_none, Option.toList_some, nI_1]
  refine xi_ret_v rfl rfl ⟨rfl, ⟨n6, by rw [n3, hcl, List.map_set]; rfl, by rw [List.length_set]; exact h3, by rw [List.length_set]; exact h4, fun j hj => ?_⟩, fun q x1 x2 x3 => by rw [hff q x2 x3, p2 q x1], by omega, by omega⟩
  by_cases hji : i = j
  · subst hji
    refine Or.inr ⟨_, _, List.getElem?_set_self (by omega), List.getElem?_set_self (by omega), ?_⟩
    rw [hlen]
    obtain ⟨xs, b1, b2, b3⟩ := p1
    exact ⟨xs, by rw [hff _ (by omega) (by omega)]; exact b1, by rw [hff _ (by omega) (by omega)]; exact b2, b3⟩
  · rcases h5 j hj with ⟨x1, x2⟩ | ⟨k, cs, x1, x2, xs, b1, b2, b3⟩
    · exact Or.inl ⟨by rw [List.getElem?_set_ne hji]; exact x1, by rw [List.getElem?_set_ne hji]; exact x2⟩
    · obtain ⟨y1, y2⟩ := htk k (List.mem_of_getElem? x1)
      exact Or.inr ⟨k, cs, by rw [List.getElem?_set_ne hji]; exact x1, by rw [List.getElem?_set_ne hji]; exact x2, xs, by rw [hff _ (by omega) (by omega), p2 _ (by omega)]; exact b1, by rw [hff _ (by omega) (by omega), p2 _ (by omega)]; exact b2, b3⟩
/-- the bytes of all parts, by their numbers -/
def pjoin (P : List (Option (List Int32))) : List Int32 := P.flatMap (fun o => o.getD [])
theorem pjoin_snoc (P : List (Option (List Int32))) {j : Nat} {o : Option (List Int32)} (h : P[j]? = some o) : pjoin (P.take (j + 1)) = pjoin (P.take j) ++ o.getD [] := by
  rw [List.take_succ, h]
  simp [pjoin]
theorem pjoin_le (P : List (Option (List Int32))) (j : Nat) : (pjoin (P.take j)).length ≤ (pjoin P).length := by
  have h : P = P.take j ++ P.drop j := (List.take_append_drop j P).symm
  have e : pjoin P = pjoin (P.take j) ++ pjoin (P.drop j) := by
    unfold pjoin
    rw [← List.flatMap_append, List.take_append_drop]
  rw [e, List.length_append]
  omega
set_option maxRecDepth 100000 in
set_option maxHeartbeats 8000000 in
theorem l_BK_joinOnto {G : xG} {d b o oc : Nat} {w c n : Int32} {tk : List (Option Nat)} {P : List (Option (List Int32))} {σ : xS} (hob : o + 2 ≤ b) (htk : ∀ k, some k ∈ tk → o + 2 ≤ k) (hcap : (pjoin P).length ≤ oc) : ∀ (m j : Nat) (x3 : Option Value) (s : xS), j + m = 88 → bk G s.1 b w c n tk P → brr G s.1 o oc (pjoin (P.take j)) → frz σ.1 s.1 o 2 → s.2 = σ.2 →
    xw G (d + 2) mX0_joinOnto 6 [some (rf G b), some (rf G o), some (.int (nI j)), x3] [] s (fun v σ' => v = none ∧ bk G σ'.1 b w c n tk P ∧ brr G σ'.1 o oc (pjoin P) ∧ frz σ.1 σ'.1 o 2 ∧ σ'.2 = σ.2) := by
  have z88 : (88 : Int32).toInt = 88 := rfl
  intro m
  induction m with
  | zero =>
    intro j x3 s hj h ho hf hs
    have hj' : j = 88 := by omega
    subst hj'
    refine xgo 80 rfl ?_
    try simp only [xlo0, List.map_cons, List.map_nil, List.length_cons, List.length_nil, xrs, xr0, Nat.reduceAdd, Nat.reduceSub, List.cons_append, List.nil_append, List.set_cons_zero, List.set_cons_succ, Option.toList_none, Option.toList_some, nI_1]
    refine xi_icmpge rfl (fun c1 => ?_) (fun c1 => ?_)
    · rw [List.take_of_length_le (by have := h.2.2.2.1; omega)] at ho
      refine xgo 80 rfl ?_
      try simp only [xlo0, List.map_cons, List.map_nil, List.length_cons, List.length_nil, xrs, xr0, Nat.reduceAdd, Nat.reduceSub, List.cons_append, List.nil_append, List.set_cons_zero, List.set_cons_succ, Option.toList_none, Option.toList_some, nI_1]
      refine xi_ret_v rfl rfl ⟨rfl, h, ho, hf, hs⟩
    · exact absurd (by decide) c1
  | succ m ih =>
    intro j x3 s hj h ho hf hs
    obtain ⟨h1, h2, h3, h4, h5⟩ := id h
    have hcl : (nI j).toNatClampNeg = j := nI_clamp (by omega)
    refine xgo 80 rfl ?_
    try simp only [xlo0, List.map_cons, List.map_nil, List.length_cons, List.length_nil, xrs, xr0, Nat.reduceAdd, Nat.reduceSub, List.cons_append, List.nil_append, List.set_cons_zero, List.set_cons_succ, Option.toList_none, Option.toList_some, nI_1]
    refine xi_icmpge rfl (fun c1 => ?_) (fun c1 => ?_)
    · exact absurd c1 (by rw [i_le, i_n (by omega), z88]; omega)
    refine xgo 80 rfl ?_
    try simp only [xlo0, List.map_cons, List.map_nil, List.length_cons, List.length_nil, xrs, xr0, Nat.reduceAdd, Nat.reduceSub, List.cons_append, List.nil_append, List.set_cons_zero, List.set_cons_succ, Option.toList_none, Option.toList_some, nI_1]
    refine xg 0 rfl rfl rfl h1 rfl ?_
    rcases h5 j (by omega) with ⟨a1, a2⟩ | ⟨k, bs, a1, a2, a3⟩
    · refine xgo 80 rfl ?_
      try simp only [xlo0, List.map_cons, List.map_nil, List.length_cons, List.length_nil, xrs, xr0, Nat.reduceAdd, Nat.reduceSub, List.cons_append, List.nil_append, List.set_cons_zero, List.set_cons_succ, Option.toList_none, Option.toList_some, nI_1]
      refine xi_aald rfl h2 (by decide) (nI_pos (by omega)) (by rw [hcl]; exact tk_get a1) ?_
      refine xgo 80 rfl ?_
      try simp only [xlo0, List.map_cons, List.map_nil, List.length_cons, List.length_nil, xrs, xr0, Nat.reduceAdd, Nat.reduceSub, List.cons_append, List.nil_append, List.set_cons_zero, List.set_cons_succ, Option.toList_none, Option.toList_some, nI_1]
      refine xi_ifnull_n rfl ?_
      refine xto 6 80 rfl ?_
      try simp only [xlo0, List.map_cons, List.map_nil, List.length_cons, List.length_nil, xrs, xr0, Nat.reduceAdd, Nat.reduceSub, List.cons_append, List.nil_append, List.set_cons_zero, List.set_cons_succ, Option.toList_none, Option.toList_some, nI_1]
      refine ih (j + 1) _ s (by omega) h ?_ hf hs
      rw [pjoin_snoc P a2]
      simpa using ho
    · have hkk := htk k (List.mem_of_getElem? a1)
      have hpl := pjoin_le P (j + 1)
      rw [pjoin_snoc P a2] at hpl
      simp at hpl
      refine xgo 80 rfl ?_
      try simp only [xlo0, List.map_cons, List.map_nil, List.length_cons, List.length_nil, xrs, xr0, Nat.reduceAdd, Nat.reduceSub, List.cons_append, List.nil_append, List.set_cons_zero, List.set_cons_succ, Option.toList_none, Option.toList_some, nI_1]
      refine xi_aald rfl h2 (by decide) (nI_pos (by omega)) (by rw [hcl]; exact tk_get a1) ?_
      refine xgo 80 rfl ?_
      try simp only [xlo0, List.map_cons, List.map_nil, List.length_cons, List.length_nil, xrs, xr0, Nat.reduceAdd, Nat.reduceSub, List.cons_append, List.nil_append, List.set_cons_zero, List.set_cons_succ, Option.toList_none, Option.toList_some, nI_1]
      refine xi_ifnull_r rfl ?_
      refine xgo 80 rfl ?_
      try simp only [xlo0, List.map_cons, List.map_nil, List.length_cons, List.length_nil, xrs, xr0, Nat.reduceAdd, Nat.reduceSub, List.cons_append, List.nil_append, List.set_cons_zero, List.set_cons_succ, Option.toList_none, Option.toList_some, nI_1]
      refine xg 0 rfl rfl rfl a3.obj rfl ?_
      refine xgo 80 rfl ?_
      try simp only [xlo0, List.map_cons, List.map_nil, List.length_cons, List.length_nil, xrs, xr0, Nat.reduceAdd, Nat.reduceSub, List.cons_append, List.nil_append, List.set_cons_zero, List.set_cons_succ, Option.toList_none, Option.toList_some, nI_1]
      refine xcV 0 rfl rfl rfl (c_BR_pushRange (i := 0) (e := bs.length) ho a3 (by omega) (by omega) (by omega) (by omega)) rfl kX1_pushRange iX1_pushRange ho.obj ⟨_, rfl, rfl⟩ rfl rfl (Nat.le_of_ble_eq_true rfl) (fun v1 s1 q1 => ?_)
      obtain ⟨rfl, p1, p2, p3⟩ := q1
      refine xto 6 80 rfl ?_
      try simp only [xlo0, List.map_cons, List.map_nil, List.length_cons, List.length_nil, xrs, xr0, Nat.reduceAdd, Nat.reduceSub, List.cons_append, List.nil_append, List.set_cons_zero, List.set_cons_succ, Option.toList_none, Option.toList_some, nI_1]
      refine ih (j + 1) _ s1 (by omega) ⟨by rw [p2 _ (by omega)]; exact h1, by rw [p2 _ (by omega)]; exact h2, h.2.2.keep (fun q hq => ?_)⟩ ?_ (hf.tr p2) (p3.trans hs)
      · have := htk q hq
        exact ⟨p2 _ (by omega), p2 _ (by omega)⟩
      · rw [pjoin_snoc P a2]
        simpa using p1
set_option maxRecDepth 100000 in
set_option maxHeartbeats 8000000 in
theorem c_BK_joinOnto {G : xG} {d b o oc : Nat} {w c n : Int32} {tk : List (Option Nat)} {P : List (Option (List Int32))} {os : List Int32} {σ : xS} (h : bk G σ.1 b w c n tk P) (ho : brr G σ.1 o oc os) (hob : o + 2 ≤ b) (htk : ∀ k, some k ∈ tk → o + 2 ≤ k) (hcap : (pjoin P).length ≤ oc) : xm G (d + 2) mX0_joinOnto [rf G b, rf G o] σ (fun v σ' => v = none ∧ bk G σ'.1 b w c n tk P ∧ brr G σ'.1 o oc (pjoin P) ∧ frz σ.1 σ'.1 o 2 ∧ σ'.2 = σ.2) := by
  refine xm_at 4 rfl (by decide) (Nat.le_of_ble_eq_true rfl) (by simp [Value.category]) tX0_joinOnto_ok ?_
  try simp only [xlo0, List.map_cons, List.map_nil, List.length_cons, List.length_nil, xrs, xr0, Nat.reduceAdd, Nat.reduceSub, List.cons_append, List.nil_append, List.set_cons_zero, List.set_cons_succ, Option.toList_none, Option.toList_some, nI_1]
  refine xgo 80 rfl ?_
  try simp only [xlo0, List.map_cons, List.map_nil, List.length_cons, List.length_nil, xrs, xr0, Nat.reduceAdd, Nat.reduceSub, List.cons_append, List.nil_append, List.set_cons_zero, List.set_cons_succ, Option.toList_none, Option.toList_some, nI_1]
  refine xcV 0 rfl rfl rfl (c_BR_clear ho) rfl kX1_clear iX1_clear ho.obj ⟨_, rfl, rfl⟩ rfl rfl (Nat.le_of_ble_eq_true rfl) (fun v1 s1 q1 => ?_)
  obtain ⟨rfl, p1, p2, p3⟩ := q1
  refine xto 6 80 rfl ?_
  try simp only [xlo0, List.map_cons, List.map_nil, List.length_cons, List.length_nil, xrs, xr0, Nat.reduceAdd, Nat.reduceSub, List.cons_append, List.nil_append, List.set_cons_zero, List.set_cons_succ, Option.toList_none, Option.toList_some, nI_1]
  refine l_BK_joinOnto hob htk hcap 88 0 none s1 (by omega) ⟨by rw [p2 _ (by omega)]; exact h.1, by rw [p2 _ (by omega)]; exact h.2.1, h.2.2.keep (fun q hq => ?_)⟩ p1 p2 p3
  have := htk q hq
  exact ⟨p2 _ (by omega), p2 _ (by omega)⟩
set_option maxRecDepth 100000 in
set_option maxHeartbeats 8000000 in
theorem l_BK_clear {G : xG} {d b : Nat} {w c n : Int32} {σ : xS} : ∀ (m j : Nat) (tk : List (Option Nat)) (s : xS), j + m = 88 → s.1 b = some (0, [rf G (b + 1), .int w, .int c, .int n]) → s.1 (b + 1) = some (14, tk.map (oref G)) → tk.length = 88 → (∀ i, i < j → tk[i]? = some none) → frz σ.1 s.1 b 2 → s.2 = σ.2 →
    xw G d mX0_clear 2 [some (rf G b), some (.int (nI j))] [] s (fun v σ' => v = none ∧ bk G σ'.1 b 0 0 0 (List.replicate 88 none) (List.replicate 88 none) ∧ frz σ.1 σ'.1 b 2 ∧ σ'.2 = σ.2) := by
  have z88 : (88 : Int32).toInt = 88 := rfl
  intro m
  induction m with
  | zero =>
    intro j tk s hj h1 h2 hl hn hf hs
    have hj' : j = 88 := by omega
    subst hj'
    have htk : tk = List.replicate 88 none := List.eq_replicate_iff.mpr ⟨hl, fun o ho => by
      obtain ⟨i, hi⟩ := List.getElem?_of_mem ho
      have := hn i (by have := (List.getElem?_eq_some_iff.mp hi).1; omega)
      rw [this] at hi
      exact (Option.some.inj hi).symm⟩
    refine xgo 80 rfl ?_
    try simp only [xlo0, List.map_cons, List.map_nil, List.length_cons, List.length_nil, xrs, xr0, Nat.reduceAdd, Nat.reduceSub, List.cons_append, List.nil_append, List.set_cons_zero, List.set_cons_succ, Option.toList_none, Option.toList_some, nI_1]
    refine xi_icmpge rfl (fun c1 => ?_) (fun c1 => ?_)
    · refine xgo 80 rfl ?_
      try simp only [xlo0, List.map_cons, List.map_nil, List.length_cons, List.length_nil, xrs, xr0, Nat.reduceAdd, Nat.reduceSub, List.cons_append, List.nil_append, List.set_cons_zero, List.set_cons_succ, Option.toList_none, Option.toList_some, nI_1]
      refine xp 0 rfl rfl rfl h1 rfl rfl rfl (fun s1 n1 f1 e1 => ?_)
      refine xgo 80 rfl ?_
      try simp only [xlo0, List.map_cons, List.map_nil, List.length_cons, List.length_nil, xrs, xr0, Nat.reduceAdd, Nat.reduceSub, List.cons_append, List.nil_append, List.set_cons_zero, List.set_cons_succ, Option.toList_none, Option.toList_some, nI_1]
      refine xp 0 rfl rfl rfl n1 rfl rfl rfl (fun s2 n2 f2 e2 => ?_)
      refine xgo 80 rfl ?_
      try simp only [xlo0, List.map_cons, List.map_nil, List.length_cons, List.length_nil, xrs, xr0, Nat.reduceAdd, Nat.reduceSub, List.cons_append, List.nil_append, List.set_cons_zero, List.set_cons_succ, Option.toList_none, Option.toList_some, nI_1]
      refine xp 0 rfl rfl rfl n2 rfl rfl rfl (fun s3 n3 f3 e3 => ?_)
      have h2 := (f1 _ (by omega)).trans h2
      have h2 := (f2 _ (by omega)).trans h2
      have h2 := (f3 _ (by omega)).trans h2
      refine xgo 80 rfl ?_
      try simp only [xlo0, List.map_cons, List.map_nil, List.length_cons, List.length_nil, xrs, xr0, Nat.reduceAdd, Nat.reduceSub, List.cons_append, List.nil_append, List.set_cons_zero, List.set_cons_succ, Option.toList_none, Option.toList_some, nI_1]
      refine xi_ret_v rfl rfl ⟨rfl, ⟨n3, by rw [h2, htk], ⟨List.length_replicate, List.length_replicate, fun i hi => Or.inl ⟨by rw [List.getElem?_replicate, if_pos hi], by rw [List.getElem?_replicate, if_pos hi]⟩⟩⟩, hf.tr (((frz.one f1 (by omega) (by omega)).tr (frz.one f2 (by omega) (by omega))).tr (frz.one f3 (by omega) (by omega))), by rw [e3, e2, e1, hs]⟩
    · exact absurd (by decide) c1
  | succ m ih =>
    intro j tk s hj h1 h2 hl hn hf hs
    have hcl : (nI j).toNatClampNeg = j := nI_clamp (by omega)
    refine xgo 80 rfl ?_
    try simp only [xlo0, List.map_cons, List.map_nil, List.length_cons, List.length_nil, xrs, xr0, Nat.reduceAdd, Nat.reduceSub, List.cons_append, List.nil_append, List.set_cons_zero, List.set_cons_succ, Option.toList_none, Option.toList_some, nI_1]
    refine xi_icmpge rfl (fun c1 => ?_) (fun c1 => ?_)
    · exact absurd c1 (by rw [i_le, i_n (by omega), z88]; omega)
    refine xgo 80 rfl ?_
    try simp only [xlo0, List.map_cons, List.map_nil, List.length_cons, List.length_nil, xrs, xr0, Nat.reduceAdd, Nat.reduceSub, List.cons_append, List.nil_append, List.set_cons_zero, List.set_cons_succ, Option.toList_none, Option.toList_some, nI_1]
    refine xg 0 rfl rfl rfl h1 rfl ?_
    refine xgo 80 rfl ?_
    try simp only [xlo0, List.map_cons, List.map_nil, List.length_cons, List.length_nil, xrs, xr0, Nat.reduceAdd, Nat.reduceSub, List.cons_append, List.nil_append, List.set_cons_zero, List.set_cons_succ, Option.toList_none, Option.toList_some, nI_1]
    refine xsn rfl h2 (by decide) (by decide) (nI_pos (by omega)) (by rw [hcl, List.length_map, hl]; omega) (fun s1 n1 f1 e1 => ?_)
    have h1 := (f1 _ (by omega)).trans h1
    refine xto 2 80 rfl ?_
    try simp only [xlo0, List.map_cons, List.map_nil, List.length_cons, List.length_nil, xrs, xr0, Nat.reduceAdd, Nat.reduceSub, List.cons_append, List.nil_append, List.set_cons_zero, List.set_cons_succ, Option.toList_none, Option.toList_some, nI_1]
    refine ih (j + 1) (tk.set j none) s1 (by omega) h1 (by rw [n1, hcl, List.map_set]; rfl) (by rw [List.length_set]; exact hl) (fun i hi => ?_) (hf.tr (frz.one f1 (by omega) (by omega))) (e1.trans hs)
    by_cases hij : j = i
    · subst hij
      exact List.getElem?_set_self (by omega)
    · rw [List.getElem?_set_ne hij]
      exact hn i (by omega)
set_option maxRecDepth 100000 in
set_option maxHeartbeats 8000000 in
theorem c_BK_clear {G : xG} {d b : Nat} {w c n : Int32} {tk : List (Option Nat)} {P : List (Option (List Int32))} {σ : xS} (h : bk G σ.1 b w c n tk P) : xm G d mX0_clear [rf G b] σ (fun v σ' => v = none ∧ bk G σ'.1 b 0 0 0 (List.replicate 88 none) (List.replicate 88 none) ∧ frz σ.1 σ'.1 b 2 ∧ σ'.2 = σ.2) := by
  refine xm_at 2 rfl (by decide) (Nat.le_of_ble_eq_true rfl) (by simp [Value.category]) tX0_clear_ok ?_
  try simp only [xlo0, List.map_cons, List.map_nil, List.length_cons, List.length_nil, xrs, xr0, Nat.reduceAdd, Nat.reduceSub, List.cons_append, List.nil_append, List.set_cons_zero, List.set_cons_succ, Option.toList_none, Option.toList_some, nI_1]
  refine xto 2 80 rfl ?_
  try simp only [xlo0, List.map_cons, List.map_nil, List.length_cons, List.length_nil, xrs, xr0, Nat.reduceAdd, Nat.reduceSub, List.cons_append, List.nil_append, List.set_cons_zero, List.set_cons_succ, Option.toList_none, Option.toList_some, nI_1]
  exact l_BK_clear 88 0 tk σ (by omega) h.1 h.2.1 h.2.2.1 (fun i hi => by omega) frz.rf rfl
