/-! ===== Entry: metBy at k, the object at k + 1, its overlays at k + 2; what it says at c ===== -/
abbrev eV : Type := cV × List Int32 × Int32 × Int32 × List Int32
def ent (G : xG) (h : Nat → Option xC) (k c : Nat) (V : eV) : Prop := ∃ mb ovs : List Int32, h k = some (11, vi mb) ∧ h (k + 1) = some (3, [rf G c, rf G k, .int V.2.2.1, .int V.2.2.2.1, rf G (k + 2), .int (nI V.2.2.2.2.length)]) ∧ h (k + 2) = some (11, vi ovs) ∧ cont G h c V.1 ∧ mb.length = 4 ∧ V.2.1.length = V.1.2.1.length ∧ mb.take V.2.1.length = V.2.1 ∧ ovs.length = 4 ∧ V.2.2.2.2.length ≤ 4 ∧ ovs.take V.2.2.2.2.length = V.2.2.2.2
theorem ent.obj {G : xG} {h : Nat → Option xC} {k c : Nat} {V : eV} (H : ent G h k c V) : h (k + 1) = some (3, [rf G c, rf G k, .int V.2.2.1, .int V.2.2.2.1, rf G (k + 2), .int (nI V.2.2.2.2.length)]) := by
  obtain ⟨mb, ovs, h1, h2, -⟩ := H
  exact h2
theorem ent.cont {G : xG} {h : Nat → Option xC} {k c : Nat} {V : eV} (H : ent G h k c V) : cont G h c V.1 := by
  obtain ⟨mb, ovs, h1, h2, h3, h4, -⟩ := H
  exact h4
theorem ent.keep {G : xG} {h h' : Nat → Option xC} {k c a n : Nat} {V : eV} (H : ent G h k c V) (f : frz h h' a n) (h1 : k + 3 ≤ a ∨ a + n ≤ k) (h2 : c + 17 ≤ a ∨ a + n ≤ c) : ent G h' k c V := by
  obtain ⟨mb, ovs, a1, a2, a3, a4, r⟩ := H
  exact ⟨mb, ovs, by rw [f.at (by omega)]; exact a1, by rw [f.at (by omega)]; exact a2, by rw [f.at (by omega)]; exact a3, a4.keep f h2, r⟩
set_option maxRecDepth 100000 in
set_option maxHeartbeats 8000000 in
theorem c_EN_init {G : xG} {d k c : Nat} {sees : Int32} {K : cV} {met mb : List Int32} {σ : xS} (h0 : σ.1 k = some (11, vi mb)) (h : σ.1 (k + 1) = some (3, xdef 3)) (hx : σ.2.1 = k + 2) (hc : cont G σ.1 c K) (hck : c + 17 ≤ k) (hm : mb.length = 4) (hme : met.length = K.2.1.length) (hmt : mb.take met.length = met) : xm G (d + 1) mX3_init [rf G (k + 1), rf G c, rf G k, .int sees] σ (fun v σ' => v = none ∧ ent G σ'.1 k c (K, met, sees, 0, []) ∧ (∀ q, q < k → σ'.1 q = σ.1 q) ∧ σ'.2.1 = k + 3 ∧ σ'.2.2 = σ.2.2 + 4) := by
  have hxd : xdef 3 = [.null, .null, .int 0, .int 0, .null, .int 0] := rfl
  rw [hxd] at h
  refine xm_at 4 rfl (by decide) (Nat.le_of_ble_eq_true rfl) (by simp [Value.category]) tX3_init_ok ?_
  try simp only [xlo0, List.map_cons, List.map_nil, List.length_cons, List.length_nil, xrs, xr0, Nat.reduceAdd, Nat.reduceSub, List.cons_append, List.nil_append, List.set_cons_zero, List.set_cons_succ, Option.toList_none, Option.toList_some, nI_1]
  refine xgo 80 rfl ?_
  try simp only [xlo0, List.map_cons, List.map_nil, List.length_cons, List.length_nil, xrs, xr0, Nat.reduceAdd, Nat.reduceSub, List.cons_append, List.nil_append, List.set_cons_zero, List.set_cons_succ, Option.toList_none, Option.toList_some, nI_1]
  refine xi_obj rfl oX3 (Nat.le_of_ble_eq_true rfl) ?_
  refine xgo 80 rfl ?_
  try simp only [xlo0, List.map_cons, List.map_nil, List.length_cons, List.length_nil, xrs, xr0, Nat.reduceAdd, Nat.reduceSub, List.cons_append, List.nil_append, List.set_cons_zero, List.set_cons_succ, Option.toList_none, Option.toList_some, nI_1]
  refine xna (t := 11) (atype := .int) (N := 4) hx rfl rfl (by decide) (by decide) rfl a_11 (by decide) rfl (by decide) (fun s1 n1 f1 g1 k1 => ?_)
  have h := (f1 _ (by omega)).trans h
  have h0 := (f1 _ (by omega)).trans h0
  refine xgo 80 rfl ?_
  try simp only [xlo0, List.map_cons, List.map_nil, List.length_cons, List.length_nil, xrs, xr0, Nat.reduceAdd, Nat.reduceSub, List.cons_append, List.nil_append, List.set_cons_zero, List.set_cons_succ, Option.toList_none, Option.toList_some, nI_1]
  refine xpF rfl fX3_9F rfl h rfl rfl rfl (fun s2 n2 f2 e2 => ?_)
  have n1 := (f2 _ (by omega)).trans n1
  have h0 := (f2 _ (by omega)).trans h0
  refine xgo 80 rfl ?_
  try simp only [xlo0, List.map_cons, List.map_nil, List.length_cons, List.length_nil, xrs, xr0, Nat.reduceAdd, Nat.reduceSub, List.cons_append, List.nil_append, List.set_cons_zero, List.set_cons_succ, Option.toList_none, Option.toList_some, nI_1]
  refine xpF rfl fX3_15F rfl n2 rfl rfl rfl (fun s3 n3 f3 e3 => ?_)
  have n1 := (f3 _ (by omega)).trans n1
  have h0 := (f3 _ (by omega)).trans h0
  refine xgo 80 rfl ?_
  try simp only [xlo0, List.map_cons, List.map_nil, List.length_cons, List.length_nil, xrs, xr0, Nat.reduceAdd, Nat.reduceSub, List.cons_append, List.nil_append, List.set_cons_zero, List.set_cons_succ, Option.toList_none, Option.toList_some, nI_1]
  refine xpF rfl fX3_19F rfl n3 rfl rfl rfl (fun s4 n4 f4 e4 => ?_)
  have n1 := (f4 _ (by omega)).trans n1
  have h0 := (f4 _ (by omega)).trans h0
  refine xgo 80 rfl ?_
  try simp only [xlo0, List.map_cons, List.map_nil, List.length_cons, List.length_nil, xrs, xr0, Nat.reduceAdd, Nat.reduceSub, List.cons_append, List.nil_append, List.set_cons_zero, List.set_cons_succ, Option.toList_none, Option.toList_some, nI_1]
  refine xpF rfl fX3_22F rfl n4 rfl rfl rfl (fun s5 n5 f5 e5 => ?_)
  have n1 := (f5 _ (by omega)).trans n1
  have h0 := (f5 _ (by omega)).trans h0
  have hfr : ∀ q, q ≠ k + 1 → q ≠ k + 2 → s5.1 q = σ.1 q := fun q x1 x2 => by rw [f5 q x1, f4 q x1, f3 q x1, f2 q x1, f1 q x2]
  have hkk : s5.2 = s1.2 := by rw [e5, e4, e3, e2]
  have g5 : s5.2.1 = s1.2.1 := congrArg Prod.fst hkk
  have k5 : s5.2.2 = s1.2.2 := congrArg Prod.snd hkk
  have hf : frz σ.1 s5.1 (k + 1) 2 := fun q hq => hfr q (by omega) (by omega)
  refine xgo 80 rfl ?_
  try simp only [xlo0, List.map_cons, List.map_nil, List.length_cons, List.length_nil, xrs, xr0, Nat.reduceAdd, Nat.reduceSub, List.cons_append, List.nil_append, List.set_cons_zero, List.set_cons_succ, Option.toList_none, Option.toList_some, nI_1]
  refine xi_ret_v rfl rfl ⟨rfl, ⟨mb, List.replicate 4 0, h0, n5, by rw [n1]; rfl, hc.keep hf (by omega), hm, hme, hmt, rfl, by simp, by simp⟩, fun q hq => hfr q (by omega) (by omega), by omega, by omega⟩
set_option maxRecDepth 100000 in
set_option maxHeartbeats 8000000 in
theorem c_EN_meeting {G : xG} {d k c : Nat} {V : eV} {i : Int32} {σ : xS} (h : ent G σ.1 k c V) : xm G d mX3_meeting [rf G (k + 1), .int i] σ (fun v σ' => v = some (.int (bat V.2.1 i)) ∧ σ' = σ) := by
  obtain ⟨mb, ovs, h1, h2, h3, h4, h5, h6, h7, h8, h9, h10⟩ := h
  have hb := h4.bnd
  have z : (0 : Int32).toInt = 0 := rfl
  have hn : (nI V.1.2.1.length).toInt = V.1.2.1.length := i_n (by omega)
  refine xm_at 2 rfl (by decide) (Nat.le_of_ble_eq_true rfl) (by simp [Value.category]) tX3_meeting_ok ?_
  try simp only [xlo0, List.map_cons, List.map_nil, List.length_cons, List.length_nil, xrs, xr0, Nat.reduceAdd, Nat.reduceSub, List.cons_append, List.nil_append, List.set_cons_zero, List.set_cons_succ, Option.toList_none, Option.toList_some, nI_1]
  refine xgo 80 rfl ?_
  try simp only [xlo0, List.map_cons, List.map_nil, List.length_cons, List.length_nil, xrs, xr0, Nat.reduceAdd, Nat.reduceSub, List.cons_append, List.nil_append, List.set_cons_zero, List.set_cons_succ, Option.toList_none, Option.toList_some, nI_1]
  refine xi_iflt rfl (fun c1 => ?_) (fun c1 => ?_)
  · rw [i_lt] at c1
    refine xgo 80 rfl ?_
    try simp only [xlo0, List.map_cons, List.map_nil, List.length_cons, List.length_nil, xrs, xr0, Nat.reduceAdd, Nat.reduceSub, List.cons_append, List.nil_append, List.set_cons_zero, List.set_cons_succ, Option.toList_none, Option.toList_some, nI_1]
    refine xi_ret_i rfl rfl rfl ⟨by rw [bat_out (by omega)], rfl⟩
  rw [i_lt] at c1
  refine xgo 80 rfl ?_
  try simp only [xlo0, List.map_cons, List.map_nil, List.length_cons, List.length_nil, xrs, xr0, Nat.reduceAdd, Nat.reduceSub, List.cons_append, List.nil_append, List.set_cons_zero, List.set_cons_succ, Option.toList_none, Option.toList_some, nI_1]
  refine xg 3 rfl rfl rfl h2 rfl ?_
  refine xgo 80 rfl ?_
  try simp only [xlo0, List.map_cons, List.map_nil, List.length_cons, List.length_nil, xrs, xr0, Nat.reduceAdd, Nat.reduceSub, List.cons_append, List.nil_append, List.set_cons_zero, List.set_cons_succ, Option.toList_none, Option.toList_some, nI_1]
  refine xg 3 rfl rfl rfl h4.obj rfl ?_
  refine xgo 80 rfl ?_
  try simp only [xlo0, List.map_cons, List.map_nil, List.length_cons, List.length_nil, xrs, xr0, Nat.reduceAdd, Nat.reduceSub, List.cons_append, List.nil_append, List.set_cons_zero, List.set_cons_succ, Option.toList_none, Option.toList_some, nI_1]
  refine xi_icmpge rfl (fun c2 => ?_) (fun c2 => ?_)
  · rw [i_le] at c2
    refine xgo 80 rfl ?_
    try simp only [xlo0, List.map_cons, List.map_nil, List.length_cons, List.length_nil, xrs, xr0, Nat.reduceAdd, Nat.reduceSub, List.cons_append, List.nil_append, List.set_cons_zero, List.set_cons_succ, Option.toList_none, Option.toList_some, nI_1]
    refine xi_ret_i rfl rfl rfl ⟨by rw [bat_out (by omega)], rfl⟩
  rw [i_le] at c2
  refine xgo 80 rfl ?_
  try simp only [xlo0, List.map_cons, List.map_nil, List.length_cons, List.length_nil, xrs, xr0, Nat.reduceAdd, Nat.reduceSub, List.cons_append, List.nil_append, List.set_cons_zero, List.set_cons_succ, Option.toList_none, Option.toList_some, nI_1]
  refine xg 3 rfl rfl rfl h2 rfl ?_
  refine xgo 80 rfl ?_
  try simp only [xlo0, List.map_cons, List.map_nil, List.length_cons, List.length_nil, xrs, xr0, Nat.reduceAdd, Nat.reduceSub, List.cons_append, List.nil_append, List.set_cons_zero, List.set_cons_succ, Option.toList_none, Option.toList_some, nI_1]
  refine xi_alen rfl h1 (by decide) rfl ?_
  refine xgo 80 rfl ?_
  try simp only [xlo0, List.map_cons, List.map_nil, List.length_cons, List.length_nil, xrs, xr0, Nat.reduceAdd, Nat.reduceSub, List.cons_append, List.nil_append, List.set_cons_zero, List.set_cons_succ, Option.toList_none, Option.toList_some, nI_1]
  refine xi_icmpge rfl (fun c3 => ?_) (fun c3 => ?_)
  · rw [i_le, vi_len, h5] at c3
    have : (Int32.ofNat 4).toInt = 4 := rfl
    omega
  have hi : i.toInt.toNat < V.2.1.length := by omega
  have hg : mb[i.toNatClampNeg]? = some (bat V.2.1 i) := by
    rw [i_cl, take_get h7 hi, bat, if_neg (by omega), List.getD_eq_getElem?_getD, List.getElem?_eq_getElem hi]
    rfl
  refine xgo 80 rfl ?_
  try simp only [xlo0, List.map_cons, List.map_nil, List.length_cons, List.length_nil, xrs, xr0, Nat.reduceAdd, Nat.reduceSub, List.cons_append, List.nil_append, List.set_cons_zero, List.set_cons_succ, Option.toList_none, Option.toList_some, nI_1]
  refine xg 3 rfl rfl rfl h2 rfl ?_
  refine xgo 80 rfl ?_
  try simp only [xlo0, List.map_cons, List.map_nil, List.length_cons, List.length_nil, xrs, xr0, Nat.reduceAdd, Nat.reduceSub, List.cons_append, List.nil_append, List.set_cons_zero, List.set_cons_succ, Option.toList_none, Option.toList_some, nI_1]
  refine xi_iald rfl h1 (by rw [i_lt]; omega) (vi_get hg) ?_
  refine xgo 80 rfl ?_
  try simp only [xlo0, List.map_cons, List.map_nil, List.length_cons, List.length_nil, xrs, xr0, Nat.reduceAdd, Nat.reduceSub, List.cons_append, List.nil_append, List.set_cons_zero, List.set_cons_succ, Option.toList_none, Option.toList_some, nI_1]
  refine xi_ret_i rfl rfl rfl ⟨rfl, rfl⟩
set_option maxRecDepth 100000 in
set_option maxHeartbeats 8000000 in
theorem l_EN_leansOn {G : xG} {d k c : Nat} {V : eV} {x : Int32} {σ : xS} (h : ent G σ.1 k c V) : ∀ (n j : Nat), j + n = V.2.1.length → (∀ i e, i < j → V.2.1[i]? = some e → (e == x) = false) →
    xw G (d + 1) mX3_leansOn 2 [some (rf G (k + 1)), some (.int x), some (.int (nI j))] [] σ (fun v σ' => v = some (.int (bI (V.2.1.any (fun e => e == x)))) ∧ σ' = σ) := by
  have h2 := h.obj
  have h4 := h.cont
  have hb := h4.bnd
  have h6 : V.2.1.length = V.1.2.1.length := by obtain ⟨mb, ovs, -, -, -, -, -, h6, -⟩ := h; exact h6
  intro n
  induction n with
  | zero =>
    intro j hj hi
    have hj' : j = V.2.1.length := by omega
    subst hj'
    refine xgo 80 rfl ?_
    try simp only [xlo0, List.map_cons, List.map_nil, List.length_cons, List.length_nil, xrs, xr0, Nat.reduceAdd, Nat.reduceSub, List.cons_append, List.nil_append, List.set_cons_zero, List.set_cons_succ, Option.toList_none, Option.toList_some, nI_1]
    refine xg 3 rfl rfl rfl h2 rfl ?_
    refine xgo 80 rfl ?_
    try simp only [xlo0, List.map_cons, List.map_nil, List.length_cons, List.length_nil, xrs, xr0, Nat.reduceAdd, Nat.reduceSub, List.cons_append, List.nil_append, List.set_cons_zero, List.set_cons_succ, Option.toList_none, Option.toList_some, nI_1]
    refine xg 3 rfl rfl rfl h4.obj rfl ?_
    rw [← h6]
    refine xgo 80 rfl ?_
    try simp only [xlo0, List.map_cons, List.map_nil, List.length_cons, List.length_nil, xrs, xr0, Nat.reduceAdd, Nat.reduceSub, List.cons_append, List.nil_append, List.set_cons_zero, List.set_cons_succ, Option.toList_none, Option.toList_some, nI_1]
    refine xi_icmpge rfl (fun c1 => ?_) (fun c1 => ?_)
    · refine xgo 80 rfl ?_
      try simp only [xlo0, List.map_cons, List.map_nil, List.length_cons, List.length_nil, xrs, xr0, Nat.reduceAdd, Nat.reduceSub, List.cons_append, List.nil_append, List.set_cons_zero, List.set_cons_succ, Option.toList_none, Option.toList_some, nI_1]
      refine xi_ret_i rfl rfl (by decide) ⟨by rw [any_f hi]; rfl, rfl⟩
    · exact absurd (i_le.mpr (Int.le_refl _)) c1
  | succ n ih =>
    intro j hj hi
    refine xgo 80 rfl ?_
    try simp only [xlo0, List.map_cons, List.map_nil, List.length_cons, List.length_nil, xrs, xr0, Nat.reduceAdd, Nat.reduceSub, List.cons_append, List.nil_append, List.set_cons_zero, List.set_cons_succ, Option.toList_none, Option.toList_some, nI_1]
    refine xg 3 rfl rfl rfl h2 rfl ?_
    refine xgo 80 rfl ?_
    try simp only [xlo0, List.map_cons, List.map_nil, List.length_cons, List.length_nil, xrs, xr0, Nat.reduceAdd, Nat.reduceSub, List.cons_append, List.nil_append, List.set_cons_zero, List.set_cons_succ, Option.toList_none, Option.toList_some, nI_1]
    refine xg 3 rfl rfl rfl h4.obj rfl ?_
    rw [← h6]
    refine xgo 80 rfl ?_
    try simp only [xlo0, List.map_cons, List.map_nil, List.length_cons, List.length_nil, xrs, xr0, Nat.reduceAdd, Nat.reduceSub, List.cons_append, List.nil_append, List.set_cons_zero, List.set_cons_succ, Option.toList_none, Option.toList_some, nI_1]
    refine xi_icmpge rfl (fun c1 => ?_) (fun c1 => ?_)
    · exact absurd c1 (by rw [i_le, i_n (by omega), i_n (by omega)]; omega)
    · obtain ⟨e, he⟩ := lt_get (l := V.2.1) (j := j) (by omega)
      refine xgo 80 rfl ?_
      try simp only [xlo0, List.map_cons, List.map_nil, List.length_cons, List.length_nil, xrs, xr0, Nat.reduceAdd, Nat.reduceSub, List.cons_append, List.nil_append, List.set_cons_zero, List.set_cons_succ, Option.toList_none, Option.toList_some, nI_1]
      refine xcV 3 rfl rfl rfl (c_EN_meeting h) rfl kX3_meeting iX3_meeting h2 ⟨_, rfl, rfl⟩ rfl rfl (Nat.le_of_ble_eq_true rfl) (fun v1 s1 q1 => ?_)
      obtain ⟨rfl, rfl⟩ := q1
      have hbe : bat V.2.1 (nI j) = e := by rw [bat_n (by omega), List.getD_eq_getElem?_getD, he]; rfl
      rw [hbe]
      refine xgo 80 rfl ?_
      try simp only [xlo0, List.map_cons, List.map_nil, List.length_cons, List.length_nil, xrs, xr0, Nat.reduceAdd, Nat.reduceSub, List.cons_append, List.nil_append, List.set_cons_zero, List.set_cons_succ, Option.toList_none, Option.toList_some, nI_1]
      refine xi_icmpne rfl (fun c2 => ?_) (fun c2 => ?_)
      · refine xto 2 80 rfl ?_
        try simp only [xlo0, List.map_cons, List.map_nil, List.length_cons, List.length_nil, xrs, xr0, Nat.reduceAdd, Nat.reduceSub, List.cons_append, List.nil_append, List.set_cons_zero, List.set_cons_succ, Option.toList_none, Option.toList_some, nI_1]
        exact ih (j + 1) (by omega) (fun i e' h1 h2 => by
          by_cases hij : i = j
          · subst hij
            rw [he] at h2
            cases h2
            simpa using c2
          · exact hi i e' (by omega) h2)
      · refine xgo 80 rfl ?_
        try simp only [xlo0, List.map_cons, List.map_nil, List.length_cons, List.length_nil, xrs, xr0, Nat.reduceAdd, Nat.reduceSub, List.cons_append, List.nil_append, List.set_cons_zero, List.set_cons_succ, Option.toList_none, Option.toList_some, nI_1]
        refine xi_ret_i rfl rfl (by decide) ⟨by rw [any_t he (by simpa using c2)]; rfl, rfl⟩
set_option maxRecDepth 100000 in
set_option maxHeartbeats 8000000 in
theorem c_EN_leansOn {G : xG} {d k c : Nat} {V : eV} {x : Int32} {σ : xS} (h : ent G σ.1 k c V) : xm G (d + 1) mX3_leansOn [rf G (k + 1), .int x] σ (fun v σ' => v = some (.int (bI (V.2.1.any (fun e => e == x)))) ∧ σ' = σ) := by
  refine xm_at 3 rfl (by decide) (Nat.le_of_ble_eq_true rfl) (by simp [Value.category]) tX3_leansOn_ok ?_
  try simp only [xlo0, List.map_cons, List.map_nil, List.length_cons, List.length_nil, xrs, xr0, Nat.reduceAdd, Nat.reduceSub, List.cons_append, List.nil_append, List.set_cons_zero, List.set_cons_succ, Option.toList_none, Option.toList_some, nI_1]
  refine xto 2 80 rfl ?_
  try simp only [xlo0, List.map_cons, List.map_nil, List.length_cons, List.length_nil, xrs, xr0, Nat.reduceAdd, Nat.reduceSub, List.cons_append, List.nil_append, List.set_cons_zero, List.set_cons_succ, Option.toList_none, Option.toList_some, nI_1]
  exact l_EN_leansOn h V.2.1.length 0 (by omega) (fun i e h => by omega)
set_option maxRecDepth 100000 in
set_option maxHeartbeats 8000000 in
theorem l_EN_hasOverlay {G : xG} {d k c : Nat} {V : eV} {x : Int32} {σ : xS} (h : ent G σ.1 k c V) : ∀ (n j : Nat), j + n = V.2.2.2.2.length → (∀ i e, i < j → V.2.2.2.2[i]? = some e → (e == x) = false) →
    xw G d mX3_hasOverlay 2 [some (rf G (k + 1)), some (.int x), some (.int (nI j))] [] σ (fun v σ' => v = some (.int (bI (V.2.2.2.2.any (fun e => e == x)))) ∧ σ' = σ) := by
  obtain ⟨mb, ovs, h1, h2, h3, h4, h5, h6, h7, h8, h9, h10⟩ := h
  intro n
  induction n with
  | zero =>
    intro j hj hi
    have hj' : j = V.2.2.2.2.length := by omega
    subst hj'
    refine xgo 80 rfl ?_
    try simp only [xlo0, List.map_cons, List.map_nil, List.length_cons, List.length_nil, xrs, xr0, Nat.reduceAdd, Nat.reduceSub, List.cons_append, List.nil_append, List.set_cons_zero, List.set_cons_succ, Option.toList_none, Option.toList_some, nI_1]
    refine xg 3 rfl rfl rfl h2 rfl ?_
    refine xgo 80 rfl ?_
    try simp only [xlo0, List.map_cons, List.map_nil, List.length_cons, List.length_nil, xrs, xr0, Nat.reduceAdd, Nat.reduceSub, List.cons_append, List.nil_append, List.set_cons_zero, List.set_cons_succ, Option.toList_none, Option.toList_some, nI_1]
    refine xi_icmpge rfl (fun c1 => ?_) (fun c1 => ?_)
    · refine xgo 80 rfl ?_
      try simp only [xlo0, List.map_cons, List.map_nil, List.length_cons, List.length_nil, xrs, xr0, Nat.reduceAdd, Nat.reduceSub, List.cons_append, List.nil_append, List.set_cons_zero, List.set_cons_succ, Option.toList_none, Option.toList_some, nI_1]
      refine xi_ret_i rfl rfl (by decide) ⟨by rw [any_f hi]; rfl, rfl⟩
    · exact absurd (i_le.mpr (Int.le_refl _)) c1
  | succ n ih =>
    intro j hj hi
    refine xgo 80 rfl ?_
    try simp only [xlo0, List.map_cons, List.map_nil, List.length_cons, List.length_nil, xrs, xr0, Nat.reduceAdd, Nat.reduceSub, List.cons_append, List.nil_append, List.set_cons_zero, List.set_cons_succ, Option.toList_none, Option.toList_some, nI_1]
    refine xg 3 rfl rfl rfl h2 rfl ?_
    refine xgo 80 rfl ?_
    try simp only [xlo0, List.map_cons, List.map_nil, List.length_cons, List.length_nil, xrs, xr0, Nat.reduceAdd, Nat.reduceSub, List.cons_append, List.nil_append, List.set_cons_zero, List.set_cons_succ, Option.toList_none, Option.toList_some, nI_1]
    refine xi_icmpge rfl (fun c1 => ?_) (fun c1 => ?_)
    · exact absurd c1 (by rw [i_le, i_n (by omega), i_n (by omega)]; omega)
    · obtain ⟨e, he⟩ := lt_get (l := V.2.2.2.2) (j := j) (by omega)
      have hcl : (nI j).toNatClampNeg = j := nI_clamp (by omega)
      refine xgo 80 rfl ?_
      try simp only [xlo0, List.map_cons, List.map_nil, List.length_cons, List.length_nil, xrs, xr0, Nat.reduceAdd, Nat.reduceSub, List.cons_append, List.nil_append, List.set_cons_zero, List.set_cons_succ, Option.toList_none, Option.toList_some, nI_1]
      refine xg 3 rfl rfl rfl h2 rfl ?_
      refine xgo 80 rfl ?_
      try simp only [xlo0, List.map_cons, List.map_nil, List.length_cons, List.length_nil, xrs, xr0, Nat.reduceAdd, Nat.reduceSub, List.cons_append, List.nil_append, List.set_cons_zero, List.set_cons_succ, Option.toList_none, Option.toList_some, nI_1]
      refine xi_iald rfl h3 (nI_pos (by omega)) (by rw [hcl]; exact vi_get ((take_get h10 (by omega)).trans he)) ?_
      refine xgo 80 rfl ?_
      try simp only [xlo0, List.map_cons, List.map_nil, List.length_cons, List.length_nil, xrs, xr0, Nat.reduceAdd, Nat.reduceSub, List.cons_append, List.nil_append, List.set_cons_zero, List.set_cons_succ, Option.toList_none, Option.toList_some, nI_1]
      refine xi_icmpne rfl (fun c2 => ?_) (fun c2 => ?_)
      · refine xto 2 80 rfl ?_
        try simp only [xlo0, List.map_cons, List.map_nil, List.length_cons, List.length_nil, xrs, xr0, Nat.reduceAdd, Nat.reduceSub, List.cons_append, List.nil_append, List.set_cons_zero, List.set_cons_succ, Option.toList_none, Option.toList_some, nI_1]
        exact ih (j + 1) (by omega) (fun i e' h1 h2 => by
          by_cases hij : i = j
          · subst hij
            rw [he] at h2
            cases h2
            simpa using c2
          · exact hi i e' (by omega) h2)
      · refine xgo 80 rfl ?_
        try simp only [xlo0, List.map_cons, List.map_nil, List.length_cons, List.length_nil, xrs, xr0, Nat.reduceAdd, Nat.reduceSub, List.cons_append, List.nil_append, List.set_cons_zero, List.set_cons_succ, Option.toList_none, Option.toList_some, nI_1]
        refine xi_ret_i rfl rfl (by decide) ⟨by rw [any_t he (by simpa using c2)]; rfl, rfl⟩
set_option maxRecDepth 100000 in
set_option maxHeartbeats 8000000 in
theorem c_EN_hasOverlay {G : xG} {d k c : Nat} {V : eV} {x : Int32} {σ : xS} (h : ent G σ.1 k c V) : xm G d mX3_hasOverlay [rf G (k + 1), .int x] σ (fun v σ' => v = some (.int (bI (V.2.2.2.2.any (fun e => e == x)))) ∧ σ' = σ) := by
  refine xm_at 3 rfl (by decide) (Nat.le_of_ble_eq_true rfl) (by simp [Value.category]) tX3_hasOverlay_ok ?_
  try simp only [xlo0, List.map_cons, List.map_nil, List.length_cons, List.length_nil, xrs, xr0, Nat.reduceAdd, Nat.reduceSub, List.cons_append, List.nil_append, List.set_cons_zero, List.set_cons_succ, Option.toList_none, Option.toList_some, nI_1]
  refine xto 2 80 rfl ?_
  try simp only [xlo0, List.map_cons, List.map_nil, List.length_cons, List.length_nil, xrs, xr0, Nat.reduceAdd, Nat.reduceSub, List.cons_append, List.nil_append, List.set_cons_zero, List.set_cons_succ, Option.toList_none, Option.toList_some, nI_1]
  exact l_EN_hasOverlay h V.2.2.2.2.length 0 (by omega) (fun i e h => by omega)
set_option maxRecDepth 100000 in
set_option maxHeartbeats 8000000 in
theorem c_EN_putOverlay {G : xG} {d k c : Nat} {V : eV} {x : Int32} {σ : xS} (h : ent G σ.1 k c V) (hl : V.2.2.2.2.length < 4) (hck : c + 17 ≤ k ∨ k + 3 ≤ c) : xm G d mX3_putOverlay [rf G (k + 1), .int x] σ (fun v σ' => v = none ∧ ent G σ'.1 k c (V.1, V.2.1, V.2.2.1, V.2.2.2.1, V.2.2.2.2 ++ [x]) ∧ frz σ.1 σ'.1 k 3 ∧ σ'.2 = σ.2) := by
  obtain ⟨mb, ovs, h1, h2, h3, h4, h5, h6, h7, h8, h9, h10⟩ := h
  have hcl : (nI V.2.2.2.2.length).toNatClampNeg = V.2.2.2.2.length := nI_clamp (by omega)
  refine xm_at 2 rfl (by decide) (Nat.le_of_ble_eq_true rfl) (by simp [Value.category]) tX3_putOverlay_ok ?_
  try simp only [xlo0, List.map_cons, List.map_nil, List.length_cons, List.length_nil, xrs, xr0, Nat.reduceAdd, Nat.reduceSub, List.cons_append, List.nil_append, List.set_cons_zero, List.set_cons_succ, Option.toList_none, Option.toList_some, nI_1]
  refine xgo 80 rfl ?_
  try simp only [xlo0, List.map_cons, List.map_nil, List.length_cons, List.length_nil, xrs, xr0, Nat.reduceAdd, Nat.reduceSub, List.cons_append, List.nil_append, List.set_cons_zero, List.set_cons_succ, Option.toList_none, Option.toList_some, nI_1]
  refine xg 3 rfl rfl rfl h2 rfl ?_
  refine xgo 80 rfl ?_
  try simp only [xlo0, List.map_cons, List.map_nil, List.length_cons, List.length_nil, xrs, xr0, Nat.reduceAdd, Nat.reduceSub, List.cons_append, List.nil_append, List.set_cons_zero, List.set_cons_succ, Option.toList_none, Option.toList_some, nI_1]
  refine xi_icmpge rfl (fun c1 => ?_) (fun c1 => ?_)
  · exact absurd c1 (by rw [i_le, i_n (by omega)]; have : (4 : Int32).toInt = 4 := rfl; omega)
  refine xgo 80 rfl ?_
  try simp only [xlo0, List.map_cons, List.map_nil, List.length_cons, List.length_nil, xrs, xr0, Nat.reduceAdd, Nat.reduceSub, List.cons_append, List.nil_append, List.set_cons_zero, List.set_cons_succ, Option.toList_none, Option.toList_some, nI_1]
  refine xg 3 rfl rfl rfl h2 rfl ?_
  refine xgo 80 rfl ?_
  try simp only [xlo0, List.map_cons, List.map_nil, List.length_cons, List.length_nil, xrs, xr0, Nat.reduceAdd, Nat.reduceSub, List.cons_append, List.nil_append, List.set_cons_zero, List.set_cons_succ, Option.toList_none, Option.toList_some, nI_1]
  refine xg 3 rfl rfl rfl h2 rfl ?_
  refine xgo 80 rfl ?_
  try simp only [xlo0, List.map_cons, List.map_nil, List.length_cons, List.length_nil, xrs, xr0, Nat.reduceAdd, Nat.reduceSub, List.cons_append, List.nil_append, List.set_cons_zero, List.set_cons_succ, Option.toList_none, Option.toList_some, nI_1]
  refine xsi rfl h3 (nI_pos (by omega)) (by rw [hcl, vi_len]; omega) (fun s1 n1 f1 e1 => ?_)
  have h1 := (f1 _ (by omega)).trans h1
  have h2 := (f1 _ (by omega)).trans h2
  refine xgo 80 rfl ?_
  try simp only [xlo0, List.map_cons, List.map_nil, List.length_cons, List.length_nil, xrs, xr0, Nat.reduceAdd, Nat.reduceSub, List.cons_append, List.nil_append, List.set_cons_zero, List.set_cons_succ, Option.toList_none, Option.toList_some, nI_1]
  refine xg 3 rfl rfl rfl h2 rfl ?_
  refine xgo 80 rfl ?_
  try simp only [xlo0, List.map_cons, List.map_nil, List.length_cons, List.length_nil, xrs, xr0, Nat.reduceAdd, Nat.reduceSub, List.cons_append, List.nil_append, List.set_cons_zero, List.set_cons_succ, Option.toList_none, Option.toList_some, nI_1]
  refine xp 3 rfl rfl rfl h2 rfl rfl rfl (fun s2 n2 f2 e2 => ?_)
  have h1 := (f2 _ (by omega)).trans h1
  have n1 := (f2 _ (by omega)).trans n1
  have hf : frz σ.1 s2.1 k 3 := (frz.one f1 (by omega) (by omega)).tr (frz.one f2 (by omega) (by omega))
  refine xgo 80 rfl ?_
  try simp only [xlo0, List.map_cons, List.map_nil, List.length_cons, List.length_nil, xrs, xr0, Nat.reduceAdd, Nat.reduceSub, List.cons_append, List.nil_append, List.set_cons_zero, List.set_cons_succ, Option.toList_none, Option.toList_some, nI_1]
  refine xi_ret_v rfl rfl ⟨rfl, ⟨mb, ovs.set V.2.2.2.2.length x, h1, by rw [n2]; simp [nI_1], by rw [n1, hcl, vi_set], h4.keep hf (by omega), h5, h6, h7, by simp [h8], by simp; omega, take_snoc h10 (by omega)⟩, hf, by rw [e2, e1]⟩
set_option maxRecDepth 100000 in
set_option maxHeartbeats 8000000 in
theorem c_EN_hasRowOf {G : xG} {d k c : Nat} {V : eV} {x : Int32} {σ : xS} (h : ent G σ.1 k c V) : xm G (d + 1) mX3_hasRowOf [rf G (k + 1), .int x] σ (fun v σ' => v = some (.int (bI (V.1.2.2.2.findIdx? (fun e => e.1 == x)).isSome)) ∧ σ' = σ) := by
  have h2 := h.obj
  have h4 := h.cont
  have hb := h4.bnd
  refine xm_at 2 rfl (by decide) (Nat.le_of_ble_eq_true rfl) (by simp [Value.category]) tX3_hasRowOf_ok ?_
  try simp only [xlo0, List.map_cons, List.map_nil, List.length_cons, List.length_nil, xrs, xr0, Nat.reduceAdd, Nat.reduceSub, List.cons_append, List.nil_append, List.set_cons_zero, List.set_cons_succ, Option.toList_none, Option.toList_some, nI_1]
  refine xgo 80 rfl ?_
  try simp only [xlo0, List.map_cons, List.map_nil, List.length_cons, List.length_nil, xrs, xr0, Nat.reduceAdd, Nat.reduceSub, List.cons_append, List.nil_append, List.set_cons_zero, List.set_cons_succ, Option.toList_none, Option.toList_some, nI_1]
  refine xg 3 rfl rfl rfl h2 rfl ?_
  refine xgo 80 rfl ?_
  try simp only [xlo0, List.map_cons, List.map_nil, List.length_cons, List.length_nil, xrs, xr0, Nat.reduceAdd, Nat.reduceSub, List.cons_append, List.nil_append, List.set_cons_zero, List.set_cons_succ, Option.toList_none, Option.toList_some, nI_1]
  refine xcV 3 rfl rfl rfl (c_CT_rowOf h4) rfl kX2_rowOf iX2_rowOf h4.obj ⟨_, rfl, rfl⟩ rfl rfl (Nat.le_of_ble_eq_true rfl) (fun v1 s1 q1 => ?_)
  obtain ⟨rfl, rfl⟩ := q1
  cases hf : V.1.2.2.2.findIdx? (fun e => e.1 == x) with
  | none =>
    refine xgo 80 rfl ?_
    try simp only [xlo0, List.map_cons, List.map_nil, List.length_cons, List.length_nil, xrs, xr0, Nat.reduceAdd, Nat.reduceSub, List.cons_append, List.nil_append, List.set_cons_zero, List.set_cons_succ, Option.toList_none, Option.toList_some, nI_1]
    refine xi_iflt rfl (fun c1 => ?_) (fun c1 => ?_)
    · refine xgo 80 rfl ?_
      try simp only [xlo0, List.map_cons, List.map_nil, List.length_cons, List.length_nil, xrs, xr0, Nat.reduceAdd, Nat.reduceSub, List.cons_append, List.nil_append, List.set_cons_zero, List.set_cons_succ, Option.toList_none, Option.toList_some, nI_1]
      refine xi_ret_i rfl rfl (by decide) ⟨rfl, rfl⟩
    · exact absurd (by decide) c1
  | some i =>
    have hi : i < V.1.2.2.2.length := (List.findIdx?_eq_some_iff_getElem.mp hf).1
    refine xgo 80 rfl ?_
    try simp only [xlo0, List.map_cons, List.map_nil, List.length_cons, List.length_nil, xrs, xr0, Nat.reduceAdd, Nat.reduceSub, List.cons_append, List.nil_append, List.set_cons_zero, List.set_cons_succ, Option.toList_none, Option.toList_some, nI_1]
    refine xi_iflt rfl (fun c1 => ?_) (fun c1 => ?_)
    · exact absurd c1 (nI_pos (by omega))
    · refine xgo 80 rfl ?_
      try simp only [xlo0, List.map_cons, List.map_nil, List.length_cons, List.length_nil, xrs, xr0, Nat.reduceAdd, Nat.reduceSub, List.cons_append, List.nil_append, List.set_cons_zero, List.set_cons_succ, Option.toList_none, Option.toList_some, nI_1]
      refine xi_ret_i rfl rfl (by decide) ⟨rfl, rfl⟩
