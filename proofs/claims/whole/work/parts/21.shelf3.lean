def sbit (seen : Int32) (j : Nat) : Bool := (seen.toUInt32 >>> ((nI j).toUInt32 &&& Int32.toUInt32 31)).toInt32 &&& 1 == 1
def sany (g : Int32) (K : cV) (seen : Int32) : sL → Nat → Bool
  | [], _ => false
  | x :: xs, j => (sbit seen j && betw g K x.2.2.1) || sany g K seen xs (j + 1)
/-- the least of n numbers from g on with f, or -1 -/
def least (f : Nat → Bool) : Nat → Nat → Int32
  | 0, _ => -1
  | n + 1, g => if f g then nI g else least f n (g + 1)
def lsealI (L : sL) (K : cV) : Int32 := least (fun g => sany (nI g) K (seenI L K) L 0) 16 0
set_option maxRecDepth 100000 in
set_option maxHeartbeats 8000000 in
theorem l_SH_leastSealed1 {G : xG} {d s b g : Nat} {L : sL} {K : cV} {σ : xS} {Q : Option Value → xS → Prop} (h : shf G σ.1 s L) (hK : cont G σ.1 b K) (hg : g < 16) (kt : sany (nI g) K (seenI L K) L 0 = true → Q (some (.int (nI g))) σ) (kf : ∀ x4, sany (nI g) K (seenI L K) L 0 = false → xw G (d + 4) mX7_leastSealed 8 [some (rf G s), some (rf G b), some (.int (seenI L K)), some (.int (nI (g + 1))), x4] [] σ Q) : ∀ (n j : Nat), j + n = L.length → sany (nI g) K (seenI L K) (L.drop j) j = sany (nI g) K (seenI L K) L 0 →
    xw G (d + 4) mX7_leastSealed 17 [some (rf G s), some (rf G b), some (.int (seenI L K)), some (.int (nI g)), some (.int (nI j))] [] σ Q := by
  have hL := h.1
  have h2 := h.2.1
  intro n
  induction n with
  | zero =>
    intro j hj hm
    have hj' : j = L.length := by omega
    subst hj'
    rw [List.drop_length] at hm
    refine xgo 80 rfl ?_
    try simp only [xlo0, List.map_cons, List.map_nil, List.length_cons, List.length_nil, xrs, xr0, Nat.reduceAdd, Nat.reduceSub, List.cons_append, List.nil_append, List.set_cons_zero, List.set_cons_succ, Option.toList_none, Option.toList_some, nI_1]
    refine xg 7 rfl rfl rfl h2 rfl ?_
    refine xgo 80 rfl ?_
    try simp only [xlo0, List.map_cons, List.map_nil, List.length_cons, List.length_nil, xrs, xr0, Nat.reduceAdd, Nat.reduceSub, List.cons_append, List.nil_append, List.set_cons_zero, List.set_cons_succ, Option.toList_none, Option.toList_some, nI_1]
    refine xi_icmpge rfl (fun c1 => ?_) (fun c1 => ?_)
    · refine xto 8 80 rfl ?_
      try simp only [xlo0, List.map_cons, List.map_nil, List.length_cons, List.length_nil, xrs, xr0, Nat.reduceAdd, Nat.reduceSub, List.cons_append, List.nil_append, List.set_cons_zero, List.set_cons_succ, Option.toList_none, Option.toList_some, nI_1]
      exact kf _ hm.symm
    · exact absurd (i_le.mpr (Int.le_refl _)) c1
  | succ n ih =>
    intro j hj hm
    obtain ⟨x, hx⟩ := lt_get (l := L) (j := j) (by omega)
    have hen := h.ent hx
    rw [drop_cons hx] at hm
    have hm : ((sbit (seenI L K) j && betw (nI g) K x.2.2.1) || sany (nI g) K (seenI L K) (L.drop (j + 1)) (j + 1)) = sany (nI g) K (seenI L K) L 0 := hm
    refine xgo 80 rfl ?_
    try simp only [xlo0, List.map_cons, List.map_nil, List.length_cons, List.length_nil, xrs, xr0, Nat.reduceAdd, Nat.reduceSub, List.cons_append, List.nil_append, List.set_cons_zero, List.set_cons_succ, Option.toList_none, Option.toList_some, nI_1]
    refine xg 7 rfl rfl rfl h2 rfl ?_
    refine xgo 80 rfl ?_
    try simp only [xlo0, List.map_cons, List.map_nil, List.length_cons, List.length_nil, xrs, xr0, Nat.reduceAdd, Nat.reduceSub, List.cons_append, List.nil_append, List.set_cons_zero, List.set_cons_succ, Option.toList_none, Option.toList_some, nI_1]
    refine xi_icmpge rfl (fun c1 => ?_) (fun c1 => ?_)
    · exact absurd c1 (by rw [i_le, i_n (by omega), i_n (by omega)]; omega)
    refine xgo 80 rfl ?_
    try simp only [xlo0, List.map_cons, List.map_nil, List.length_cons, List.length_nil, xrs, xr0, Nat.reduceAdd, Nat.reduceSub, List.cons_append, List.nil_append, List.set_cons_zero, List.set_cons_succ, Option.toList_none, Option.toList_some, nI_1]
    refine xi_icmpne rfl (fun c2 => ?_) (fun c2 => ?_)
    · refine xto 17 80 rfl ?_
      try simp only [xlo0, List.map_cons, List.map_nil, List.length_cons, List.length_nil, xrs, xr0, Nat.reduceAdd, Nat.reduceSub, List.cons_append, List.nil_append, List.set_cons_zero, List.set_cons_succ, Option.toList_none, Option.toList_some, nI_1]
      refine ih (j + 1) (by omega) ?_
      rw [← hm]
      have : sbit (seenI L K) j = false := by simpa [sbit] using c2
      rw [this]
      rfl
    have hsb : sbit (seenI L K) j = true := by simpa [sbit] using c2
    rw [hsb, Bool.true_and] at hm
    refine xgo 80 rfl ?_
    try simp only [xlo0, List.map_cons, List.map_nil, List.length_cons, List.length_nil, xrs, xr0, Nat.reduceAdd, Nat.reduceSub, List.cons_append, List.nil_append, List.set_cons_zero, List.set_cons_succ, Option.toList_none, Option.toList_some, nI_1]
    refine xcV 7 rfl rfl rfl (c_SH_at h hx) rfl kX7_at iX7_at h2 ⟨_, rfl, rfl⟩ rfl rfl (Nat.le_of_ble_eq_true rfl) (fun v1 s1 q1 => ?_)
    obtain ⟨rfl, rfl⟩ := q1
    refine xgo 80 rfl ?_
    try simp only [xlo0, List.map_cons, List.map_nil, List.length_cons, List.length_nil, xrs, xr0, Nat.reduceAdd, Nat.reduceSub, List.cons_append, List.nil_append, List.set_cons_zero, List.set_cons_succ, Option.toList_none, Option.toList_some, nI_1]
    refine xcS 7 rfl rfl rfl (c_SH_isBetween hK hen) rfl kX7_isBetween iX7_isBetween rfl rfl (Nat.le_of_ble_eq_true rfl) (fun v2 s2 q2 => ?_)
    obtain ⟨rfl, rfl⟩ := q2
    cases hbt : betw (nI g) K x.2.2.1 with
    | true =>
      rw [hbt, Bool.true_or] at hm
      refine xgo 80 rfl ?_
      try simp only [xlo0, List.map_cons, List.map_nil, List.length_cons, List.length_nil, xrs, xr0, Nat.reduceAdd, Nat.reduceSub, List.cons_append, List.nil_append, List.set_cons_zero, List.set_cons_succ, Option.toList_none, Option.toList_some, nI_1]
      refine xi_ifeq rfl (fun c3 => ?_) (fun c3 => ?_)
      · exact absurd c3 (by decide)
      · refine xgo 80 rfl ?_
        try simp only [xlo0, List.map_cons, List.map_nil, List.length_cons, List.length_nil, xrs, xr0, Nat.reduceAdd, Nat.reduceSub, List.cons_append, List.nil_append, List.set_cons_zero, List.set_cons_succ, Option.toList_none, Option.toList_some, nI_1]
        refine xi_ret_i rfl rfl rfl (kt hm.symm)
    | false =>
      rw [hbt, Bool.false_or] at hm
      refine xgo 80 rfl ?_
      try simp only [xlo0, List.map_cons, List.map_nil, List.length_cons, List.length_nil, xrs, xr0, Nat.reduceAdd, Nat.reduceSub, List.cons_append, List.nil_append, List.set_cons_zero, List.set_cons_succ, Option.toList_none, Option.toList_some, nI_1]
      refine xi_ifeq rfl (fun c3 => ?_) (fun c3 => ?_)
      · refine xto 17 80 rfl ?_
        try simp only [xlo0, List.map_cons, List.map_nil, List.length_cons, List.length_nil, xrs, xr0, Nat.reduceAdd, Nat.reduceSub, List.cons_append, List.nil_append, List.set_cons_zero, List.set_cons_succ, Option.toList_none, Option.toList_some, nI_1]
        exact ih (j + 1) (by omega) hm
      · exact absurd rfl c3
set_option maxRecDepth 100000 in
set_option maxHeartbeats 8000000 in
theorem l_SH_leastSealed {G : xG} {d s b : Nat} {L : sL} {K : cV} {σ : xS} (h : shf G σ.1 s L) (hK : cont G σ.1 b K) : ∀ (n g : Nat) (x4 : Option Value), g + n = 16 → least (fun g => sany (nI g) K (seenI L K) L 0) n g = lsealI L K →
    xw G (d + 4) mX7_leastSealed 8 [some (rf G s), some (rf G b), some (.int (seenI L K)), some (.int (nI g)), x4] [] σ (fun v σ' => v = some (.int (lsealI L K)) ∧ σ' = σ) := by
  have z16 : (16 : Int32).toInt = 16 := rfl
  intro n
  induction n with
  | zero =>
    intro g x4 hg hm
    have hg' : g = 16 := by omega
    subst hg'
    refine xgo 80 rfl ?_
    try simp only [xlo0, List.map_cons, List.map_nil, List.length_cons, List.length_nil, xrs, xr0, Nat.reduceAdd, Nat.reduceSub, List.cons_append, List.nil_append, List.set_cons_zero, List.set_cons_succ, Option.toList_none, Option.toList_some, nI_1]
    refine xi_icmpge rfl (fun c1 => ?_) (fun c1 => ?_)
    · refine xgo 80 rfl ?_
      try simp only [xlo0, List.map_cons, List.map_nil, List.length_cons, List.length_nil, xrs, xr0, Nat.reduceAdd, Nat.reduceSub, List.cons_append, List.nil_append, List.set_cons_zero, List.set_cons_succ, Option.toList_none, Option.toList_some, nI_1]
      refine xi_ret_i rfl rfl rfl ⟨by rw [← hm]; rfl, rfl⟩
    · exact absurd (by decide) c1
  | succ n ih =>
    intro g x4 hg hm
    have hm : (if sany (nI g) K (seenI L K) L 0 = true then nI g else least (fun g => sany (nI g) K (seenI L K) L 0) n (g + 1)) = lsealI L K := hm
    refine xgo 80 rfl ?_
    try simp only [xlo0, List.map_cons, List.map_nil, List.length_cons, List.length_nil, xrs, xr0, Nat.reduceAdd, Nat.reduceSub, List.cons_append, List.nil_append, List.set_cons_zero, List.set_cons_succ, Option.toList_none, Option.toList_some, nI_1]
    refine xi_icmpge rfl (fun c1 => ?_) (fun c1 => ?_)
    · exact absurd c1 (by rw [i_le, i_n (by omega), z16]; omega)
    refine xto 17 80 rfl ?_
    try simp only [xlo0, List.map_cons, List.map_nil, List.length_cons, List.length_nil, xrs, xr0, Nat.reduceAdd, Nat.reduceSub, List.cons_append, List.nil_append, List.set_cons_zero, List.set_cons_succ, Option.toList_none, Option.toList_some, nI_1]
    exact l_SH_leastSealed1 h hK (by omega) (fun ht => by rw [if_pos ht] at hm; exact ⟨by rw [← hm], rfl⟩) (fun x4 hf => by rw [if_neg (by rw [hf]; decide)] at hm; exact ih (g + 1) x4 (by omega) hm) L.length 0 (by omega) rfl
set_option maxRecDepth 100000 in
set_option maxHeartbeats 8000000 in
theorem c_SH_leastSealed {G : xG} {d s b : Nat} {L : sL} {K : cV} {σ : xS} (h : shf G σ.1 s L) (hK : cont G σ.1 b K) : xm G (d + 4) mX7_leastSealed [rf G s, rf G b] σ (fun v σ' => v = some (.int (lsealI L K)) ∧ σ' = σ) := by
  refine xm_at 5 rfl (by decide) (Nat.le_of_ble_eq_true rfl) (by simp [Value.category]) tX7_leastSealed_ok ?_
  try simp only [xlo0, List.map_cons, List.map_nil, List.length_cons, List.length_nil, xrs, xr0, Nat.reduceAdd, Nat.reduceSub, List.cons_append, List.nil_append, List.set_cons_zero, List.set_cons_succ, Option.toList_none, Option.toList_some, nI_1]
  refine xgo 80 rfl ?_
  try simp only [xlo0, List.map_cons, List.map_nil, List.length_cons, List.length_nil, xrs, xr0, Nat.reduceAdd, Nat.reduceSub, List.cons_append, List.nil_append, List.set_cons_zero, List.set_cons_succ, Option.toList_none, Option.toList_some, nI_1]
  refine xcV 7 rfl rfl rfl (c_SH_seenBy h hK) rfl kX7_seenBy iX7_seenBy h.2.1 ⟨_, rfl, rfl⟩ rfl rfl (Nat.le_of_ble_eq_true rfl) (fun v1 s1 q1 => ?_)
  obtain ⟨rfl, rfl⟩ := q1
  refine xto 8 80 rfl ?_
  try simp only [xlo0, List.map_cons, List.map_nil, List.length_cons, List.length_nil, xrs, xr0, Nat.reduceAdd, Nat.reduceSub, List.cons_append, List.nil_append, List.set_cons_zero, List.set_cons_succ, Option.toList_none, Option.toList_some, nI_1]
  exact l_SH_leastSealed h hK 16 0 none (by omega) rfl
/-- the latest overlay (of the first n) with a row of the key -/
def ovI (L : sL) (ov : List Int32) (key : Int32) : Nat → Int32
  | 0 => -1
  | n + 1 => match sget L (ov.getD n 0) with
    | some x => if (x.2.2.1.2.2.2.findIdx? (fun e => e.1 == key)).isSome then ov.getD n 0 else ovI L ov key n
    | none => ovI L ov key n
set_option maxRecDepth 100000 in
set_option maxHeartbeats 8000000 in
theorem l_SH_overlayWith {G : xG} {d s : Nat} {L : sL} {x : Nat × Nat × eV} {key i : Int32} {σ : xS} (h : shf G σ.1 s L) (hx : ent G σ.1 x.1 x.2.1 x.2.2) : ∀ (n : Nat) (x5 : Option Value), n ≤ x.2.2.2.2.2.2.length → ∀ y : Int32, y = nI n - 1 →
    xw G (d + 2) mX7_overlayWith 20 [some (rf G s), some (.int i), some (.int key), some (rf G (x.1 + 1)), some (.int y), x5] [] σ (fun v σ' => v = some (.int (ovI L x.2.2.2.2.2.2 key n)) ∧ σ' = σ) := by
  obtain ⟨mb, ovs, h1, h2, h3, h4, h5, h6, h7, h8, h9, h10⟩ := id hx
  intro n
  induction n with
  | zero =>
    intro x5 hn y hy
    subst hy
    refine xgo 80 rfl ?_
    try simp only [xlo0, List.map_cons, List.map_nil, List.length_cons, List.length_nil, xrs, xr0, Nat.reduceAdd, Nat.reduceSub, List.cons_append, List.nil_append, List.set_cons_zero, List.set_cons_succ, Option.toList_none, Option.toList_some, nI_1]
    refine xi_iflt rfl (fun c1 => ?_) (fun c1 => ?_)
    · refine xgo 80 rfl ?_
      try simp only [xlo0, List.map_cons, List.map_nil, List.length_cons, List.length_nil, xrs, xr0, Nat.reduceAdd, Nat.reduceSub, List.cons_append, List.nil_append, List.set_cons_zero, List.set_cons_succ, Option.toList_none, Option.toList_some, nI_1]
      refine xi_ret_i rfl rfl rfl ⟨rfl, rfl⟩
    · exact absurd (by decide) c1
  | succ n ih =>
    intro x5 hn y hy
    rw [nI_pred] at hy
    subst hy
    have hcl : (nI n).toNatClampNeg = n := nI_clamp (by omega)
    obtain ⟨o, ho⟩ := lt_get (l := x.2.2.2.2.2.2) (j := n) (by omega)
    have hov : ovs[n]? = some o := (take_get h10 (by omega)).trans ho
    have hgd : x.2.2.2.2.2.2.getD n 0 = o := by rw [List.getD_eq_getElem?_getD, ho]; rfl
    have hnx : nI n + (-1) = nI n - 1 := (Int32.sub_eq_add_neg ..).symm
    refine xgo 80 rfl ?_
    try simp only [xlo0, List.map_cons, List.map_nil, List.length_cons, List.length_nil, xrs, xr0, Nat.reduceAdd, Nat.reduceSub, List.cons_append, List.nil_append, List.set_cons_zero, List.set_cons_succ, Option.toList_none, Option.toList_some, nI_1]
    refine xi_iflt rfl (fun c1 => ?_) (fun c1 => ?_)
    · exact absurd c1 (nI_pos (by omega))
    refine xgo 80 rfl ?_
    try simp only [xlo0, List.map_cons, List.map_nil, List.length_cons, List.length_nil, xrs, xr0, Nat.reduceAdd, Nat.reduceSub, List.cons_append, List.nil_append, List.set_cons_zero, List.set_cons_succ, Option.toList_none, Option.toList_some, nI_1]
    refine xg 7 rfl rfl rfl h2 rfl ?_
    refine xgo 80 rfl ?_
    try simp only [xlo0, List.map_cons, List.map_nil, List.length_cons, List.length_nil, xrs, xr0, Nat.reduceAdd, Nat.reduceSub, List.cons_append, List.nil_append, List.set_cons_zero, List.set_cons_succ, Option.toList_none, Option.toList_some, nI_1]
    refine xi_iald rfl h3 (nI_pos (by omega)) (by rw [hcl]; exact vi_get hov) ?_
    cases hg : sget L o with
    | none =>
      have hz : ovI L x.2.2.2.2.2.2 key (n + 1) = ovI L x.2.2.2.2.2.2 key n := by simp only [ovI, hgd, hg]
      refine xgo 80 rfl ?_
      try simp only [xlo0, List.map_cons, List.map_nil, List.length_cons, List.length_nil, xrs, xr0, Nat.reduceAdd, Nat.reduceSub, List.cons_append, List.nil_append, List.set_cons_zero, List.set_cons_succ, Option.toList_none, Option.toList_some, nI_1]
      refine xcV 7 rfl rfl rfl (c_SH_atN h (sget_n hg)) rfl kX7_at iX7_at h.2.1 ⟨_, rfl, rfl⟩ rfl rfl (Nat.le_of_ble_eq_true rfl) (fun v1 s1 q1 => ?_)
      obtain ⟨rfl, rfl⟩ := q1
      refine xgo 80 rfl ?_
      try simp only [xlo0, List.map_cons, List.map_nil, List.length_cons, List.length_nil, xrs, xr0, Nat.reduceAdd, Nat.reduceSub, List.cons_append, List.nil_append, List.set_cons_zero, List.set_cons_succ, Option.toList_none, Option.toList_some, nI_1]
      refine xi_ifnull_n rfl ?_
      refine xto 20 80 rfl ?_
      try simp only [xlo0, List.map_cons, List.map_nil, List.length_cons, List.length_nil, xrs, xr0, Nat.reduceAdd, Nat.reduceSub, List.cons_append, List.nil_append, List.set_cons_zero, List.set_cons_succ, Option.toList_none, Option.toList_some, nI_1]
      rw [hz]
      exact ih _ (by omega) _ hnx
    | some z =>
      obtain ⟨k, hk, hz, hk12⟩ := sget_s hg h.1
      have hen := h.ent hz
      rw [hk]
      refine xgo 80 rfl ?_
      try simp only [xlo0, List.map_cons, List.map_nil, List.length_cons, List.length_nil, xrs, xr0, Nat.reduceAdd, Nat.reduceSub, List.cons_append, List.nil_append, List.set_cons_zero, List.set_cons_succ, Option.toList_none, Option.toList_some, nI_1]
      refine xcV 7 rfl rfl rfl (c_SH_at h hz) rfl kX7_at iX7_at h.2.1 ⟨_, rfl, rfl⟩ rfl rfl (Nat.le_of_ble_eq_true rfl) (fun v1 s1 q1 => ?_)
      obtain ⟨rfl, rfl⟩ := q1
      refine xgo 80 rfl ?_
      try simp only [xlo0, List.map_cons, List.map_nil, List.length_cons, List.length_nil, xrs, xr0, Nat.reduceAdd, Nat.reduceSub, List.cons_append, List.nil_append, List.set_cons_zero, List.set_cons_succ, Option.toList_none, Option.toList_some, nI_1]
      refine xi_ifnull_r rfl ?_
      refine xgo 80 rfl ?_
      try simp only [xlo0, List.map_cons, List.map_nil, List.length_cons, List.length_nil, xrs, xr0, Nat.reduceAdd, Nat.reduceSub, List.cons_append, List.nil_append, List.set_cons_zero, List.set_cons_succ, Option.toList_none, Option.toList_some, nI_1]
      refine xcV 7 rfl rfl rfl (c_EN_hasRowOf hen) rfl kX3_hasRowOf iX3_hasRowOf hen.obj ⟨_, rfl, rfl⟩ rfl rfl (Nat.le_of_ble_eq_true rfl) (fun v2 s2 q2 => ?_)
      obtain ⟨rfl, rfl⟩ := q2
      cases hr : (z.2.2.1.2.2.2.findIdx? (fun e => e.1 == key)).isSome with
      | false =>
        have hz : ovI L x.2.2.2.2.2.2 key (n + 1) = ovI L x.2.2.2.2.2.2 key n := by simp only [ovI, hgd, hg, hr]; rfl
        refine xgo 80 rfl ?_
        try simp only [xlo0, List.map_cons, List.map_nil, List.length_cons, List.length_nil, xrs, xr0, Nat.reduceAdd, Nat.reduceSub, List.cons_append, List.nil_append, List.set_cons_zero, List.set_cons_succ, Option.toList_none, Option.toList_some, nI_1]
        refine xi_ifeq rfl (fun c2 => ?_) (fun c2 => ?_)
        · refine xto 20 80 rfl ?_
          try simp only [xlo0, List.map_cons, List.map_nil, List.length_cons, List.length_nil, xrs, xr0, Nat.reduceAdd, Nat.reduceSub, List.cons_append, List.nil_append, List.set_cons_zero, List.set_cons_succ, Option.toList_none, Option.toList_some, nI_1]
          rw [hz]
          exact ih _ (by omega) _ hnx
        · exact absurd rfl c2
      | true =>
        have hz : ovI L x.2.2.2.2.2.2 key (n + 1) = o := by simp only [ovI, hgd, hg, hr]; rfl
        refine xgo 80 rfl ?_
        try simp only [xlo0, List.map_cons, List.map_nil, List.length_cons, List.length_nil, xrs, xr0, Nat.reduceAdd, Nat.reduceSub, List.cons_append, List.nil_append, List.set_cons_zero, List.set_cons_succ, Option.toList_none, Option.toList_some, nI_1]
        refine xi_ifeq rfl (fun c2 => ?_) (fun c2 => ?_)
        · exact absurd c2 (by decide)
        refine xgo 80 rfl ?_
        try simp only [xlo0, List.map_cons, List.map_nil, List.length_cons, List.length_nil, xrs, xr0, Nat.reduceAdd, Nat.reduceSub, List.cons_append, List.nil_append, List.set_cons_zero, List.set_cons_succ, Option.toList_none, Option.toList_some, nI_1]
        refine xg 7 rfl rfl rfl h2 rfl ?_
        refine xgo 80 rfl ?_
        try simp only [xlo0, List.map_cons, List.map_nil, List.length_cons, List.length_nil, xrs, xr0, Nat.reduceAdd, Nat.reduceSub, List.cons_append, List.nil_append, List.set_cons_zero, List.set_cons_succ, Option.toList_none, Option.toList_some, nI_1]
        refine xi_iald rfl h3 (nI_pos (by omega)) (by rw [hcl]; exact vi_get hov) ?_
        refine xgo 80 rfl ?_
        try simp only [xlo0, List.map_cons, List.map_nil, List.length_cons, List.length_nil, xrs, xr0, Nat.reduceAdd, Nat.reduceSub, List.cons_append, List.nil_append, List.set_cons_zero, List.set_cons_succ, Option.toList_none, Option.toList_some, nI_1]
        refine xi_ret_i rfl rfl rfl ⟨by rw [hz], rfl⟩
set_option maxRecDepth 100000 in
set_option maxHeartbeats 8000000 in
theorem c_SH_overlayWith {G : xG} {d s j : Nat} {L : sL} {x : Nat × Nat × eV} {key : Int32} {σ : xS} (h : shf G σ.1 s L) (hj : L[j]? = some x) : xm G (d + 2) mX7_overlayWith [rf G s, .int (nI j), .int key] σ (fun v σ' => v = some (.int (ovI L x.2.2.2.2.2.2 key x.2.2.2.2.2.2.length)) ∧ σ' = σ) := by
  have hen := h.ent hj
  refine xm_at 6 rfl (by decide) (Nat.le_of_ble_eq_true rfl) (by simp [Value.category]) tX7_overlayWith_ok ?_
  try simp only [xlo0, List.map_cons, List.map_nil, List.length_cons, List.length_nil, xrs, xr0, Nat.reduceAdd, Nat.reduceSub, List.cons_append, List.nil_append, List.set_cons_zero, List.set_cons_succ, Option.toList_none, Option.toList_some, nI_1]
  refine xgo 80 rfl ?_
  try simp only [xlo0, List.map_cons, List.map_nil, List.length_cons, List.length_nil, xrs, xr0, Nat.reduceAdd, Nat.reduceSub, List.cons_append, List.nil_append, List.set_cons_zero, List.set_cons_succ, Option.toList_none, Option.toList_some, nI_1]
  refine xcV 7 rfl rfl rfl (c_SH_at h hj) rfl kX7_at iX7_at h.2.1 ⟨_, rfl, rfl⟩ rfl rfl (Nat.le_of_ble_eq_true rfl) (fun v1 s1 q1 => ?_)
  obtain ⟨rfl, rfl⟩ := q1
  refine xgo 80 rfl ?_
  try simp only [xlo0, List.map_cons, List.map_nil, List.length_cons, List.length_nil, xrs, xr0, Nat.reduceAdd, Nat.reduceSub, List.cons_append, List.nil_append, List.set_cons_zero, List.set_cons_succ, Option.toList_none, Option.toList_some, nI_1]
  refine xi_ifnonnull_r rfl ?_
  refine xgo 80 rfl ?_
  try simp only [xlo0, List.map_cons, List.map_nil, List.length_cons, List.length_nil, xrs, xr0, Nat.reduceAdd, Nat.reduceSub, List.cons_append, List.nil_append, List.set_cons_zero, List.set_cons_succ, Option.toList_none, Option.toList_some, nI_1]
  refine xg 7 rfl rfl rfl hen.obj rfl ?_
  refine xto 20 80 rfl ?_
  try simp only [xlo0, List.map_cons, List.map_nil, List.length_cons, List.length_nil, xrs, xr0, Nat.reduceAdd, Nat.reduceSub, List.cons_append, List.nil_append, List.set_cons_zero, List.set_cons_succ, Option.toList_none, Option.toList_some, nI_1]
  exact l_SH_overlayWith h hen _ none (Nat.le_refl _) _ rfl
/-- is entry x (number f) ahead of the entry that says K (number e)? -/
def ahead (K : cV) (e : Int32) (f : Nat) (V : cV) : Bool := (V.1.1 == K.1.1) && (decide (K.1.2.1 < V.1.2.1) || ((V.1.2.1 == K.1.2.1) && decide (e < nI f)))
def cahead (K : cV) (e : Int32) : sL → Nat → Nat
  | [], _ => 0
  | x :: xs, f => (if ahead K e f x.2.2.1 then 1 else 0) + cahead K e xs (f + 1)
theorem cahead_le (K : cV) (e : Int32) : ∀ (L : sL) (f : Nat), cahead K e L f ≤ L.length
  | [], f => Nat.le_refl _
  | x :: xs, f => by
    have := cahead_le K e xs (f + 1)
    simp only [cahead, List.length_cons]
    split <;> omega
set_option maxRecDepth 100000 in
set_option maxHeartbeats 8000000 in
theorem l_SH_countAhead {G : xG} {d s b : Nat} {L : sL} {K : cV} {e : Int32} {σ : xS} (h : shf G σ.1 s L) (hK : cont G σ.1 b K) : ∀ (n f a : Nat) (x5 x6 : Option Value), f + n = L.length → a + cahead K e (L.drop f) f = cahead K e L 0 →
    xw G (d + 1) mX7_countAhead 5 [some (rf G s), some (rf G b), some (.int e), some (.int (nI a)), some (.int (nI f)), x5, x6] [] σ (fun v σ' => v = some (.int (nI (cahead K e L 0))) ∧ σ' = σ) := by
  have hL := h.1
  have h2 := h.2.1
  have o1 := hK.obj
  intro n
  induction n with
  | zero =>
    intro f a x5 x6 hf hm
    have hf' : f = L.length := by omega
    subst hf'
    rw [List.drop_length] at hm
    refine xgo 80 rfl ?_
    try simp only [xlo0, List.map_cons, List.map_nil, List.length_cons, List.length_nil, xrs, xr0, Nat.reduceAdd, Nat.reduceSub, List.cons_append, List.nil_append, List.set_cons_zero, List.set_cons_succ, Option.toList_none, Option.toList_some, nI_1]
    refine xg 7 rfl rfl rfl h2 rfl ?_
    refine xgo 80 rfl ?_
    try simp only [xlo0, List.map_cons, List.map_nil, List.length_cons, List.length_nil, xrs, xr0, Nat.reduceAdd, Nat.reduceSub, List.cons_append, List.nil_append, List.set_cons_zero, List.set_cons_succ, Option.toList_none, Option.toList_some, nI_1]
    refine xi_icmpge rfl (fun c1 => ?_) (fun c1 => ?_)
    · refine xgo 80 rfl ?_
      try simp only [xlo0, List.map_cons, List.map_nil, List.length_cons, List.length_nil, xrs, xr0, Nat.reduceAdd, Nat.reduceSub, List.cons_append, List.nil_append, List.set_cons_zero, List.set_cons_succ, Option.toList_none, Option.toList_some, nI_1]
      refine xi_ret_i rfl rfl rfl ⟨by rw [← hm]; rfl, rfl⟩
    · exact absurd (i_le.mpr (Int.le_refl _)) c1
  | succ n ih =>
    intro f a x5 x6 hf hm
    obtain ⟨x, hx⟩ := lt_get (l := L) (j := f) (by omega)
    have hen := h.ent hx
    rw [drop_cons hx] at hm
    have hm : a + ((if ahead K e f x.2.2.1 = true then 1 else 0) + cahead K e (L.drop (f + 1)) (f + 1)) = cahead K e L 0 := hm
    refine xgo 80 rfl ?_
    try simp only [xlo0, List.map_cons, List.map_nil, List.length_cons, List.length_nil, xrs, xr0, Nat.reduceAdd, Nat.reduceSub, List.cons_append, List.nil_append, List.set_cons_zero, List.set_cons_succ, Option.toList_none, Option.toList_some, nI_1]
    refine xg 7 rfl rfl rfl h2 rfl ?_
    refine xgo 80 rfl ?_
    try simp only [xlo0, List.map_cons, List.map_nil, List.length_cons, List.length_nil, xrs, xr0, Nat.reduceAdd, Nat.reduceSub, List.cons_append, List.nil_append, List.set_cons_zero, List.set_cons_succ, Option.toList_none, Option.toList_some, nI_1]
    refine xi_icmpge rfl (fun c1 => ?_) (fun c1 => ?_)
    · exact absurd c1 (by rw [i_le, i_n (by omega), i_n (by omega)]; omega)
    refine xgo 80 rfl ?_
    try simp only [xlo0, List.map_cons, List.map_nil, List.length_cons, List.length_nil, xrs, xr0, Nat.reduceAdd, Nat.reduceSub, List.cons_append, List.nil_append, List.set_cons_zero, List.set_cons_succ, Option.toList_none, Option.toList_some, nI_1]
    refine xcV 7 rfl rfl rfl (c_SH_at h hx) rfl kX7_at iX7_at h2 ⟨_, rfl, rfl⟩ rfl rfl (Nat.le_of_ble_eq_true rfl) (fun v1 s1 q1 => ?_)
    obtain ⟨rfl, rfl⟩ := q1
    refine xgo 80 rfl ?_
    try simp only [xlo0, List.map_cons, List.map_nil, List.length_cons, List.length_nil, xrs, xr0, Nat.reduceAdd, Nat.reduceSub, List.cons_append, List.nil_append, List.set_cons_zero, List.set_cons_succ, Option.toList_none, Option.toList_some, nI_1]
    refine xi_ifnull_r rfl ?_
    refine xgo 80 rfl ?_
    try simp only [xlo0, List.map_cons, List.map_nil, List.length_cons, List.length_nil, xrs, xr0, Nat.reduceAdd, Nat.reduceSub, List.cons_append, List.nil_append, List.set_cons_zero, List.set_cons_succ, Option.toList_none, Option.toList_some, nI_1]
    refine xg 7 rfl rfl rfl hen.obj rfl ?_
    refine xgo 80 rfl ?_
    try simp only [xlo0, List.map_cons, List.map_nil, List.length_cons, List.length_nil, xrs, xr0, Nat.reduceAdd, Nat.reduceSub, List.cons_append, List.nil_append, List.set_cons_zero, List.set_cons_succ, Option.toList_none, Option.toList_some, nI_1]
    refine xg 7 rfl rfl rfl hen.cont.obj rfl ?_
    refine xgo 80 rfl ?_
    try simp only [xlo0, List.map_cons, List.map_nil, List.length_cons, List.length_nil, xrs, xr0, Nat.reduceAdd, Nat.reduceSub, List.cons_append, List.nil_append, List.set_cons_zero, List.set_cons_succ, Option.toList_none, Option.toList_some, nI_1]
    refine xg 7 rfl rfl rfl o1 rfl ?_
    refine xgo 80 rfl ?_
    try simp only [xlo0, List.map_cons, List.map_nil, List.length_cons, List.length_nil, xrs, xr0, Nat.reduceAdd, Nat.reduceSub, List.cons_append, List.nil_append, List.set_cons_zero, List.set_cons_succ, Option.toList_none, Option.toList_some, nI_1]
    refine xi_icmpne rfl (fun c2 => ?_) (fun c2 => ?_)
    · refine xto 5 80 rfl ?_
      try simp only [xlo0, List.map_cons, List.map_nil, List.length_cons, List.length_nil, xrs, xr0, Nat.reduceAdd, Nat.reduceSub, List.cons_append, List.nil_append, List.set_cons_zero, List.set_cons_succ, Option.toList_none, Option.toList_some, nI_1]
      refine ih (f + 1) a _ _ (by omega) ?_
      rw [if_neg (by simp [ahead, c2])] at hm
      omega
    refine xgo 80 rfl ?_
    try simp only [xlo0, List.map_cons, List.map_nil, List.length_cons, List.length_nil, xrs, xr0, Nat.reduceAdd, Nat.reduceSub, List.cons_append, List.nil_append, List.set_cons_zero, List.set_cons_succ, Option.toList_none, Option.toList_some, nI_1]
    refine xg 7 rfl rfl rfl hen.obj rfl ?_
    refine xgo 80 rfl ?_
    try simp only [xlo0, List.map_cons, List.map_nil, List.length_cons, List.length_nil, xrs, xr0, Nat.reduceAdd, Nat.reduceSub, List.cons_append, List.nil_append, List.set_cons_zero, List.set_cons_succ, Option.toList_none, Option.toList_some, nI_1]
    refine xg 7 rfl rfl rfl hen.cont.obj rfl ?_
    refine xgo 80 rfl ?_
    try simp only [xlo0, List.map_cons, List.map_nil, List.length_cons, List.length_nil, xrs, xr0, Nat.reduceAdd, Nat.reduceSub, List.cons_append, List.nil_append, List.set_cons_zero, List.set_cons_succ, Option.toList_none, Option.toList_some, nI_1]
    refine xg 7 rfl rfl rfl o1 rfl ?_
    refine xgo 80 rfl ?_
    try simp only [xlo0, List.map_cons, List.map_nil, List.length_cons, List.length_nil, xrs, xr0, Nat.reduceAdd, Nat.reduceSub, List.cons_append, List.nil_append, List.set_cons_zero, List.set_cons_succ, Option.toList_none, Option.toList_some, nI_1]
    refine xi_icmple rfl (fun c3 => ?_) (fun c3 => ?_)
    · refine xgo 80 rfl ?_
      try simp only [xlo0, List.map_cons, List.map_nil, List.length_cons, List.length_nil, xrs, xr0, Nat.reduceAdd, Nat.reduceSub, List.cons_append, List.nil_append, List.set_cons_zero, List.set_cons_succ, Option.toList_none, Option.toList_some, nI_1]
      refine xi_ifne rfl (fun c4 => ?_) (fun c4 => ?_)
      · exact absurd rfl c4
      refine xgo 80 rfl ?_
      try simp only [xlo0, List.map_cons, List.map_nil, List.length_cons, List.length_nil, xrs, xr0, Nat.reduceAdd, Nat.reduceSub, List.cons_append, List.nil_append, List.set_cons_zero, List.set_cons_succ, Option.toList_none, Option.toList_some, nI_1]
      refine xg 7 rfl rfl rfl hen.obj rfl ?_
      refine xgo 80 rfl ?_
      try simp only [xlo0, List.map_cons, List.map_nil, List.length_cons, List.length_nil, xrs, xr0, Nat.reduceAdd, Nat.reduceSub, List.cons_append, List.nil_append, List.set_cons_zero, List.set_cons_succ, Option.toList_none, Option.toList_some, nI_1]
      refine xg 7 rfl rfl rfl hen.cont.obj rfl ?_
      refine xgo 80 rfl ?_
      try simp only [xlo0, List.map_cons, List.map_nil, List.length_cons, List.length_nil, xrs, xr0, Nat.reduceAdd, Nat.reduceSub, List.cons_append, List.nil_append, List.set_cons_zero, List.set_cons_succ, Option.toList_none, Option.toList_some, nI_1]
      refine xg 7 rfl rfl rfl o1 rfl ?_
      have hnlt : ¬ K.1.2.1 < x.2.2.1.1.2.1 := by rw [i_lt]; rw [i_le] at c3; omega
      refine xgo 80 rfl ?_
      try simp only [xlo0, List.map_cons, List.map_nil, List.length_cons, List.length_nil, xrs, xr0, Nat.reduceAdd, Nat.reduceSub, List.cons_append, List.nil_append, List.set_cons_zero, List.set_cons_succ, Option.toList_none, Option.toList_some, nI_1]
      refine xi_icmpne rfl (fun c5 => ?_) (fun c5 => ?_)
      · refine xto 5 80 rfl ?_
        try simp only [xlo0, List.map_cons, List.map_nil, List.length_cons, List.length_nil, xrs, xr0, Nat.reduceAdd, Nat.reduceSub, List.cons_append, List.nil_append, List.set_cons_zero, List.set_cons_succ, Option.toList_none, Option.toList_some, nI_1]
        refine ih (f + 1) a _ _ (by omega) ?_
        rw [if_neg (by simp [ahead, hnlt, c5])] at hm
        omega
      refine xgo 80 rfl ?_
      try simp only [xlo0, List.map_cons, List.map_nil, List.length_cons, List.length_nil, xrs, xr0, Nat.reduceAdd, Nat.reduceSub, List.cons_append, List.nil_append, List.set_cons_zero, List.set_cons_succ, Option.toList_none, Option.toList_some, nI_1]
      refine xi_icmple rfl (fun c6 => ?_) (fun c6 => ?_)
      · refine xto 5 80 rfl ?_
        try simp only [xlo0, List.map_cons, List.map_nil, List.length_cons, List.length_nil, xrs, xr0, Nat.reduceAdd, Nat.reduceSub, List.cons_append, List.nil_append, List.set_cons_zero, List.set_cons_succ, Option.toList_none, Option.toList_some, nI_1]
        refine ih (f + 1) a _ _ (by omega) ?_
        have : ¬ e < nI f := by rw [i_lt]; rw [i_le] at c6; omega
        rw [if_neg (by simp [ahead, hnlt, this])] at hm
        omega
      · refine xto 5 80 rfl ?_
        try simp only [xlo0, List.map_cons, List.map_nil, List.length_cons, List.length_nil, xrs, xr0, Nat.reduceAdd, Nat.reduceSub, List.cons_append, List.nil_append, List.set_cons_zero, List.set_cons_succ, Option.toList_none, Option.toList_some, nI_1]
        refine ih (f + 1) (a + 1) _ _ (by omega) ?_
        have : e < nI f := by rw [i_lt]; rw [i_le] at c6; omega
        rw [if_pos (by simp [ahead, c2, c5, this])] at hm
        omega
    · have hlt : K.1.2.1 < x.2.2.1.1.2.1 := by rw [i_lt]; rw [i_le] at c3; omega
      refine xgo 80 rfl ?_
      try simp only [xlo0, List.map_cons, List.map_nil, List.length_cons, List.length_nil, xrs, xr0, Nat.reduceAdd, Nat.reduceSub, List.cons_append, List.nil_append, List.set_cons_zero, List.set_cons_succ, Option.toList_none, Option.toList_some, nI_1]
      refine xi_ifne rfl (fun c4 => ?_) (fun c4 => ?_)
      · refine xto 5 80 rfl ?_
        try simp only [xlo0, List.map_cons, List.map_nil, List.length_cons, List.length_nil, xrs, xr0, Nat.reduceAdd, Nat.reduceSub, List.cons_append, List.nil_append, List.set_cons_zero, List.set_cons_succ, Option.toList_none, Option.toList_some, nI_1]
        refine ih (f + 1) (a + 1) _ _ (by omega) ?_
        rw [if_pos (by simp [ahead, c2, hlt])] at hm
        omega
      · exact absurd c4 (by decide)
set_option maxRecDepth 100000 in
set_option maxHeartbeats 8000000 in
theorem c_SH_countAhead {G : xG} {d s b : Nat} {L : sL} {K : cV} {e : Int32} {σ : xS} (h : shf G σ.1 s L) (hK : cont G σ.1 b K) : xm G (d + 1) mX7_countAhead [rf G s, rf G b, .int e] σ (fun v σ' => v = some (.int (nI (cahead K e L 0))) ∧ σ' = σ) := by
  refine xm_at 7 rfl (by decide) (Nat.le_of_ble_eq_true rfl) (by simp [Value.category]) tX7_countAhead_ok ?_
  try simp only [xlo0, List.map_cons, List.map_nil, List.length_cons, List.length_nil, xrs, xr0, Nat.reduceAdd, Nat.reduceSub, List.cons_append, List.nil_append, List.set_cons_zero, List.set_cons_succ, Option.toList_none, Option.toList_some, nI_1]
  refine xto 5 80 rfl ?_
  try simp only [xlo0, List.map_cons, List.map_nil, List.length_cons, List.length_nil, xrs, xr0, Nat.reduceAdd, Nat.reduceSub, List.cons_append, List.nil_append, List.set_cons_zero, List.set_cons_succ, Option.toList_none, Option.toList_some, nI_1]
  exact l_SH_countAhead h hK L.length 0 0 none none (by omega) (by simp)
