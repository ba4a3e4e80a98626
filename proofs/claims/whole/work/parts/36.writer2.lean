set_option maxRecDepth 100000 in
set_option maxHeartbeats 8000000 in
theorem l_WR_like2 {G : xG} {d w c r k b : Nat} {P : List Int32} {K : cV} {Q : Option Value → xS → Prop} {x5 : Option Value} {s : xS} (hP : rby K.2.2.2 (nI r) = P) (hPl : P.length ≤ 120) (hk : k ≤ P.length) (hb : b ≤ k) (h2 : cont G s.1 c K) (hq : xw G (d + 1) mX6_searchMatch 93 [some (rf G w), some (rf G c), some (.int (nI r)), some (.int (nI k)), some (.int (nI (P.length - k))), x5, some (.int (nI b)), some (.int (nI (lik P k b)))] [] s Q) : ∀ (n j : Nat), j + n = P.length - k → (∀ i, i < j → lkp P k b i = true) →
    xw G (d + 1) mX6_searchMatch 56 [some (rf G w), some (rf G c), some (.int (nI r)), some (.int (nI k)), some (.int (nI (P.length - k))), x5, some (.int (nI b)), some (.int (nI j))] [] s Q := by
  intro n
  induction n with
  | zero =>
    intro j hj hl
    rw [lik_is (n := j) (by omega) hl (Or.inl (by omega))] at hq
    refine xgo 80 rfl ?_
    try simp only [xlo0, List.map_cons, List.map_nil, List.length_cons, List.length_nil, xrs, xr0, Nat.reduceAdd, Nat.reduceSub, List.cons_append, List.nil_append, List.set_cons_zero, List.set_cons_succ, Option.toList_none, Option.toList_some, nI_1]
    refine xi_icmpge rfl (fun c => ?_) (fun c => ?_)
    · exact hq
    · exact absurd (by rw [i_le, i_n (by omega), i_n (by omega)]; omega) c
  | succ n ih =>
    intro j hj hl
    refine xgo 80 rfl ?_
    try simp only [xlo0, List.map_cons, List.map_nil, List.length_cons, List.length_nil, xrs, xr0, Nat.reduceAdd, Nat.reduceSub, List.cons_append, List.nil_append, List.set_cons_zero, List.set_cons_succ, Option.toList_none, Option.toList_some, nI_1]
    refine xi_icmpge rfl (fun c => ?_) (fun c => ?_)
    · exfalso
      rw [i_le, i_n (by omega), i_n (by omega)] at c
      omega
    · refine xgo 80 rfl ?_
      try simp only [xlo0, List.map_cons, List.map_nil, List.length_cons, List.length_nil, xrs, xr0, Nat.reduceAdd, Nat.reduceSub, List.cons_append, List.nil_append, List.set_cons_zero, List.set_cons_succ, Option.toList_none, Option.toList_some, nI_1]
      rw [nI_addN]
      refine xgo 80 rfl ?_
      try simp only [xlo0, List.map_cons, List.map_nil, List.length_cons, List.length_nil, xrs, xr0, Nat.reduceAdd, Nat.reduceSub, List.cons_append, List.nil_append, List.set_cons_zero, List.set_cons_succ, Option.toList_none, Option.toList_some, nI_1]
      refine xcV 6 rfl rfl rfl (c_CT_byteAt h2) rfl kX2_byteAt iX2_byteAt h2.obj ⟨_, rfl, rfl⟩ rfl rfl (Nat.le_of_ble_eq_true rfl) (fun v1 s1 q1 => ?_)
      obtain ⟨rfl, rfl⟩ := q1
      rw [hP, bat_n (by omega)]
      refine xgo 80 rfl ?_
      try simp only [xlo0, List.map_cons, List.map_nil, List.length_cons, List.length_nil, xrs, xr0, Nat.reduceAdd, Nat.reduceSub, List.cons_append, List.nil_append, List.set_cons_zero, List.set_cons_succ, Option.toList_none, Option.toList_some, nI_1]
      rw [nI_addN, nI_subN (by omega)]
      refine xgo 80 rfl ?_
      try simp only [xlo0, List.map_cons, List.map_nil, List.length_cons, List.length_nil, xrs, xr0, Nat.reduceAdd, Nat.reduceSub, List.cons_append, List.nil_append, List.set_cons_zero, List.set_cons_succ, Option.toList_none, Option.toList_some, nI_1]
      refine xcV 6 rfl rfl rfl (c_CT_byteAt h2) rfl kX2_byteAt iX2_byteAt h2.obj ⟨_, rfl, rfl⟩ rfl rfl (Nat.le_of_ble_eq_true rfl) (fun v2 s2 q2 => ?_)
      obtain ⟨rfl, rfl⟩ := q2
      rw [hP, bat_n (by omega)]
      refine xgo 80 rfl ?_
      try simp only [xlo0, List.map_cons, List.map_nil, List.length_cons, List.length_nil, xrs, xr0, Nat.reduceAdd, Nat.reduceSub, List.cons_append, List.nil_append, List.set_cons_zero, List.set_cons_succ, Option.toList_none, Option.toList_some, nI_1]
      refine xi_icmpne rfl (fun c2 => ?_) (fun c2 => ?_)
      · rw [lik_is (n := j) (by omega) hl (Or.inr (by unfold lkp; exact beq_eq_false_iff_ne.mpr c2))] at hq
        exact hq
      · refine xto 56 80 rfl ?_
        try simp only [xlo0, List.map_cons, List.map_nil, List.length_cons, List.length_nil, xrs, xr0, Nat.reduceAdd, Nat.reduceSub, List.cons_append, List.nil_append, List.set_cons_zero, List.set_cons_succ, Option.toList_none, Option.toList_some, nI_1]
        refine ih (j + 1) (by omega) (fun i hi => ?_)
        by_cases hij : i = j
        · subst hij
          unfold lkp
          rw [c2]
          exact beq_self_eq_true _
        · exact hl i (by omega)
set_option maxRecDepth 100000 in
set_option maxHeartbeats 8000000 in
theorem l_WR_search {G : xG} {d w c r k : Nat} {P bs sz : List Int32} {K : cV} {σ : xS} (hP : rby K.2.2.2 (nI r) = P) (hd : c + 17 ≤ w ∨ w + 4 ≤ c) (hPl : P.length ≤ 120) (hk : k ≤ P.length) : ∀ (n b : Nat) (s : xS) (y : Option Value), b + n = k → wrw G s.1 w bs sz (nI (bst P k b).2) (nI (bst P k b).1) → cont G s.1 c K → frz σ.1 s.1 w 4 → s.2 = σ.2 →
    xw G (d + 1) mX6_searchMatch 37 [some (rf G w), some (rf G c), some (.int (nI r)), some (.int (nI k)), some (.int (nI (P.length - k))), some (.int (nI k)), some (.int (nI (b + 1))), y] [] s (fun v σ' => v = none ∧ wrw G σ'.1 w bs sz (nI (bst P k k).2) (nI (bst P k k).1) ∧ frz σ.1 σ'.1 w 4 ∧ σ'.2 = σ.2) := by
  intro n
  induction n with
  | zero =>
    intro b s y hb h1 h2 hf h3
    have : b = k := by omega
    subst this
    refine xgo 80 rfl ?_
    try simp only [xlo0, List.map_cons, List.map_nil, List.length_cons, List.length_nil, xrs, xr0, Nat.reduceAdd, Nat.reduceSub, List.cons_append, List.nil_append, List.set_cons_zero, List.set_cons_succ, Option.toList_none, Option.toList_some, nI_1]
    refine xi_icmpgt rfl (fun c => ?_) (fun c => ?_)
    · refine xgo 80 rfl ?_
      try simp only [xlo0, List.map_cons, List.map_nil, List.length_cons, List.length_nil, xrs, xr0, Nat.reduceAdd, Nat.reduceSub, List.cons_append, List.nil_append, List.set_cons_zero, List.set_cons_succ, Option.toList_none, Option.toList_some, nI_1]
      refine xi_ret_v rfl rfl ⟨rfl, h1, hf, h3⟩
    · exact absurd (by rw [i_lt, i_n (by omega), i_n (by omega)]; omega) c
  | succ n ih =>
    intro b s y hb h1 h2 hf h3
    have hbl := bst_le P k b
    refine xgo 80 rfl ?_
    try simp only [xlo0, List.map_cons, List.map_nil, List.length_cons, List.length_nil, xrs, xr0, Nat.reduceAdd, Nat.reduceSub, List.cons_append, List.nil_append, List.set_cons_zero, List.set_cons_succ, Option.toList_none, Option.toList_some, nI_1]
    refine xi_icmpgt rfl (fun c => ?_) (fun c => ?_)
    · exact absurd c (by rw [i_lt, i_n (by omega), i_n (by omega)]; omega)
    refine xgo 80 rfl ?_
    try simp only [xlo0, List.map_cons, List.map_nil, List.length_cons, List.length_nil, xrs, xr0, Nat.reduceAdd, Nat.reduceSub, List.cons_append, List.nil_append, List.set_cons_zero, List.set_cons_succ, Option.toList_none, Option.toList_some, nI_1]
    refine xg 6 rfl rfl rfl h1.1 rfl ?_
    refine xgo 80 rfl ?_
    try simp only [xlo0, List.map_cons, List.map_nil, List.length_cons, List.length_nil, xrs, xr0, Nat.reduceAdd, Nat.reduceSub, List.cons_append, List.nil_append, List.set_cons_zero, List.set_cons_succ, Option.toList_none, Option.toList_some, nI_1]
    refine xi_icmpge rfl (fun c2 => ?_) (fun c2 => ?_)
    · rw [i_le, i_n (by omega), i_n (by omega)] at c2
      have e := bst_full (P := P) (k := k) (b := b) (by omega) (k - b)
      rw [show b + (k - b) = k by omega] at e
      rw [e]
      refine xgo 80 rfl ?_
      try simp only [xlo0, List.map_cons, List.map_nil, List.length_cons, List.length_nil, xrs, xr0, Nat.reduceAdd, Nat.reduceSub, List.cons_append, List.nil_append, List.set_cons_zero, List.set_cons_succ, Option.toList_none, Option.toList_some, nI_1]
      refine xi_ret_v rfl rfl ⟨rfl, h1, hf, h3⟩
    · refine xto 56 80 rfl ?_
      try simp only [xlo0, List.map_cons, List.map_nil, List.length_cons, List.length_nil, xrs, xr0, Nat.reduceAdd, Nat.reduceSub, List.cons_append, List.nil_append, List.set_cons_zero, List.set_cons_succ, Option.toList_none, Option.toList_some, nI_1]
      refine l_WR_like2 hP hPl hk (by omega) h2 ?_ (P.length - k) 0 (by omega) (fun i hi => absurd hi (by omega))
      have hll := lik_le P k (b + 1)
      have hbs : bst P k (b + 1) = if (bst P k b).1 < lik P k (b + 1) then (lik P k (b + 1), b + 1) else bst P k b := rfl
      refine xgo 80 rfl ?_
      try simp only [xlo0, List.map_cons, List.map_nil, List.length_cons, List.length_nil, xrs, xr0, Nat.reduceAdd, Nat.reduceSub, List.cons_append, List.nil_append, List.set_cons_zero, List.set_cons_succ, Option.toList_none, Option.toList_some, nI_1]
      refine xg 6 rfl rfl rfl h1.1 rfl ?_
      refine xgo 80 rfl ?_
      try simp only [xlo0, List.map_cons, List.map_nil, List.length_cons, List.length_nil, xrs, xr0, Nat.reduceAdd, Nat.reduceSub, List.cons_append, List.nil_append, List.set_cons_zero, List.set_cons_succ, Option.toList_none, Option.toList_some, nI_1]
      refine xi_icmple rfl (fun c3 => ?_) (fun c3 => ?_)
      · rw [i_le, i_n (by omega), i_n (by omega)] at c3
        rw [if_neg (by omega)] at hbs
        refine xto 37 80 rfl ?_
        try simp only [xlo0, List.map_cons, List.map_nil, List.length_cons, List.length_nil, xrs, xr0, Nat.reduceAdd, Nat.reduceSub, List.cons_append, List.nil_append, List.set_cons_zero, List.set_cons_succ, Option.toList_none, Option.toList_some, nI_1]
        exact ih (b + 1) s _ (by omega) (by rw [hbs]; exact h1) h2 hf h3
      · rw [i_le, i_n (by omega), i_n (by omega)] at c3
        rw [if_pos (by omega)] at hbs
        refine xgo 80 rfl ?_
        try simp only [xlo0, List.map_cons, List.map_nil, List.length_cons, List.length_nil, xrs, xr0, Nat.reduceAdd, Nat.reduceSub, List.cons_append, List.nil_append, List.set_cons_zero, List.set_cons_succ, Option.toList_none, Option.toList_some, nI_1]
        refine xp 6 rfl rfl rfl h1.1 rfl rfl rfl (fun s1 n1 f1 e1 => ?_)
        refine xgo 80 rfl ?_
        try simp only [xlo0, List.map_cons, List.map_nil, List.length_cons, List.length_nil, xrs, xr0, Nat.reduceAdd, Nat.reduceSub, List.cons_append, List.nil_append, List.set_cons_zero, List.set_cons_succ, Option.toList_none, Option.toList_some, nI_1]
        refine xp 6 rfl rfl rfl n1 rfl rfl rfl (fun s2 n2 f2 e2 => ?_)
        have fw : frz s.1 s2.1 w 4 := (frz.one f1 (by omega) (by omega)).tr (frz.one f2 (by omega) (by omega))
        refine xto 37 80 rfl ?_
        try simp only [xlo0, List.map_cons, List.map_nil, List.length_cons, List.length_nil, xrs, xr0, Nat.reduceAdd, Nat.reduceSub, List.cons_append, List.nil_append, List.set_cons_zero, List.set_cons_succ, Option.toList_none, Option.toList_some, nI_1]
        refine ih (b + 1) s2 _ (by omega) ?_ (h2.keep fw (by omega)) (hf.tr fw) (e2.trans (e1.trans h3))
        rw [hbs]
        exact ⟨n2, (h1.2.1.keep (frz.one f1 (Nat.le_refl w) (by omega)) (Or.inr (Nat.le_refl _))).keep (frz.one f2 (Nat.le_refl w) (by omega)) (Or.inr (Nat.le_refl _)), (f2 _ (by omega)).trans ((f1 _ (by omega)).trans h1.2.2.1), h1.2.2.2⟩
set_option maxRecDepth 100000 in
set_option maxHeartbeats 8000000 in
theorem c_WR_searchMatch {G : xG} {d w c r k : Nat} {P bs sz : List Int32} {K : cV} {mb ml : Int32} {σ : xS} (h : wrw G σ.1 w bs sz mb ml) (hK : cont G σ.1 c K) (hP : rby K.2.2.2 (nI r) = P) (hd : c + 17 ≤ w ∨ w + 4 ≤ c) (hPl : P.length ≤ 120) (hk : k ≤ P.length) : xm G (d + 2) mX6_searchMatch [rf G w, rf G c, .int (nI r), .int (nI k)] σ (fun v σ' => v = none ∧ wrw G σ'.1 w bs sz (nI (bst P k k).2) (nI (bst P k k).1) ∧ frz σ.1 σ'.1 w 4 ∧ σ'.2 = σ.2) := by
  refine xm_at 8 rfl (by decide) (Nat.le_of_ble_eq_true rfl) (by simp [Value.category]) tX6_searchMatch_ok ?_
  try simp only [xlo0, List.map_cons, List.map_nil, List.length_cons, List.length_nil, xrs, xr0, Nat.reduceAdd, Nat.reduceSub, List.cons_append, List.nil_append, List.set_cons_zero, List.set_cons_succ, Option.toList_none, Option.toList_some, nI_1]
  refine xgo 80 rfl ?_
  try simp only [xlo0, List.map_cons, List.map_nil, List.length_cons, List.length_nil, xrs, xr0, Nat.reduceAdd, Nat.reduceSub, List.cons_append, List.nil_append, List.set_cons_zero, List.set_cons_succ, Option.toList_none, Option.toList_some, nI_1]
  refine xp 6 rfl rfl rfl h.1 rfl rfl rfl (fun s1 n1 f1 e1 => ?_)
  refine xgo 80 rfl ?_
  try simp only [xlo0, List.map_cons, List.map_nil, List.length_cons, List.length_nil, xrs, xr0, Nat.reduceAdd, Nat.reduceSub, List.cons_append, List.nil_append, List.set_cons_zero, List.set_cons_succ, Option.toList_none, Option.toList_some, nI_1]
  refine xp 6 rfl rfl rfl n1 rfl rfl rfl (fun s2 n2 f2 e2 => ?_)
  have fw : frz σ.1 s2.1 w 4 := (frz.one f1 (by omega) (by omega)).tr (frz.one f2 (by omega) (by omega))
  have hK2 := hK.keep fw (by omega)
  have h2 : wrw G s2.1 w bs sz (nI 0) (nI 0) := ⟨n2, (h.2.1.keep (frz.one f1 (Nat.le_refl w) (by omega)) (Or.inr (Nat.le_refl _))).keep (frz.one f2 (Nat.le_refl w) (by omega)) (Or.inr (Nat.le_refl _)), (f2 _ (by omega)).trans ((f1 _ (by omega)).trans h.2.2.1), h.2.2.2⟩
  refine xgo 80 rfl ?_
  try simp only [xlo0, List.map_cons, List.map_nil, List.length_cons, List.length_nil, xrs, xr0, Nat.reduceAdd, Nat.reduceSub, List.cons_append, List.nil_append, List.set_cons_zero, List.set_cons_succ, Option.toList_none, Option.toList_some, nI_1]
  refine xcV 6 rfl rfl rfl (c_CT_pageLength hK2) rfl kX2_pageLength iX2_pageLength hK2.obj ⟨_, rfl, rfl⟩ rfl rfl (Nat.le_of_ble_eq_true rfl) (fun v3 s3 q3 => ?_)
  obtain ⟨rfl, rfl⟩ := q3
  rw [hP]
  refine xgo 80 rfl ?_
  try simp only [xlo0, List.map_cons, List.map_nil, List.length_cons, List.length_nil, xrs, xr0, Nat.reduceAdd, Nat.reduceSub, List.cons_append, List.nil_append, List.set_cons_zero, List.set_cons_succ, Option.toList_none, Option.toList_some, nI_1]
  rw [nI_subN hk]
  refine xi_min rfl gX6_130 (Nat.le_of_ble_eq_true rfl) ?_
  have z130 : (130 : Int32).toInt = 130 := rfl
  have z255 : (255 : Int32).toInt = 255 := rfl
  rw [if_pos (by rw [i_lt, i_n (by omega), z130]; omega)]
  refine xgo 80 rfl ?_
  try simp only [xlo0, List.map_cons, List.map_nil, List.length_cons, List.length_nil, xrs, xr0, Nat.reduceAdd, Nat.reduceSub, List.cons_append, List.nil_append, List.set_cons_zero, List.set_cons_succ, Option.toList_none, Option.toList_some, nI_1]
  refine xi_min rfl gX6_130 (Nat.le_of_ble_eq_true rfl) ?_
  rw [if_pos (by rw [i_lt, i_n (by omega), z255]; omega)]
  refine xto 37 80 rfl ?_
  try simp only [xlo0, List.map_cons, List.map_nil, List.length_cons, List.length_nil, xrs, xr0, Nat.reduceAdd, Nat.reduceSub, List.cons_append, List.nil_append, List.set_cons_zero, List.set_cons_succ, Option.toList_none, Option.toList_some, nI_1]
  exact l_WR_search hP hd hPl hk k 0 s3 none (by omega) h2 hK2 fw (e2.trans e1)
set_option maxRecDepth 100000 in
set_option maxHeartbeats 8000000 in
theorem c_WR_writePlainOps {G : xG} {d w c r i e : Nat} {P bs sz : List Int32} {K : cV} {mb ml : Int32} {σ : xS} (h : wrw G σ.1 w bs sz mb ml) (hK : cont G σ.1 c K) (hP : rby K.2.2.2 (nI r) = P) (hd : c + 17 ≤ w ∨ w + 4 ≤ c) (hi : i ≤ e) (he : e ≤ P.length) (hPl : P.length ≤ 120) (hc : bs.length + (e - i) + 1 ≤ 1920) : xm G (d + 2) mX6_writePlainOps [rf G w, rf G c, .int (nI r), .int (nI i), .int (nI e)] σ (fun v σ' => v = none ∧ wrw G σ'.1 w (bs ++ seg P i e) sz mb ml ∧ frz σ.1 σ'.1 w 4 ∧ σ'.2 = σ.2) := by
  refine xm_at 7 rfl (by decide) (Nat.le_of_ble_eq_true rfl) (by simp [Value.category]) tX6_writePlainOps_ok ?_
  try simp only [xlo0, List.map_cons, List.map_nil, List.length_cons, List.length_nil, xrs, xr0, Nat.reduceAdd, Nat.reduceSub, List.cons_append, List.nil_append, List.set_cons_zero, List.set_cons_succ, Option.toList_none, Option.toList_some, nI_1]
  refine xgo 80 rfl ?_
  try simp only [xlo0, List.map_cons, List.map_nil, List.length_cons, List.length_nil, xrs, xr0, Nat.reduceAdd, Nat.reduceSub, List.cons_append, List.nil_append, List.set_cons_zero, List.set_cons_succ, Option.toList_none, Option.toList_some, nI_1]
  refine xi_icmpge rfl (fun c1 => ?_) (fun c1 => ?_)
  · rw [i_le, i_n (by omega), i_n (by omega)] at c1
    rw [seg_nil (by omega), List.append_nil]
    refine xgo 80 rfl ?_
    try simp only [xlo0, List.map_cons, List.map_nil, List.length_cons, List.length_nil, xrs, xr0, Nat.reduceAdd, Nat.reduceSub, List.cons_append, List.nil_append, List.set_cons_zero, List.set_cons_succ, Option.toList_none, Option.toList_some, nI_1]
    refine xi_ret_v rfl rfl ⟨rfl, h, frz.rf, rfl⟩
  rw [i_le, i_n (by omega), i_n (by omega)] at c1
  refine xgo 80 rfl ?_
  try simp only [xlo0, List.map_cons, List.map_nil, List.length_cons, List.length_nil, xrs, xr0, Nat.reduceAdd, Nat.reduceSub, List.cons_append, List.nil_append, List.set_cons_zero, List.set_cons_succ, Option.toList_none, Option.toList_some, nI_1]
  have z128 : (128 : Int32) = nI 128 := rfl
  rw [z128, nI_addN]
  refine xi_min rfl gX6_130 (Nat.le_of_ble_eq_true rfl) ?_
  rw [if_pos (by rw [i_lt, i_n (by omega), i_n (by omega)]; omega)]
  refine xgo 80 rfl ?_
  try simp only [xlo0, List.map_cons, List.map_nil, List.length_cons, List.length_nil, xrs, xr0, Nat.reduceAdd, Nat.reduceSub, List.cons_append, List.nil_append, List.set_cons_zero, List.set_cons_succ, Option.toList_none, Option.toList_some, nI_1]
  refine xg 6 rfl rfl rfl h.1 rfl ?_
  refine xgo 80 rfl ?_
  try simp only [xlo0, List.map_cons, List.map_nil, List.length_cons, List.length_nil, xrs, xr0, Nat.reduceAdd, Nat.reduceSub, List.cons_append, List.nil_append, List.set_cons_zero, List.set_cons_succ, Option.toList_none, Option.toList_some, nI_1]
  have z1 : (1 : Int32) = nI 1 := rfl
  rw [nI_subN hi, z1, nI_subN (by omega)]
  refine xgo 80 rfl ?_
  try simp only [xlo0, List.map_cons, List.map_nil, List.length_cons, List.length_nil, xrs, xr0, Nat.reduceAdd, Nat.reduceSub, List.cons_append, List.nil_append, List.set_cons_zero, List.set_cons_succ, Option.toList_none, Option.toList_some, nI_1]
  refine xcV 6 rfl rfl rfl (c_BR_push h.2.1 (by omega)) rfl kX1_push iX1_push h.2.1.obj ⟨_, rfl, rfl⟩ rfl rfl (Nat.le_of_ble_eq_true rfl) (fun v1 s1 q1 => ?_)
  obtain ⟨rfl, p1, p2, p3⟩ := q1
  have u := h.body p2 p1
  have fw := p2.wide (b := w) (k := 4) (by omega) (by omega)
  have hK1 := hK.keep fw (by omega)
  have n128 : (nI 128).toInt = 128 := rfl
  refine xgo 80 rfl ?_
  try simp only [xlo0, List.map_cons, List.map_nil, List.length_cons, List.length_nil, xrs, xr0, Nat.reduceAdd, Nat.reduceSub, List.cons_append, List.nil_append, List.set_cons_zero, List.set_cons_succ, Option.toList_none, Option.toList_some, nI_1]
  refine xcV 6 rfl rfl rfl (c_WR_writePlain u hK1 hP hd hi he hPl (by simp; omega)) rfl kX6_writePlain iX6_writePlain u.1 ⟨_, rfl, rfl⟩ rfl rfl (Nat.le_of_ble_eq_true rfl) (fun v2 s2 q2 => ?_)
  obtain ⟨rfl, r1, r2, r3⟩ := q2
  refine xgo 80 rfl ?_
  try simp only [xlo0, List.map_cons, List.map_nil, List.length_cons, List.length_nil, xrs, xr0, Nat.reduceAdd, Nat.reduceSub, List.cons_append, List.nil_append, List.set_cons_zero, List.set_cons_succ, Option.toList_none, Option.toList_some, nI_1]
  refine xi_iincw rfl rfl ?_
  refine xgo 80 rfl ?_
  try simp only [xlo0, List.map_cons, List.map_nil, List.length_cons, List.length_nil, xrs, xr0, Nat.reduceAdd, Nat.reduceSub, List.cons_append, List.nil_append, List.set_cons_zero, List.set_cons_succ, Option.toList_none, Option.toList_some, nI_1]
  rw [z128, nI_addN]
  refine xi_icmpge rfl (fun c3 => ?_) (fun c3 => ?_)
  · refine xgo 80 rfl ?_
    try simp only [xlo0, List.map_cons, List.map_nil, List.length_cons, List.length_nil, xrs, xr0, Nat.reduceAdd, Nat.reduceSub, List.cons_append, List.nil_append, List.set_cons_zero, List.set_cons_succ, Option.toList_none, Option.toList_some, nI_1]
    refine xi_ret_v rfl rfl ⟨rfl, ?_, fw.tr r2, r3.trans p3⟩
    rw [seg_cons (by omega), show bs ++ nI (e - i - 1) :: List.take (e - i) (List.drop i P) = bs ++ [nI (e - i - 1)] ++ List.take (e - i) (List.drop i P) by simp]
    exact r1
  · exact absurd (by rw [i_le, i_n (by omega), i_n (by omega)]; omega) c3
set_option maxRecDepth 100000 in
set_option maxHeartbeats 8000000 in
theorem l_WR_writeOps {G : xG} {d w c r : Nat} {P F sz : List Int32} {K : cV} {σ : xS} (hP : rby K.2.2.2 (nI r) = P) (hd : c + 17 ≤ w ∨ w + 4 ≤ c) (hPl : P.length ≤ 120) : ∀ (n k pf : Nat) (bs : List Int32) (mb ml : Int32) (s : xS), P.length - k ≤ n → pf ≤ k → k ≤ P.length → bs ++ opz P n k pf = F → bs.length + (P.length - pf) + 1 ≤ 1920 → wrw G s.1 w bs sz mb ml → cont G s.1 c K → frz σ.1 s.1 w 4 → s.2 = σ.2 →
    xw G (d + 3) mX6_writeOps 12 [some (rf G w), some (rf G c), some (.int (nI r)), some (.int (nI P.length)), some (.int (nI pf)), some (.int (nI k))] [] s (fun v σ' => ∃ mb ml, wpost G σ w F sz mb ml v σ') := by
  have fin : ∀ (k pf : Nat) (bs : List Int32) (mb ml : Int32) (s : xS), pf ≤ P.length → k = P.length → bs ++ seg P pf P.length = F → bs.length + (P.length - pf) + 1 ≤ 1920 → wrw G s.1 w bs sz mb ml → cont G s.1 c K → frz σ.1 s.1 w 4 → s.2 = σ.2 →
    xw G (d + 3) mX6_writeOps 12 [some (rf G w), some (rf G c), some (.int (nI r)), some (.int (nI P.length)), some (.int (nI pf)), some (.int (nI k))] [] s (fun v σ' => ∃ mb ml, wpost G σ w F sz mb ml v σ') := by
    intro k pf bs mb ml s hpf hk hF hl h1 h2 hf h3
    subst hk
    refine xgo 80 rfl ?_
    try simp only [xlo0, List.map_cons, List.map_nil, List.length_cons, List.length_nil, xrs, xr0, Nat.reduceAdd, Nat.reduceSub, List.cons_append, List.nil_append, List.set_cons_zero, List.set_cons_succ, Option.toList_none, Option.toList_some, nI_1]
    refine xi_icmpge rfl (fun c1 => ?_) (fun c1 => ?_)
    · refine xgo 80 rfl ?_
      try simp only [xlo0, List.map_cons, List.map_nil, List.length_cons, List.length_nil, xrs, xr0, Nat.reduceAdd, Nat.reduceSub, List.cons_append, List.nil_append, List.set_cons_zero, List.set_cons_succ, Option.toList_none, Option.toList_some, nI_1]
      refine xcV 6 rfl rfl rfl (c_WR_writePlainOps h1 h2 hP hd hpf (Nat.le_refl _) hPl hl) rfl kX6_writePlainOps iX6_writePlainOps h1.1 ⟨_, rfl, rfl⟩ rfl rfl (Nat.le_of_ble_eq_true rfl) (fun v1 s1 q1 => ?_)
      obtain ⟨rfl, p1, p2, p3⟩ := q1
      refine xgo 80 rfl ?_
      try simp only [xlo0, List.map_cons, List.map_nil, List.length_cons, List.length_nil, xrs, xr0, Nat.reduceAdd, Nat.reduceSub, List.cons_append, List.nil_append, List.set_cons_zero, List.set_cons_succ, Option.toList_none, Option.toList_some, nI_1]
      refine xi_ret_v rfl rfl ⟨mb, ml, rfl, by rw [← hF]; exact p1, hf.tr p2, p3.trans h3⟩
    · exact absurd (i_le.mpr (Int.le_refl _)) c1
  intro n
  induction n with
  | zero =>
    intro k pf bs mb ml s hk hpf hkl hF hl h1 h2 hf h3
    exact fin k pf bs mb ml s (by omega) (by omega) hF hl h1 h2 hf h3
  | succ n ih =>
    intro k pf bs mb ml s hk hpf hkl hF hl h1 h2 hf h3
    by_cases hke : k = P.length
    · refine fin k pf bs mb ml s (by omega) hke ?_ hl h1 h2 hf h3
      rw [← hF, opz, if_neg (by omega)]
    rw [opz, if_pos (by omega)] at hF
    have hbl := bst_le P k k
    refine xgo 80 rfl ?_
    try simp only [xlo0, List.map_cons, List.map_nil, List.length_cons, List.length_nil, xrs, xr0, Nat.reduceAdd, Nat.reduceSub, List.cons_append, List.nil_append, List.set_cons_zero, List.set_cons_succ, Option.toList_none, Option.toList_some, nI_1]
    refine xi_icmpge rfl (fun c1 => ?_) (fun c1 => ?_)
    · exact absurd c1 (by rw [i_le, i_n (by omega), i_n (by omega)]; omega)
    refine xgo 80 rfl ?_
    try simp only [xlo0, List.map_cons, List.map_nil, List.length_cons, List.length_nil, xrs, xr0, Nat.reduceAdd, Nat.reduceSub, List.cons_append, List.nil_append, List.set_cons_zero, List.set_cons_succ, Option.toList_none, Option.toList_some, nI_1]
    refine xcV 6 rfl rfl rfl (c_WR_searchMatch h1 h2 hP hd hPl hkl) rfl kX6_searchMatch iX6_searchMatch h1.1 ⟨_, rfl, rfl⟩ rfl rfl (Nat.le_of_ble_eq_true rfl) (fun v1 s1 q1 => ?_)
    obtain ⟨rfl, p1, p2, p3⟩ := q1
    have k1 := h2.keep p2 (by omega)
    refine xgo 80 rfl ?_
    try simp only [xlo0, List.map_cons, List.map_nil, List.length_cons, List.length_nil, xrs, xr0, Nat.reduceAdd, Nat.reduceSub, List.cons_append, List.nil_append, List.set_cons_zero, List.set_cons_succ, Option.toList_none, Option.toList_some, nI_1]
    refine xg 6 rfl rfl rfl p1.1 rfl ?_
    refine xgo 80 rfl ?_
    try simp only [xlo0, List.map_cons, List.map_nil, List.length_cons, List.length_nil, xrs, xr0, Nat.reduceAdd, Nat.reduceSub, List.cons_append, List.nil_append, List.set_cons_zero, List.set_cons_succ, Option.toList_none, Option.toList_some, nI_1]
    refine xi_icmpge rfl (fun c2 => ?_) (fun c2 => ?_)
    · have z3 : (3 : Int32).toInt = 3 := rfl
      rw [i_le, i_n (by omega), z3] at c2
      rw [if_neg (by omega)] at hF
      refine xgo 80 rfl ?_
      try simp only [xlo0, List.map_cons, List.map_nil, List.length_cons, List.length_nil, xrs, xr0, Nat.reduceAdd, Nat.reduceSub, List.cons_append, List.nil_append, List.set_cons_zero, List.set_cons_succ, Option.toList_none, Option.toList_some, nI_1]
      refine xcV 6 rfl rfl rfl (c_WR_writePlainOps p1 k1 hP hd hpf hkl hPl (by omega)) rfl kX6_writePlainOps iX6_writePlainOps p1.1 ⟨_, rfl, rfl⟩ rfl rfl (Nat.le_of_ble_eq_true rfl) (fun v2 s2 q2 => ?_)
      obtain ⟨rfl, r1, r2, r3⟩ := q2
      have k2 := k1.keep r2 (by omega)
      have hsl := seg_len (P := P) (i := pf) (j := k) hkl
      refine xgo 80 rfl ?_
      try simp only [xlo0, List.map_cons, List.map_nil, List.length_cons, List.length_nil, xrs, xr0, Nat.reduceAdd, Nat.reduceSub, List.cons_append, List.nil_append, List.set_cons_zero, List.set_cons_succ, Option.toList_none, Option.toList_some, nI_1]
      refine xg 6 rfl rfl rfl r1.1 rfl ?_
      refine xgo 80 rfl ?_
      try simp only [xlo0, List.map_cons, List.map_nil, List.length_cons, List.length_nil, xrs, xr0, Nat.reduceAdd, Nat.reduceSub, List.cons_append, List.nil_append, List.set_cons_zero, List.set_cons_succ, Option.toList_none, Option.toList_some, nI_1]
      refine xg 6 rfl rfl rfl r1.1 rfl ?_
      refine xgo 80 rfl ?_
      try simp only [xlo0, List.map_cons, List.map_nil, List.length_cons, List.length_nil, xrs, xr0, Nat.reduceAdd, Nat.reduceSub, List.cons_append, List.nil_append, List.set_cons_zero, List.set_cons_succ, Option.toList_none, Option.toList_some, nI_1]
      have z125 : (125 : Int32) = nI 125 := rfl
      rw [z125, nI_addN]
      refine xgo 80 rfl ?_
      try simp only [xlo0, List.map_cons, List.map_nil, List.length_cons, List.length_nil, xrs, xr0, Nat.reduceAdd, Nat.reduceSub, List.cons_append, List.nil_append, List.set_cons_zero, List.set_cons_succ, Option.toList_none, Option.toList_some, nI_1]
      refine xcV 6 rfl rfl rfl (c_BR_push r1.2.1 (by simp; omega)) rfl kX1_push iX1_push r1.2.1.obj ⟨_, rfl, rfl⟩ rfl rfl (Nat.le_of_ble_eq_true rfl) (fun v3 s3 q3 => ?_)
      obtain ⟨rfl, t1, t2, t3⟩ := q3
      have u1 := r1.body t2 t1
      refine xgo 80 rfl ?_
      try simp only [xlo0, List.map_cons, List.map_nil, List.length_cons, List.length_nil, xrs, xr0, Nat.reduceAdd, Nat.reduceSub, List.cons_append, List.nil_append, List.set_cons_zero, List.set_cons_succ, Option.toList_none, Option.toList_some, nI_1]
      refine xg 6 rfl rfl rfl u1.1 rfl ?_
      refine xgo 80 rfl ?_
      try simp only [xlo0, List.map_cons, List.map_nil, List.length_cons, List.length_nil, xrs, xr0, Nat.reduceAdd, Nat.reduceSub, List.cons_append, List.nil_append, List.set_cons_zero, List.set_cons_succ, Option.toList_none, Option.toList_some, nI_1]
      refine xg 6 rfl rfl rfl u1.1 rfl ?_
      refine xgo 80 rfl ?_
      try simp only [xlo0, List.map_cons, List.map_nil, List.length_cons, List.length_nil, xrs, xr0, Nat.reduceAdd, Nat.reduceSub, List.cons_append, List.nil_append, List.set_cons_zero, List.set_cons_succ, Option.toList_none, Option.toList_some, nI_1]
      refine xcV 6 rfl rfl rfl (c_BR_push u1.2.1 (by simp; omega)) rfl kX1_push iX1_push u1.2.1.obj ⟨_, rfl, rfl⟩ rfl rfl (Nat.le_of_ble_eq_true rfl) (fun v4 s4 q4 => ?_)
      obtain ⟨rfl, v1, v2, v3⟩ := q4
      have x1 := u1.body v2 v1
      have fw := (t2.tr v2).wide (b := w) (k := 4) (by omega) (by omega)
      refine xgo 80 rfl ?_
      try simp only [xlo0, List.map_cons, List.map_nil, List.length_cons, List.length_nil, xrs, xr0, Nat.reduceAdd, Nat.reduceSub, List.cons_append, List.nil_append, List.set_cons_zero, List.set_cons_succ, Option.toList_none, Option.toList_some, nI_1]
      refine xg 6 rfl rfl rfl x1.1 rfl ?_
      refine xto 12 80 rfl ?_
      try simp only [xlo0, List.map_cons, List.map_nil, List.length_cons, List.length_nil, xrs, xr0, Nat.reduceAdd, Nat.reduceSub, List.cons_append, List.nil_append, List.set_cons_zero, List.set_cons_succ, Option.toList_none, Option.toList_some, nI_1]
      rw [nI_addN]
      refine ih (k + (bst P k k).1) (k + (bst P k k).1) _ _ _ _ (by omega) (Nat.le_refl _) (by omega) ?_ ?_ x1 (k2.keep fw (by omega)) (((hf.tr p2).tr r2).tr fw) (v3.trans (t3.trans (r3.trans (p3.trans h3))))
      · rw [← hF]
        simp
      · simp
        omega
    · have z3 : (3 : Int32).toInt = 3 := rfl
      rw [i_le, i_n (by omega), z3] at c2
      rw [if_pos (by omega)] at hF
      refine xto 12 80 rfl ?_
      try simp only [xlo0, List.map_cons, List.map_nil, List.length_cons, List.length_nil, xrs, xr0, Nat.reduceAdd, Nat.reduceSub, List.cons_append, List.nil_append, List.set_cons_zero, List.set_cons_succ, Option.toList_none, Option.toList_some, nI_1]
      exact ih (k + 1) pf bs _ _ _ (by omega) (by omega) (by omega) hF hl p1 k1 (hf.tr p2) (p3.trans h3)
set_option maxRecDepth 100000 in
set_option maxHeartbeats 8000000 in
theorem c_WR_writeOps {G : xG} {d w c r : Nat} {P bs sz : List Int32} {K : cV} {mb ml : Int32} {σ : xS} (h : wrw G σ.1 w bs sz mb ml) (hK : cont G σ.1 c K) (hP : rby K.2.2.2 (nI r) = P) (hd : c + 17 ≤ w ∨ w + 4 ≤ c) (hPl : P.length ≤ 120) (hc : bs.length + 240 ≤ 1920) : xm G (d + 3) mX6_writeOps [rf G w, rf G c, .int (nI r)] σ (fun v σ' => ∃ mb ml, wpost G σ w (bs ++ opz P P.length 0 0) sz mb ml v σ') := by
  refine xm_at 6 rfl (by decide) (Nat.le_of_ble_eq_true rfl) (by simp [Value.category]) tX6_writeOps_ok ?_
  try simp only [xlo0, List.map_cons, List.map_nil, List.length_cons, List.length_nil, xrs, xr0, Nat.reduceAdd, Nat.reduceSub, List.cons_append, List.nil_append, List.set_cons_zero, List.set_cons_succ, Option.toList_none, Option.toList_some, nI_1]
  refine xgo 80 rfl ?_
  try simp only [xlo0, List.map_cons, List.map_nil, List.length_cons, List.length_nil, xrs, xr0, Nat.reduceAdd, Nat.reduceSub, List.cons_append, List.nil_append, List.set_cons_zero, List.set_cons_succ, Option.toList_none, Option.toList_some, nI_1]
  refine xcV 6 rfl rfl rfl (c_CT_pageLength hK) rfl kX2_pageLength iX2_pageLength hK.obj ⟨_, rfl, rfl⟩ rfl rfl (Nat.le_of_ble_eq_true rfl) (fun v1 s1 q1 => ?_)
  obtain ⟨rfl, rfl⟩ := q1
  rw [hP]
  refine xto 12 80 rfl ?_
  try simp only [xlo0, List.map_cons, List.map_nil, List.length_cons, List.length_nil, xrs, xr0, Nat.reduceAdd, Nat.reduceSub, List.cons_append, List.nil_append, List.set_cons_zero, List.set_cons_succ, Option.toList_none, Option.toList_some, nI_1]
  exact l_WR_writeOps hP hd hPl P.length 0 0 bs mb ml s1 (by omega) (Nat.le_refl _) (Nat.zero_le _) rfl (by omega) h hK frz.rf rfl
