theorem any_t {α : Type} {l : List α} {p : α → Bool} {j : Nat} {e : α} (hj : l[j]? = some e) (hp : p e = true) : l.any p = true := List.any_eq_true.mpr ⟨e, List.mem_of_getElem? hj, hp⟩
theorem any_f {α : Type} {l : List α} {p : α → Bool} (h : ∀ i e, i < l.length → l[i]? = some e → p e = false) : l.any p = false := by
  rw [List.any_eq_false]
  intro e he
  obtain ⟨i, hi⟩ := List.getElem?_of_mem he
  rw [h i e (List.getElem?_eq_some_iff.mp hi).1 hi]
  decide
theorem fi_t {α : Type} {l : List α} {p : α → Bool} {j : Nat} {e : α} (h : ∀ i e, i < j → l[i]? = some e → p e = false) (hj : l[j]? = some e) (hp : p e = true) : l.findIdx? p = some j := by
  rw [List.findIdx?_eq_some_iff_getElem]
  obtain ⟨h1, h2⟩ := List.getElem?_eq_some_iff.mp hj
  refine ⟨h1, by rw [h2]; exact hp, fun i hi => ?_⟩
  have := h i l[i] hi (List.getElem?_eq_getElem (by omega))
  rw [this]
  decide
theorem fi_f {α : Type} {l : List α} {p : α → Bool} (h : ∀ i e, i < l.length → l[i]? = some e → p e = false) : l.findIdx? p = none := by
  rw [List.findIdx?_eq_none_iff]
  intro e he
  obtain ⟨i, hi⟩ := List.getElem?_of_mem he
  exact h i e (List.getElem?_eq_some_iff.mp hi).1 hi
def oI (o : Option Nat) : Int32 := match o with
  | some i => nI i
  | none => -1
def bI (b : Bool) : Int32 := if b then 1 else 0
theorem lt_get {α : Type} {l : List α} {j : Nat} (h : j < l.length) : ∃ e, l[j]? = some e := ⟨l[j], List.getElem?_eq_getElem h⟩
set_option maxRecDepth 100000 in
set_option maxHeartbeats 8000000 in
theorem l_CT_needsName {G : xG} {d c : Nat} {K : cV} {x : Int32} {σ : xS} (h : cont G σ.1 c K) : ∀ (n j : Nat), j + n = K.2.1.length → (∀ i e, i < j → K.2.1[i]? = some e → (e.1 == x) = false) →
    xw G d mX2_needsName 2 [some (rf G c), some (.int x), some (.int (nI j))] [] σ (fun v σ' => v = some (.int (bI (K.2.1.any (fun e => e.1 == x)))) ∧ σ' = σ) := by
  obtain ⟨nn, ne, nx, sa, ks, ps, ln, pg, h0, h1, h2, h3, h4, h5, h6, h7, h8, hp, r1, r2, r3⟩ := h
  have hb := r1.1
  intro n
  induction n with
  | zero =>
    intro j hj hi
    have hj' : j = K.2.1.length := by omega
    subst hj'
    refine xgo 80 rfl ?_
    try simp only [xlo0, List.map_cons, List.map_nil, List.length_cons, List.length_nil, xrs, xr0, Nat.reduceAdd, Nat.reduceSub, List.cons_append, List.nil_append, List.set_cons_zero, List.set_cons_succ, Option.toList_none, Option.toList_some, nI_1]
    refine xg 2 rfl rfl rfl h0 rfl ?_
    refine xgo 80 rfl ?_
    try simp only [xlo0, List.map_cons, List.map_nil, List.length_cons, List.length_nil, xrs, xr0, Nat.reduceAdd, Nat.reduceSub, List.cons_append, List.nil_append, List.set_cons_zero, List.set_cons_succ, Option.toList_none, Option.toList_some, nI_1]
    refine xi_icmpge rfl (fun c1 => ?_) (fun c1 => ?_)
    · refine xgo 80 rfl ?_
      try simp only [xlo0, List.map_cons, List.map_nil, List.length_cons, List.length_nil, xrs, xr0, Nat.reduceAdd, Nat.reduceSub, List.cons_append, List.nil_append, List.set_cons_zero, List.set_cons_succ, Option.toList_none, Option.toList_some, nI_1]
      refine xi_ret_i rfl rfl (by decide) ⟨by rw [any_f hi]; rfl, rfl⟩
    · exact absurd (i_le.mpr (Int.le_refl _)) c1
  | succ n ih =>
    intro j hj hi
    refine xgo 80 rfl ?_
    try simp only [xlo0, List.map_cons, List.map_nil, List.length_cons, List.length_nil, xrs, xr0, Nat.reduceAdd, Nat.reduceSub, List.cons_append, List.nil_append, List.set_cons_zero, List.set_cons_succ, Option.toList_none, Option.toList_some, nI_1]
    refine xg 2 rfl rfl rfl h0 rfl ?_
    refine xgo 80 rfl ?_
    try simp only [xlo0, List.map_cons, List.map_nil, List.length_cons, List.length_nil, xrs, xr0, Nat.reduceAdd, Nat.reduceSub, List.cons_append, List.nil_append, List.set_cons_zero, List.set_cons_succ, Option.toList_none, Option.toList_some, nI_1]
    refine xi_icmpge rfl (fun c1 => ?_) (fun c1 => ?_)
    · exact absurd c1 (by rw [i_le, i_n (by omega), i_n (by omega)]; omega)
    · obtain ⟨e, he⟩ := lt_get (l := K.2.1) (j := j) (by omega)
      have hcl : (nI j).toNatClampNeg = j := nI_clamp (by omega)
      refine xgo 80 rfl ?_
      try simp only [xlo0, List.map_cons, List.map_nil, List.length_cons, List.length_nil, xrs, xr0, Nat.reduceAdd, Nat.reduceSub, List.cons_append, List.nil_append, List.set_cons_zero, List.set_cons_succ, Option.toList_none, Option.toList_some, nI_1]
      refine xg 2 rfl rfl rfl h0 rfl ?_
      refine xgo 80 rfl ?_
      try simp only [xlo0, List.map_cons, List.map_nil, List.length_cons, List.length_nil, xrs, xr0, Nat.reduceAdd, Nat.reduceSub, List.cons_append, List.nil_append, List.set_cons_zero, List.set_cons_succ, Option.toList_none, Option.toList_some, nI_1]
      refine xi_iald rfl h1 (nI_pos (by omega)) (by rw [hcl]; exact vi_get (r1.2.2.2.2 j e he).1) ?_
      refine xgo 80 rfl ?_
      try simp only [xlo0, List.map_cons, List.map_nil, List.length_cons, List.length_nil, xrs, xr0, Nat.reduceAdd, Nat.reduceSub, List.cons_append, List.nil_append, List.set_cons_zero, List.set_cons_succ, Option.toList_none, Option.toList_some, nI_1]
      refine xi_icmpne rfl (fun c2 => ?_) (fun c2 => ?_)
      · refine xto 2 80 rfl ?_
        try simp only [xlo0, List.map_cons, List.map_nil, List.length_cons, List.length_nil, xrs, xr0, Nat.reduceAdd, Nat.reduceSub, List.cons_append, List.nil_append, List.set_cons_zero, List.set_cons_succ, Option.toList_none, Option.toList_some, nI_1]
        exact ih (j + 1) (by omega) (fun i e' h1 h2 => by
          by_cases hij : i = j
          · subst hij
            rw [he] at h2
            cases h2
            simpa using c2
          · exact hi i e' (by omega) h2)
      · refine xgo 80 rfl ?_
        try simp only [xlo0, List.map_cons, List.map_nil, List.length_cons, List.length_nil, xrs, xr0, Nat.reduceAdd, Nat.reduceSub, List.cons_append, List.nil_append, List.set_cons_zero, List.set_cons_succ, Option.toList_none, Option.toList_some, nI_1]
        refine xi_ret_i rfl rfl (by decide) ⟨by rw [any_t he (by simpa using c2)]; rfl, rfl⟩
set_option maxRecDepth 100000 in
set_option maxHeartbeats 8000000 in
theorem c_CT_needsName {G : xG} {d c : Nat} {K : cV} {x : Int32} {σ : xS} (h : cont G σ.1 c K) : xm G d mX2_needsName [rf G c, .int x] σ (fun v σ' => v = some (.int (bI (K.2.1.any (fun e => e.1 == x)))) ∧ σ' = σ) := by
  refine xm_at 3 rfl (by decide) (Nat.le_of_ble_eq_true rfl) (by simp [Value.category]) tX2_needsName_ok ?_
  try simp only [xlo0, List.map_cons, List.map_nil, List.length_cons, List.length_nil, xrs, xr0, Nat.reduceAdd, Nat.reduceSub, List.cons_append, List.nil_append, List.set_cons_zero, List.set_cons_succ, Option.toList_none, Option.toList_some, nI_1]
  refine xto 2 80 rfl ?_
  try simp only [xlo0, List.map_cons, List.map_nil, List.length_cons, List.length_nil, xrs, xr0, Nat.reduceAdd, Nat.reduceSub, List.cons_append, List.nil_append, List.set_cons_zero, List.set_cons_succ, Option.toList_none, Option.toList_some, nI_1]
  exact l_CT_needsName h K.2.1.length 0 (by omega) (fun i e h => by omega)
set_option maxRecDepth 100000 in
set_option maxHeartbeats 8000000 in
theorem l_CT_sealsGroup {G : xG} {d c : Nat} {K : cV} {x : Int32} {σ : xS} (h : cont G σ.1 c K) : ∀ (n j : Nat), j + n = K.2.2.1.length → (∀ i e, i < j → K.2.2.1[i]? = some e → (e == x) = false) →
    xw G d mX2_sealsGroup 2 [some (rf G c), some (.int x), some (.int (nI j))] [] σ (fun v σ' => v = some (.int (bI (K.2.2.1.any (fun e => e == x)))) ∧ σ' = σ) := by
  obtain ⟨nn, ne, nx, sa, ks, ps, ln, pg, h0, h1, h2, h3, h4, h5, h6, h7, h8, hp, r1, r2, r3⟩ := h
  have hb := r2.1
  intro n
  induction n with
  | zero =>
    intro j hj hi
    have hj' : j = K.2.2.1.length := by omega
    subst hj'
    refine xgo 80 rfl ?_
    try simp only [xlo0, List.map_cons, List.map_nil, List.length_cons, List.length_nil, xrs, xr0, Nat.reduceAdd, Nat.reduceSub, List.cons_append, List.nil_append, List.set_cons_zero, List.set_cons_succ, Option.toList_none, Option.toList_some, nI_1]
    refine xg 2 rfl rfl rfl h0 rfl ?_
    refine xgo 80 rfl ?_
    try simp only [xlo0, List.map_cons, List.map_nil, List.length_cons, List.length_nil, xrs, xr0, Nat.reduceAdd, Nat.reduceSub, List.cons_append, List.nil_append, List.set_cons_zero, List.set_cons_succ, Option.toList_none, Option.toList_some, nI_1]
    refine xi_icmpge rfl (fun c1 => ?_) (fun c1 => ?_)
    · refine xgo 80 rfl ?_
      try simp only [xlo0, List.map_cons, List.map_nil, List.length_cons, List.length_nil, xrs, xr0, Nat.reduceAdd, Nat.reduceSub, List.cons_append, List.nil_append, List.set_cons_zero, List.set_cons_succ, Option.toList_none, Option.toList_some, nI_1]
      refine xi_ret_i rfl rfl (by decide) ⟨by rw [any_f hi]; rfl, rfl⟩
    · exact absurd (i_le.mpr (Int.le_refl _)) c1
  | succ n ih =>
    intro j hj hi
    refine xgo 80 rfl ?_
    try simp only [xlo0, List.map_cons, List.map_nil, List.length_cons, List.length_nil, xrs, xr0, Nat.reduceAdd, Nat.reduceSub, List.cons_append, List.nil_append, List.set_cons_zero, List.set_cons_succ, Option.toList_none, Option.toList_some, nI_1]
    refine xg 2 rfl rfl rfl h0 rfl ?_
    refine xgo 80 rfl ?_
    try simp only [xlo0, List.map_cons, List.map_nil, List.length_cons, List.length_nil, xrs, xr0, Nat.reduceAdd, Nat.reduceSub, List.cons_append, List.nil_append, List.set_cons_zero, List.set_cons_succ, Option.toList_none, Option.toList_some, nI_1]
    refine xi_icmpge rfl (fun c1 => ?_) (fun c1 => ?_)
    · exact absurd c1 (by rw [i_le, i_n (by omega), i_n (by omega)]; omega)
    · obtain ⟨e, he⟩ := lt_get (l := K.2.2.1) (j := j) (by omega)
      have hcl : (nI j).toNatClampNeg = j := nI_clamp (by omega)
      refine xgo 80 rfl ?_
      try simp only [xlo0, List.map_cons, List.map_nil, List.length_cons, List.length_nil, xrs, xr0, Nat.reduceAdd, Nat.reduceSub, List.cons_append, List.nil_append, List.set_cons_zero, List.set_cons_succ, Option.toList_none, Option.toList_some, nI_1]
      refine xg 2 rfl rfl rfl h0 rfl ?_
      refine xgo 80 rfl ?_
      try simp only [xlo0, List.map_cons, List.map_nil, List.length_cons, List.length_nil, xrs, xr0, Nat.reduceAdd, Nat.reduceSub, List.cons_append, List.nil_append, List.set_cons_zero, List.set_cons_succ, Option.toList_none, Option.toList_some, nI_1]
      refine xi_iald rfl h4 (nI_pos (by omega)) (by rw [hcl]; exact vi_get (r2.2.2 j e he)) ?_
      refine xgo 80 rfl ?_
      try simp only [xlo0, List.map_cons, List.map_nil, List.length_cons, List.length_nil, xrs, xr0, Nat.reduceAdd, Nat.reduceSub, List.cons_append, List.nil_append, List.set_cons_zero, List.set_cons_succ, Option.toList_none, Option.toList_some, nI_1]
      refine xi_icmpne rfl (fun c2 => ?_) (fun c2 => ?_)
      · refine xto 2 80 rfl ?_
        try simp only [xlo0, List.map_cons, List.map_nil, List.length_cons, List.length_nil, xrs, xr0, Nat.reduceAdd, Nat.reduceSub, List.cons_append, List.nil_append, List.set_cons_zero, List.set_cons_succ, Option.toList_none, Option.toList_some, nI_1]
        exact ih (j + 1) (by omega) (fun i e' h1 h2 => by
          by_cases hij : i = j
          · subst hij
            rw [he] at h2
            cases h2
            simpa using c2
          · exact hi i e' (by omega) h2)
      · refine xgo 80 rfl ?_
        try simp only [xlo0, List.map_cons, List.map_nil, List.length_cons, List.length_nil, xrs, xr0, Nat.reduceAdd, Nat.reduceSub, List.cons_append, List.nil_append, List.set_cons_zero, List.set_cons_succ, Option.toList_none, Option.toList_some, nI_1]
        refine xi_ret_i rfl rfl (by decide) ⟨by rw [any_t he (by simpa using c2)]; rfl, rfl⟩
set_option maxRecDepth 100000 in
set_option maxHeartbeats 8000000 in
theorem c_CT_sealsGroup {G : xG} {d c : Nat} {K : cV} {x : Int32} {σ : xS} (h : cont G σ.1 c K) : xm G d mX2_sealsGroup [rf G c, .int x] σ (fun v σ' => v = some (.int (bI (K.2.2.1.any (fun e => e == x)))) ∧ σ' = σ) := by
  refine xm_at 3 rfl (by decide) (Nat.le_of_ble_eq_true rfl) (by simp [Value.category]) tX2_sealsGroup_ok ?_
  try simp only [xlo0, List.map_cons, List.map_nil, List.length_cons, List.length_nil, xrs, xr0, Nat.reduceAdd, Nat.reduceSub, List.cons_append, List.nil_append, List.set_cons_zero, List.set_cons_succ, Option.toList_none, Option.toList_some, nI_1]
  refine xto 2 80 rfl ?_
  try simp only [xlo0, List.map_cons, List.map_nil, List.length_cons, List.length_nil, xrs, xr0, Nat.reduceAdd, Nat.reduceSub, List.cons_append, List.nil_append, List.set_cons_zero, List.set_cons_succ, Option.toList_none, Option.toList_some, nI_1]
  exact l_CT_sealsGroup h K.2.2.1.length 0 (by omega) (fun i e h => by omega)
set_option maxRecDepth 100000 in
set_option maxHeartbeats 8000000 in
theorem l_CT_rowOf {G : xG} {d c : Nat} {K : cV} {x : Int32} {σ : xS} (h : cont G σ.1 c K) : ∀ (n j : Nat), j + n = K.2.2.2.length → (∀ i e, i < j → K.2.2.2[i]? = some e → (e.1 == x) = false) →
    xw G d mX2_rowOf 2 [some (rf G c), some (.int x), some (.int (nI j))] [] σ (fun v σ' => v = some (.int (oI (K.2.2.2.findIdx? (fun e => e.1 == x)))) ∧ σ' = σ) := by
  obtain ⟨nn, ne, nx, sa, ks, ps, ln, pg, h0, h1, h2, h3, h4, h5, h6, h7, h8, hp, r1, r2, r3⟩ := h
  have hb := r3.1
  intro n
  induction n with
  | zero =>
    intro j hj hi
    have hj' : j = K.2.2.2.length := by omega
    subst hj'
    refine xgo 80 rfl ?_
    try simp only [xlo0, List.map_cons, List.map_nil, List.length_cons, List.length_nil, xrs, xr0, Nat.reduceAdd, Nat.reduceSub, List.cons_append, List.nil_append, List.set_cons_zero, List.set_cons_succ, Option.toList_none, Option.toList_some, nI_1]
    refine xg 2 rfl rfl rfl h0 rfl ?_
    refine xgo 80 rfl ?_
    try simp only [xlo0, List.map_cons, List.map_nil, List.length_cons, List.length_nil, xrs, xr0, Nat.reduceAdd, Nat.reduceSub, List.cons_append, List.nil_append, List.set_cons_zero, List.set_cons_succ, Option.toList_none, Option.toList_some, nI_1]
    refine xi_icmpge rfl (fun c1 => ?_) (fun c1 => ?_)
    · refine xgo 80 rfl ?_
      try simp only [xlo0, List.map_cons, List.map_nil, List.length_cons, List.length_nil, xrs, xr0, Nat.reduceAdd, Nat.reduceSub, List.cons_append, List.nil_append, List.set_cons_zero, List.set_cons_succ, Option.toList_none, Option.toList_some, nI_1]
      refine xi_ret_i rfl rfl rfl ⟨by rw [fi_f hi]; rfl, rfl⟩
    · exact absurd (i_le.mpr (Int.le_refl _)) c1
  | succ n ih =>
    intro j hj hi
    refine xgo 80 rfl ?_
    try simp only [xlo0, List.map_cons, List.map_nil, List.length_cons, List.length_nil, xrs, xr0, Nat.reduceAdd, Nat.reduceSub, List.cons_append, List.nil_append, List.set_cons_zero, List.set_cons_succ, Option.toList_none, Option.toList_some, nI_1]
    refine xg 2 rfl rfl rfl h0 rfl ?_
    refine xgo 80 rfl ?_
    try simp only [xlo0, List.map_cons, List.map_nil, List.length_cons, List.length_nil, xrs, xr0, Nat.reduceAdd, Nat.reduceSub, List.cons_append, List.nil_append, List.set_cons_zero, List.set_cons_succ, Option.toList_none, Option.toList_some, nI_1]
    refine xi_icmpge rfl (fun c1 => ?_) (fun c1 => ?_)
    · exact absurd c1 (by rw [i_le, i_n (by omega), i_n (by omega)]; omega)
    · obtain ⟨e, he⟩ := lt_get (l := K.2.2.2) (j := j) (by omega)
      have hcl : (nI j).toNatClampNeg = j := nI_clamp (by omega)
      refine xgo 80 rfl ?_
      try simp only [xlo0, List.map_cons, List.map_nil, List.length_cons, List.length_nil, xrs, xr0, Nat.reduceAdd, Nat.reduceSub, List.cons_append, List.nil_append, List.set_cons_zero, List.set_cons_succ, Option.toList_none, Option.toList_some, nI_1]
      refine xg 2 rfl rfl rfl h0 rfl ?_
      refine xgo 80 rfl ?_
      try simp only [xlo0, List.map_cons, List.map_nil, List.length_cons, List.length_nil, xrs, xr0, Nat.reduceAdd, Nat.reduceSub, List.cons_append, List.nil_append, List.set_cons_zero, List.set_cons_succ, Option.toList_none, Option.toList_some, nI_1]
      refine xi_iald rfl h5 (nI_pos (by omega)) (by rw [hcl]; exact vi_get (r3.2.2.2.2.2 j e he).1) ?_
      refine xgo 80 rfl ?_
      try simp only [xlo0, List.map_cons, List.map_nil, List.length_cons, List.length_nil, xrs, xr0, Nat.reduceAdd, Nat.reduceSub, List.cons_append, List.nil_append, List.set_cons_zero, List.set_cons_succ, Option.toList_none, Option.toList_some, nI_1]
      refine xi_icmpne rfl (fun c2 => ?_) (fun c2 => ?_)
      · refine xto 2 80 rfl ?_
        try simp only [xlo0, List.map_cons, List.map_nil, List.length_cons, List.length_nil, xrs, xr0, Nat.reduceAdd, Nat.reduceSub, List.cons_append, List.nil_append, List.set_cons_zero, List.set_cons_succ, Option.toList_none, Option.toList_some, nI_1]
        exact ih (j + 1) (by omega) (fun i e' h1 h2 => by
          by_cases hij : i = j
          · subst hij
            rw [he] at h2
            cases h2
            simpa using c2
          · exact hi i e' (by omega) h2)
      · refine xgo 80 rfl ?_
        try simp only [xlo0, List.map_cons, List.map_nil, List.length_cons, List.length_nil, xrs, xr0, Nat.reduceAdd, Nat.reduceSub, List.cons_append, List.nil_append, List.set_cons_zero, List.set_cons_succ, Option.toList_none, Option.toList_some, nI_1]
        refine xi_ret_i rfl rfl rfl ⟨by rw [fi_t hi he (by simpa using c2)]; rfl, rfl⟩
set_option maxRecDepth 100000 in
set_option maxHeartbeats 8000000 in
theorem c_CT_rowOf {G : xG} {d c : Nat} {K : cV} {x : Int32} {σ : xS} (h : cont G σ.1 c K) : xm G d mX2_rowOf [rf G c, .int x] σ (fun v σ' => v = some (.int (oI (K.2.2.2.findIdx? (fun e => e.1 == x)))) ∧ σ' = σ) := by
  refine xm_at 3 rfl (by decide) (Nat.le_of_ble_eq_true rfl) (by simp [Value.category]) tX2_rowOf_ok ?_
  try simp only [xlo0, List.map_cons, List.map_nil, List.length_cons, List.length_nil, xrs, xr0, Nat.reduceAdd, Nat.reduceSub, List.cons_append, List.nil_append, List.set_cons_zero, List.set_cons_succ, Option.toList_none, Option.toList_some, nI_1]
  refine xto 2 80 rfl ?_
  try simp only [xlo0, List.map_cons, List.map_nil, List.length_cons, List.length_nil, xrs, xr0, Nat.reduceAdd, Nat.reduceSub, List.cons_append, List.nil_append, List.set_cons_zero, List.set_cons_succ, Option.toList_none, Option.toList_some, nI_1]
  exact l_CT_rowOf h K.2.2.2.length 0 (by omega) (fun i e h => by omega)
set_option maxRecDepth 100000 in
set_option maxHeartbeats 8000000 in
theorem l_CT_hasRowOfGroup {G : xG} {d c : Nat} {K : cV} {x : Int32} {σ : xS} (h : cont G σ.1 c K) : ∀ (n j : Nat), j + n = K.2.2.2.length → (∀ i e, i < j → K.2.2.2[i]? = some e → (e.1 / 16 == x) = false) →
    xw G d mX2_hasRowOfGroup 2 [some (rf G c), some (.int x), some (.int (nI j))] [] σ (fun v σ' => v = some (.int (bI (K.2.2.2.any (fun e => e.1 / 16 == x)))) ∧ σ' = σ) := by
  obtain ⟨nn, ne, nx, sa, ks, ps, ln, pg, h0, h1, h2, h3, h4, h5, h6, h7, h8, hp, r1, r2, r3⟩ := h
  have hb := r3.1
  intro n
  induction n with
  | zero =>
    intro j hj hi
    have hj' : j = K.2.2.2.length := by omega
    subst hj'
    refine xgo 80 rfl ?_
    try simp only [xlo0, List.map_cons, List.map_nil, List.length_cons, List.length_nil, xrs, xr0, Nat.reduceAdd, Nat.reduceSub, List.cons_append, List.nil_append, List.set_cons_zero, List.set_cons_succ, Option.toList_none, Option.toList_some, nI_1]
    refine xg 2 rfl rfl rfl h0 rfl ?_
    refine xgo 80 rfl ?_
    try simp only [xlo0, List.map_cons, List.map_nil, List.length_cons, List.length_nil, xrs, xr0, Nat.reduceAdd, Nat.reduceSub, List.cons_append, List.nil_append, List.set_cons_zero, List.set_cons_succ, Option.toList_none, Option.toList_some, nI_1]
    refine xi_icmpge rfl (fun c1 => ?_) (fun c1 => ?_)
    · refine xgo 80 rfl ?_
      try simp only [xlo0, List.map_cons, List.map_nil, List.length_cons, List.length_nil, xrs, xr0, Nat.reduceAdd, Nat.reduceSub, List.cons_append, List.nil_append, List.set_cons_zero, List.set_cons_succ, Option.toList_none, Option.toList_some, nI_1]
      refine xi_ret_i rfl rfl (by decide) ⟨by rw [any_f hi]; rfl, rfl⟩
    · exact absurd (i_le.mpr (Int.le_refl _)) c1
  | succ n ih =>
    intro j hj hi
    refine xgo 80 rfl ?_
    try simp only [xlo0, List.map_cons, List.map_nil, List.length_cons, List.length_nil, xrs, xr0, Nat.reduceAdd, Nat.reduceSub, List.cons_append, List.nil_append, List.set_cons_zero, List.set_cons_succ, Option.toList_none, Option.toList_some, nI_1]
    refine xg 2 rfl rfl rfl h0 rfl ?_
    refine xgo 80 rfl ?_
    try simp only [xlo0, List.map_cons, List.map_nil, List.length_cons, List.length_nil, xrs, xr0, Nat.reduceAdd, Nat.reduceSub, List.cons_append, List.nil_append, List.set_cons_zero, List.set_cons_succ, Option.toList_none, Option.toList_some, nI_1]
    refine xi_icmpge rfl (fun c1 => ?_) (fun c1 => ?_)
    · exact absurd c1 (by rw [i_le, i_n (by omega), i_n (by omega)]; omega)
    · obtain ⟨e, he⟩ := lt_get (l := K.2.2.2) (j := j) (by omega)
      have hcl : (nI j).toNatClampNeg = j := nI_clamp (by omega)
      refine xgo 80 rfl ?_
      try simp only [xlo0, List.map_cons, List.map_nil, List.length_cons, List.length_nil, xrs, xr0, Nat.reduceAdd, Nat.reduceSub, List.cons_append, List.nil_append, List.set_cons_zero, List.set_cons_succ, Option.toList_none, Option.toList_some, nI_1]
      refine xg 2 rfl rfl rfl h0 rfl ?_
      refine xgo 80 rfl ?_
      try simp only [xlo0, List.map_cons, List.map_nil, List.length_cons, List.length_nil, xrs, xr0, Nat.reduceAdd, Nat.reduceSub, List.cons_append, List.nil_append, List.set_cons_zero, List.set_cons_succ, Option.toList_none, Option.toList_some, nI_1]
      refine xi_iald rfl h5 (nI_pos (by omega)) (by rw [hcl]; exact vi_get (r3.2.2.2.2.2 j e he).1) ?_
      refine xgo 80 rfl ?_
      try simp only [xlo0, List.map_cons, List.map_nil, List.length_cons, List.length_nil, xrs, xr0, Nat.reduceAdd, Nat.reduceSub, List.cons_append, List.nil_append, List.set_cons_zero, List.set_cons_succ, Option.toList_none, Option.toList_some, nI_1]
      refine xi_idiv rfl (by decide) ?_
      refine xgo 80 rfl ?_
      try simp only [xlo0, List.map_cons, List.map_nil, List.length_cons, List.length_nil, xrs, xr0, Nat.reduceAdd, Nat.reduceSub, List.cons_append, List.nil_append, List.set_cons_zero, List.set_cons_succ, Option.toList_none, Option.toList_some, nI_1]
      refine xi_icmpne rfl (fun c2 => ?_) (fun c2 => ?_)
      · refine xto 2 80 rfl ?_
        try simp only [xlo0, List.map_cons, List.map_nil, List.length_cons, List.length_nil, xrs, xr0, Nat.reduceAdd, Nat.reduceSub, List.cons_append, List.nil_append, List.set_cons_zero, List.set_cons_succ, Option.toList_none, Option.toList_some, nI_1]
        exact ih (j + 1) (by omega) (fun i e' h1 h2 => by
          by_cases hij : i = j
          · subst hij
            rw [he] at h2
            cases h2
            simpa using c2
          · exact hi i e' (by omega) h2)
      · refine xgo 80 rfl ?_
        try simp only [xlo0, List.map_cons, List.map_nil, List.length_cons, List.length_nil, xrs, xr0, Nat.reduceAdd, Nat.reduceSub, List.cons_append, List.nil_append, List.set_cons_zero, List.set_cons_succ, Option.toList_none, Option.toList_some, nI_1]
        refine xi_ret_i rfl rfl (by decide) ⟨by rw [any_t he (by simpa using c2)]; rfl, rfl⟩
set_option maxRecDepth 100000 in
set_option maxHeartbeats 8000000 in
theorem c_CT_hasRowOfGroup {G : xG} {d c : Nat} {K : cV} {x : Int32} {σ : xS} (h : cont G σ.1 c K) : xm G d mX2_hasRowOfGroup [rf G c, .int x] σ (fun v σ' => v = some (.int (bI (K.2.2.2.any (fun e => e.1 / 16 == x)))) ∧ σ' = σ) := by
  refine xm_at 3 rfl (by decide) (Nat.le_of_ble_eq_true rfl) (by simp [Value.category]) tX2_hasRowOfGroup_ok ?_
  try simp only [xlo0, List.map_cons, List.map_nil, List.length_cons, List.length_nil, xrs, xr0, Nat.reduceAdd, Nat.reduceSub, List.cons_append, List.nil_append, List.set_cons_zero, List.set_cons_succ, Option.toList_none, Option.toList_some, nI_1]
  refine xto 2 80 rfl ?_
  try simp only [xlo0, List.map_cons, List.map_nil, List.length_cons, List.length_nil, xrs, xr0, Nat.reduceAdd, Nat.reduceSub, List.cons_append, List.nil_append, List.set_cons_zero, List.set_cons_succ, Option.toList_none, Option.toList_some, nI_1]
  exact l_CT_hasRowOfGroup h K.2.2.2.length 0 (by omega) (fun i e h => by omega)
/-- the bytes of row r -/
def rby (rw : List (Int32 × Int32 × List Int32)) (r : Int32) : List Int32 := if r.toInt < 0 then [] else match rw[r.toInt.toNat]? with
  | some e => e.2.2
  | none => []
theorem rby_n {rw : List (Int32 × Int32 × List Int32)} {r : Nat} {e : Int32 × Int32 × List Int32} (h : rw[r]? = some e) (hr : r < 2 ^ 31) : rby rw (nI r) = e.2.2 := by
  unfold rby
  rw [i_n hr, if_neg (by omega)]
  simp [h]
theorem rby_out {rw : List (Int32 × Int32 × List Int32)} {r : Int32} (h : r.toInt < 0 ∨ (rw.length : Int) ≤ r.toInt) : rby rw r = [] := by
  unfold rby
  split
  · rfl
  · rw [List.getElem?_eq_none (by omega)]
theorem bat_nil (i : Int32) : bat [] i = -1 := by
  unfold bat
  split <;> rfl
set_option maxRecDepth 100000 in
set_option maxHeartbeats 8000000 in
theorem c_CT_pageLength {G : xG} {d c : Nat} {K : cV} {r : Int32} {σ : xS} (h : cont G σ.1 c K) : xm G (d + 1) mX2_pageLength [rf G c, .int r] σ (fun v σ' => v = some (.int (nI (rby K.2.2.2 r).length)) ∧ σ' = σ) := by
  obtain ⟨nn, ne, nx, sa, ks, ps, ln, pg, h0, h1, h2, h3, h4, h5, h6, h7, h8, hp, r1, r2, r3⟩ := h
  have hb := r3.1
  have hn : (nI K.2.2.2.length).toInt = K.2.2.2.length := i_n (by omega)
  refine xm_at 2 rfl (by decide) (Nat.le_of_ble_eq_true rfl) (by simp [Value.category]) tX2_pageLength_ok ?_
  try simp only [xlo0, List.map_cons, List.map_nil, List.length_cons, List.length_nil, xrs, xr0, Nat.reduceAdd, Nat.reduceSub, List.cons_append, List.nil_append, List.set_cons_zero, List.set_cons_succ, Option.toList_none, Option.toList_some, nI_1]
  refine xgo 80 rfl ?_
  try simp only [xlo0, List.map_cons, List.map_nil, List.length_cons, List.length_nil, xrs, xr0, Nat.reduceAdd, Nat.reduceSub, List.cons_append, List.nil_append, List.set_cons_zero, List.set_cons_succ, Option.toList_none, Option.toList_some, nI_1]
  refine xg 2 rfl rfl rfl h0 rfl ?_
  refine xgo 80 rfl ?_
  try simp only [xlo0, List.map_cons, List.map_nil, List.length_cons, List.length_nil, xrs, xr0, Nat.reduceAdd, Nat.reduceSub, List.cons_append, List.nil_append, List.set_cons_zero, List.set_cons_succ, Option.toList_none, Option.toList_some, nI_1]
  refine xcS 2 rfl rfl rfl c_isBelow rfl kX8_isBelow iX8_isBelow rfl rfl (Nat.le_of_ble_eq_true rfl) (fun v1 s1 q1 => ?_)
  obtain ⟨rfl, rfl⟩ := q1
  by_cases hin : 0 ≤ r.toInt ∧ r.toInt < (nI K.2.2.2.length).toInt
  · rw [if_pos hin]
    refine xgo 80 rfl ?_
    try simp only [xlo0, List.map_cons, List.map_nil, List.length_cons, List.length_nil, xrs, xr0, Nat.reduceAdd, Nat.reduceSub, List.cons_append, List.nil_append, List.set_cons_zero, List.set_cons_succ, Option.toList_none, Option.toList_some, nI_1]
    refine xi_ifeq rfl (fun c1 => ?_) (fun c1 => ?_)
    · exact absurd c1 (by decide)
    · obtain ⟨e, he⟩ := lt_get (l := K.2.2.2) (j := r.toInt.toNat) (by omega)
      have hr : rby K.2.2.2 r = e.2.2 := by
        unfold rby
        rw [if_neg (by omega), he]
      refine xgo 80 rfl ?_
      try simp only [xlo0, List.map_cons, List.map_nil, List.length_cons, List.length_nil, xrs, xr0, Nat.reduceAdd, Nat.reduceSub, List.cons_append, List.nil_append, List.set_cons_zero, List.set_cons_succ, Option.toList_none, Option.toList_some, nI_1]
      refine xg 2 rfl rfl rfl h0 rfl ?_
      refine xgo 80 rfl ?_
      try simp only [xlo0, List.map_cons, List.map_nil, List.length_cons, List.length_nil, xrs, xr0, Nat.reduceAdd, Nat.reduceSub, List.cons_append, List.nil_append, List.set_cons_zero, List.set_cons_succ, Option.toList_none, Option.toList_some, nI_1]
      refine xi_iald rfl h7 (by rw [i_lt]; have : (0 : Int32).toInt = 0 := rfl; omega) (by rw [i_cl]; exact vi_get (r3.2.2.2.2.2 _ e he).2.2.1) ?_
      refine xgo 80 rfl ?_
      try simp only [xlo0, List.map_cons, List.map_nil, List.length_cons, List.length_nil, xrs, xr0, Nat.reduceAdd, Nat.reduceSub, List.cons_append, List.nil_append, List.set_cons_zero, List.set_cons_succ, Option.toList_none, Option.toList_some, nI_1]
      refine xi_ret_i rfl rfl rfl ⟨by rw [hr], rfl⟩
  · rw [if_neg hin]
    refine xgo 80 rfl ?_
    try simp only [xlo0, List.map_cons, List.map_nil, List.length_cons, List.length_nil, xrs, xr0, Nat.reduceAdd, Nat.reduceSub, List.cons_append, List.nil_append, List.set_cons_zero, List.set_cons_succ, Option.toList_none, Option.toList_some, nI_1]
    refine xi_ifeq rfl (fun c1 => ?_) (fun c1 => ?_)
    · refine xgo 80 rfl ?_
      try simp only [xlo0, List.map_cons, List.map_nil, List.length_cons, List.length_nil, xrs, xr0, Nat.reduceAdd, Nat.reduceSub, List.cons_append, List.nil_append, List.set_cons_zero, List.set_cons_succ, Option.toList_none, Option.toList_some, nI_1]
      refine xi_ret_i rfl rfl rfl ⟨by rw [rby_out (by omega)]; rfl, rfl⟩
    · exact absurd rfl c1
theorem cpgs_get {G : xG} {c r : Nat} (h : r < 8) : (cpgs G c)[r]? = some (rf G (c + 9 + r)) := by
  rw [List.getElem?_map, List.getElem?_range h]
  rfl
set_option maxRecDepth 100000 in
set_option maxHeartbeats 8000000 in
theorem c_CT_byteAt {G : xG} {d c : Nat} {K : cV} {r i : Int32} {σ : xS} (h : cont G σ.1 c K) : xm G d mX2_byteAt [rf G c, .int r, .int i] σ (fun v σ' => v = some (.int (bat (rby K.2.2.2 r) i)) ∧ σ' = σ) := by
  obtain ⟨nn, ne, nx, sa, ks, ps, ln, pg, h0, h1, h2, h3, h4, h5, h6, h7, h8, hp, r1, r2, r3⟩ := h
  have hb := r3.1
  have hn : (nI K.2.2.2.length).toInt = K.2.2.2.length := i_n (by omega)
  have z : (0 : Int32).toInt = 0 := rfl
  refine xm_at 4 rfl (by decide) (Nat.le_of_ble_eq_true rfl) (by simp [Value.category]) tX2_byteAt_ok ?_
  try simp only [xlo0, List.map_cons, List.map_nil, List.length_cons, List.length_nil, xrs, xr0, Nat.reduceAdd, Nat.reduceSub, List.cons_append, List.nil_append, List.set_cons_zero, List.set_cons_succ, Option.toList_none, Option.toList_some, nI_1]
  refine xgo 80 rfl ?_
  try simp only [xlo0, List.map_cons, List.map_nil, List.length_cons, List.length_nil, xrs, xr0, Nat.reduceAdd, Nat.reduceSub, List.cons_append, List.nil_append, List.set_cons_zero, List.set_cons_succ, Option.toList_none, Option.toList_some, nI_1]
  refine xi_iflt rfl (fun c1 => ?_) (fun c1 => ?_)
  · rw [i_lt] at c1
    refine xgo 80 rfl ?_
    try simp only [xlo0, List.map_cons, List.map_nil, List.length_cons, List.length_nil, xrs, xr0, Nat.reduceAdd, Nat.reduceSub, List.cons_append, List.nil_append, List.set_cons_zero, List.set_cons_succ, Option.toList_none, Option.toList_some, nI_1]
    refine xi_ifeq rfl (fun c2 => ?_) (fun c2 => ?_)
    · refine xgo 80 rfl ?_
      try simp only [xlo0, List.map_cons, List.map_nil, List.length_cons, List.length_nil, xrs, xr0, Nat.reduceAdd, Nat.reduceSub, List.cons_append, List.nil_append, List.set_cons_zero, List.set_cons_succ, Option.toList_none, Option.toList_some, nI_1]
      refine xi_ret_i rfl rfl rfl ⟨by rw [rby_out (by omega), bat_nil], rfl⟩
    · exact absurd rfl c2
  rw [i_lt] at c1
  refine xgo 80 rfl ?_
  try simp only [xlo0, List.map_cons, List.map_nil, List.length_cons, List.length_nil, xrs, xr0, Nat.reduceAdd, Nat.reduceSub, List.cons_append, List.nil_append, List.set_cons_zero, List.set_cons_succ, Option.toList_none, Option.toList_some, nI_1]
  refine xg 2 rfl rfl rfl h0 rfl ?_
  refine xgo 80 rfl ?_
  try simp only [xlo0, List.map_cons, List.map_nil, List.length_cons, List.length_nil, xrs, xr0, Nat.reduceAdd, Nat.reduceSub, List.cons_append, List.nil_append, List.set_cons_zero, List.set_cons_succ, Option.toList_none, Option.toList_some, nI_1]
  refine xi_icmpge rfl (fun c2 => ?_) (fun c2 => ?_)
  · rw [i_le] at c2
    refine xgo 80 rfl ?_
    try simp only [xlo0, List.map_cons, List.map_nil, List.length_cons, List.length_nil, xrs, xr0, Nat.reduceAdd, Nat.reduceSub, List.cons_append, List.nil_append, List.set_cons_zero, List.set_cons_succ, Option.toList_none, Option.toList_some, nI_1]
    refine xi_ifeq rfl (fun c3 => ?_) (fun c3 => ?_)
    · refine xgo 80 rfl ?_
      try simp only [xlo0, List.map_cons, List.map_nil, List.length_cons, List.length_nil, xrs, xr0, Nat.reduceAdd, Nat.reduceSub, List.cons_append, List.nil_append, List.set_cons_zero, List.set_cons_succ, Option.toList_none, Option.toList_some, nI_1]
      refine xi_ret_i rfl rfl rfl ⟨by rw [rby_out (by omega), bat_nil], rfl⟩
    · exact absurd rfl c3
  rw [i_le] at c2
  obtain ⟨e, he⟩ := lt_get (l := K.2.2.2) (j := r.toInt.toNat) (by omega)
  have hr : rby K.2.2.2 r = e.2.2 := by
    unfold rby
    rw [if_neg (by omega), he]
  obtain ⟨a1, a2, a3, a4, a5⟩ := r3.2.2.2.2.2 _ e he
  rw [hr]
  refine xgo 80 rfl ?_
  try simp only [xlo0, List.map_cons, List.map_nil, List.length_cons, List.length_nil, xrs, xr0, Nat.reduceAdd, Nat.reduceSub, List.cons_append, List.nil_append, List.set_cons_zero, List.set_cons_succ, Option.toList_none, Option.toList_some, nI_1]
  refine xi_ifeq rfl (fun c3 => ?_) (fun c3 => ?_)
  · exact absurd c3 (by decide)
  refine xgo 80 rfl ?_
  try simp only [xlo0, List.map_cons, List.map_nil, List.length_cons, List.length_nil, xrs, xr0, Nat.reduceAdd, Nat.reduceSub, List.cons_append, List.nil_append, List.set_cons_zero, List.set_cons_succ, Option.toList_none, Option.toList_some, nI_1]
  refine xi_iflt rfl (fun c4 => ?_) (fun c4 => ?_)
  · rw [i_lt] at c4
    refine xgo 80 rfl ?_
    try simp only [xlo0, List.map_cons, List.map_nil, List.length_cons, List.length_nil, xrs, xr0, Nat.reduceAdd, Nat.reduceSub, List.cons_append, List.nil_append, List.set_cons_zero, List.set_cons_succ, Option.toList_none, Option.toList_some, nI_1]
    refine xi_ret_i rfl rfl rfl ⟨by rw [bat_out (by omega)], rfl⟩
  rw [i_lt] at c4
  refine xgo 80 rfl ?_
  try simp only [xlo0, List.map_cons, List.map_nil, List.length_cons, List.length_nil, xrs, xr0, Nat.reduceAdd, Nat.reduceSub, List.cons_append, List.nil_append, List.set_cons_zero, List.set_cons_succ, Option.toList_none, Option.toList_some, nI_1]
  refine xg 2 rfl rfl rfl h0 rfl ?_
  refine xgo 80 rfl ?_
  try simp only [xlo0, List.map_cons, List.map_nil, List.length_cons, List.length_nil, xrs, xr0, Nat.reduceAdd, Nat.reduceSub, List.cons_append, List.nil_append, List.set_cons_zero, List.set_cons_succ, Option.toList_none, Option.toList_some, nI_1]
  refine xi_iald rfl h7 (by rw [i_lt]; omega) (by rw [i_cl]; exact vi_get a3) ?_
  refine xgo 80 rfl ?_
  try simp only [xlo0, List.map_cons, List.map_nil, List.length_cons, List.length_nil, xrs, xr0, Nat.reduceAdd, Nat.reduceSub, List.cons_append, List.nil_append, List.set_cons_zero, List.set_cons_succ, Option.toList_none, Option.toList_some, nI_1]
  refine xi_icmpge rfl (fun c5 => ?_) (fun c5 => ?_)
  · rw [i_le, i_n (by omega)] at c5
    refine xgo 80 rfl ?_
    try simp only [xlo0, List.map_cons, List.map_nil, List.length_cons, List.length_nil, xrs, xr0, Nat.reduceAdd, Nat.reduceSub, List.cons_append, List.nil_append, List.set_cons_zero, List.set_cons_succ, Option.toList_none, Option.toList_some, nI_1]
    refine xi_ret_i rfl rfl rfl ⟨by rw [bat_out (by omega)], rfl⟩
  rw [i_le, i_n (by omega)] at c5
  have hi : i.toInt.toNat < e.2.2.length := by omega
  have hg : (pg r.toInt.toNat)[i.toNatClampNeg]? = some (bat e.2.2 i) := by
    rw [i_cl, take_get a5 hi, bat, if_neg (by omega), List.getD_eq_getElem?_getD, List.getElem?_eq_getElem hi]
    rfl
  have hr8 : r.toInt.toNat < 8 := by omega
  refine xgo 80 rfl ?_
  try simp only [xlo0, List.map_cons, List.map_nil, List.length_cons, List.length_nil, xrs, xr0, Nat.reduceAdd, Nat.reduceSub, List.cons_append, List.nil_append, List.set_cons_zero, List.set_cons_succ, Option.toList_none, Option.toList_some, nI_1]
  refine xg 2 rfl rfl rfl h0 rfl ?_
  refine xgo 80 rfl ?_
  try simp only [xlo0, List.map_cons, List.map_nil, List.length_cons, List.length_nil, xrs, xr0, Nat.reduceAdd, Nat.reduceSub, List.cons_append, List.nil_append, List.set_cons_zero, List.set_cons_succ, Option.toList_none, Option.toList_some, nI_1]
  refine xi_aald rfl h8 (by decide) (by rw [i_lt]; omega) (by rw [i_cl]; exact cpgs_get hr8) ?_
  refine xgo 80 rfl ?_
  try simp only [xlo0, List.map_cons, List.map_nil, List.length_cons, List.length_nil, xrs, xr0, Nat.reduceAdd, Nat.reduceSub, List.cons_append, List.nil_append, List.set_cons_zero, List.set_cons_succ, Option.toList_none, Option.toList_some, nI_1]
  refine xi_iald rfl (hp _ hr8) (by rw [i_lt]; omega) (vi_get hg) ?_
  refine xgo 80 rfl ?_
  try simp only [xlo0, List.map_cons, List.map_nil, List.length_cons, List.length_nil, xrs, xr0, Nat.reduceAdd, Nat.reduceSub, List.cons_append, List.nil_append, List.set_cons_zero, List.set_cons_succ, Option.toList_none, Option.toList_some, nI_1]
  refine xi_ret_i rfl rfl rfl ⟨rfl, rfl⟩
