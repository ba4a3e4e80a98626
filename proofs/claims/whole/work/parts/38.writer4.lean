theorem cont.need {G : xG} {h : Nat → Option xC} {c j : Nat} {K : cV} {e : Int32 × Int32 × Int32} (H : cont G h c K) (he : K.2.1[j]? = some e) : ∃ nn ne nx : List Int32, h (c + 1) = some (11, vi nn) ∧ h (c + 2) = some (11, vi ne) ∧ h (c + 3) = some (12, vi nx) ∧ nn[j]? = some e.1 ∧ ne[j]? = some e.2.1 ∧ nx[j]? = some e.2.2 := by
  obtain ⟨nn, ne, nx, sa, ks, ps, ln, pg, b0, b1, b2, b3, b4, b5, b6, b7, b8, hp, r1, r2, r3⟩ := H
  have := r1.2.2.2.2 j e he
  exact ⟨nn, ne, nx, b1, b2, b3, this.1, this.2.1, this.2.2⟩
theorem cont.seal {G : xG} {h : Nat → Option xC} {c j : Nat} {K : cV} {e : Int32} (H : cont G h c K) (he : K.2.2.1[j]? = some e) : ∃ sa : List Int32, h (c + 4) = some (11, vi sa) ∧ sa[j]? = some e := by
  obtain ⟨nn, ne, nx, sa, ks, ps, ln, pg, b0, b1, b2, b3, b4, b5, b6, b7, b8, hp, r1, r2, r3⟩ := H
  exact ⟨sa, b4, r2.2.2 j e he⟩
theorem cont.rowA {G : xG} {h : Nat → Option xC} {c j : Nat} {K : cV} {e : Int32 × Int32 × List Int32} (H : cont G h c K) (he : K.2.2.2[j]? = some e) : ∃ ks ps ln : List Int32, h (c + 5) = some (11, vi ks) ∧ h (c + 6) = some (11, vi ps) ∧ h (c + 7) = some (11, vi ln) ∧ ks[j]? = some e.1 ∧ ps[j]? = some e.2.1 ∧ ln[j]? = some (nI e.2.2.length) := by
  obtain ⟨nn, ne, nx, sa, ks, ps, ln, pg, b0, b1, b2, b3, b4, b5, b6, b7, b8, hp, r1, r2, r3⟩ := H
  have := r3.2.2.2.2.2 j e he
  exact ⟨ks, ps, ln, b5, b6, b7, this.1, this.2.1, this.2.2.1⟩
def wNeed (e : Int32 × Int32 × Int32) : List Int32 := [e.1, e.2.1, if e.2.2 = 0 then 0 else 1]
def wRow (e : Int32 × Int32 × List Int32) : List Int32 := [e.1, e.2.1, 0, nI e.2.2.length, 0, nI (enc e).length]
def wHead (K : cV) (sg : Int32) : List Int32 := [80, 75, K.1.1, K.1.2.1, if sg = 0 then K.1.2.2.1 else K.1.2.2.1 + 2, nI K.2.1.length] ++ K.2.1.flatMap wNeed ++ [nI K.2.2.1.length] ++ K.2.2.1 ++ [nI K.2.2.2.length] ++ K.2.2.2.flatMap wRow
theorem take_fl {α β : Type} {f : α → List β} {m : Nat} {l : List α} {j : Nat} (h : ∀ e, (f e).length = m) (hj : j ≤ l.length) : ((l.take j).flatMap f).length = m * j := by
  induction j with
  | zero => simp
  | succ j ih =>
    obtain ⟨e, he⟩ := lt_get (l := l) (j := j) (by omega)
    rw [take_flat he, List.length_append, ih (by omega), h, Nat.mul_succ]
set_option maxRecDepth 100000 in
set_option maxHeartbeats 8000000 in
theorem l_WH_needs {G : xG} {d w c o cap : Nat} {sg : Int32} {K : cV} {bs : List Int32} {σ : xS} {Q : Option Value → xS → Prop} (hK : cont G σ.1 c K) (hd : c + 17 ≤ o ∨ o + 2 ≤ c) (hc : bs.length + 12 ≤ cap)
    (kq : ∀ (s : xS) (y : Value), brr G s.1 o cap (bs ++ K.2.1.flatMap wNeed) → frz σ.1 s.1 o 2 → s.2 = σ.2 → xw G (d + 1) mX6_writeHead 116 [some (rf G w), some (rf G c), some (.int sg), some (rf G o), some y] [] s Q) : ∀ (n j : Nat) (s : xS), j + n = K.2.1.length → brr G s.1 o cap (bs ++ (K.2.1.take j).flatMap wNeed) → frz σ.1 s.1 o 2 → s.2 = σ.2 →
    xw G (d + 1) mX6_writeHead 60 [some (rf G w), some (rf G c), some (.int sg), some (rf G o), some (.int (nI j))] [] s Q := by
  have hbn := hK.bnd
  intro n
  induction n with
  | zero =>
    intro j s hj h1 hf h3
    have : j = K.2.1.length := by omega
    subst this
    rw [List.take_length] at h1
    refine xgo 80 rfl ?_
    try simp only [xlo0, List.map_cons, List.map_nil, List.length_cons, List.length_nil, xrs, xr0, Nat.reduceAdd, Nat.reduceSub, List.cons_append, List.nil_append, List.set_cons_zero, List.set_cons_succ, Option.toList_none, Option.toList_some, nI_1]
    refine xg 6 rfl rfl rfl (hK.keep hf hd).obj rfl ?_
    refine xgo 80 rfl ?_
    try simp only [xlo0, List.map_cons, List.map_nil, List.length_cons, List.length_nil, xrs, xr0, Nat.reduceAdd, Nat.reduceSub, List.cons_append, List.nil_append, List.set_cons_zero, List.set_cons_succ, Option.toList_none, Option.toList_some, nI_1]
    refine xi_icmpge rfl (fun c1 => ?_) (fun c1 => ?_)
    · exact kq s _ h1 hf h3
    · exact absurd (i_le.mpr (Int.le_refl _)) c1
  | succ n ih =>
    intro j s hj h1 hf h3
    have hK' := hK.keep hf hd
    obtain ⟨e, he⟩ := lt_get (l := K.2.1) (j := j) (by omega)
    obtain ⟨nn, ne, nx, b1, b2, b3, e1, e2, e3⟩ := hK'.need he
    have hcl : (nI j).toNatClampNeg = j := nI_clamp (by omega)
    have hl := take_fl (f := wNeed) (m := 3) (l := K.2.1) (j := j) (fun e => rfl) (by omega)
    have hq := h1.len
    refine xgo 80 rfl ?_
    try simp only [xlo0, List.map_cons, List.map_nil, List.length_cons, List.length_nil, xrs, xr0, Nat.reduceAdd, Nat.reduceSub, List.cons_append, List.nil_append, List.set_cons_zero, List.set_cons_succ, Option.toList_none, Option.toList_some, nI_1]
    refine xg 6 rfl rfl rfl hK'.obj rfl ?_
    refine xgo 80 rfl ?_
    try simp only [xlo0, List.map_cons, List.map_nil, List.length_cons, List.length_nil, xrs, xr0, Nat.reduceAdd, Nat.reduceSub, List.cons_append, List.nil_append, List.set_cons_zero, List.set_cons_succ, Option.toList_none, Option.toList_some, nI_1]
    refine xi_icmpge rfl (fun c1 => ?_) (fun c1 => ?_)
    · exact absurd c1 (by rw [i_le, i_n (by omega), i_n (by omega)]; omega)
    refine xgo 80 rfl ?_
    try simp only [xlo0, List.map_cons, List.map_nil, List.length_cons, List.length_nil, xrs, xr0, Nat.reduceAdd, Nat.reduceSub, List.cons_append, List.nil_append, List.set_cons_zero, List.set_cons_succ, Option.toList_none, Option.toList_some, nI_1]
    refine xg 6 rfl rfl rfl hK'.obj rfl ?_
    refine xgo 80 rfl ?_
    try simp only [xlo0, List.map_cons, List.map_nil, List.length_cons, List.length_nil, xrs, xr0, Nat.reduceAdd, Nat.reduceSub, List.cons_append, List.nil_append, List.set_cons_zero, List.set_cons_succ, Option.toList_none, Option.toList_some, nI_1]
    refine xi_iald rfl b1 (nI_pos (by omega)) (by rw [hcl]; exact vi_get e1) ?_
    refine xgo 80 rfl ?_
    try simp only [xlo0, List.map_cons, List.map_nil, List.length_cons, List.length_nil, xrs, xr0, Nat.reduceAdd, Nat.reduceSub, List.cons_append, List.nil_append, List.set_cons_zero, List.set_cons_succ, Option.toList_none, Option.toList_some, nI_1]
    refine xcV 6 rfl rfl rfl (c_BR_push h1 (by rw [List.length_append]; omega)) rfl kX1_push iX1_push h1.obj ⟨_, rfl, rfl⟩ rfl rfl (Nat.le_of_ble_eq_true rfl) (fun v1 s1 q1 => ?_)
    obtain ⟨rfl, p1, p2, p3⟩ := q1
    have b2 := (p2 _ (by omega)).trans b2
    have b3 := (p2 _ (by omega)).trans b3
    refine xgo 80 rfl ?_
    try simp only [xlo0, List.map_cons, List.map_nil, List.length_cons, List.length_nil, xrs, xr0, Nat.reduceAdd, Nat.reduceSub, List.cons_append, List.nil_append, List.set_cons_zero, List.set_cons_succ, Option.toList_none, Option.toList_some, nI_1]
    refine xg 6 rfl rfl rfl (hK'.keep p2 hd).obj rfl ?_
    refine xgo 80 rfl ?_
    try simp only [xlo0, List.map_cons, List.map_nil, List.length_cons, List.length_nil, xrs, xr0, Nat.reduceAdd, Nat.reduceSub, List.cons_append, List.nil_append, List.set_cons_zero, List.set_cons_succ, Option.toList_none, Option.toList_some, nI_1]
    refine xi_iald rfl b2 (nI_pos (by omega)) (by rw [hcl]; exact vi_get e2) ?_
    refine xgo 80 rfl ?_
    try simp only [xlo0, List.map_cons, List.map_nil, List.length_cons, List.length_nil, xrs, xr0, Nat.reduceAdd, Nat.reduceSub, List.cons_append, List.nil_append, List.set_cons_zero, List.set_cons_succ, Option.toList_none, Option.toList_some, nI_1]
    refine xcV 6 rfl rfl rfl (c_BR_push p1 (by simp only [List.length_append, List.length_singleton]; omega)) rfl kX1_push iX1_push p1.obj ⟨_, rfl, rfl⟩ rfl rfl (Nat.le_of_ble_eq_true rfl) (fun v2 s2 q2 => ?_)
    obtain ⟨rfl, r1, r2, r3⟩ := q2
    have b3 := (r2 _ (by omega)).trans b3
    have go : ∀ z : Int32, z = (if e.2.2 = 0 then (0 : Int32) else 1) → xw G (d + 1) mX6_writeHead 107 [some (rf G w), some (rf G c), some (.int sg), some (rf G o), some (.int (nI j))] [.int z, rf G o] s2 Q := by
      intro z hz
      refine xgo 80 rfl ?_
      try simp only [xlo0, List.map_cons, List.map_nil, List.length_cons, List.length_nil, xrs, xr0, Nat.reduceAdd, Nat.reduceSub, List.cons_append, List.nil_append, List.set_cons_zero, List.set_cons_succ, Option.toList_none, Option.toList_some, nI_1]
      refine xcV 6 rfl rfl rfl (c_BR_push r1 (by simp only [List.length_append, List.length_singleton]; omega)) rfl kX1_push iX1_push r1.obj ⟨_, rfl, rfl⟩ rfl rfl (Nat.le_of_ble_eq_true rfl) (fun v3 s3 q3 => ?_)
      obtain ⟨rfl, t1, t2, t3⟩ := q3
      refine xto 60 80 rfl ?_
      try simp only [xlo0, List.map_cons, List.map_nil, List.length_cons, List.length_nil, xrs, xr0, Nat.reduceAdd, Nat.reduceSub, List.cons_append, List.nil_append, List.set_cons_zero, List.set_cons_succ, Option.toList_none, Option.toList_some, nI_1]
      refine ih (j + 1) s3 (by omega) ?_ (((hf.tr p2).tr r2).tr t2) (t3.trans (r3.trans (p3.trans h3)))
      rw [take_flat he]
      subst hz
      simpa [wNeed] using t1
    refine xgo 80 rfl ?_
    try simp only [xlo0, List.map_cons, List.map_nil, List.length_cons, List.length_nil, xrs, xr0, Nat.reduceAdd, Nat.reduceSub, List.cons_append, List.nil_append, List.set_cons_zero, List.set_cons_succ, Option.toList_none, Option.toList_some, nI_1]
    refine xg 6 rfl rfl rfl ((hK'.keep p2 hd).keep r2 hd).obj rfl ?_
    refine xgo 80 rfl ?_
    try simp only [xlo0, List.map_cons, List.map_nil, List.length_cons, List.length_nil, xrs, xr0, Nat.reduceAdd, Nat.reduceSub, List.cons_append, List.nil_append, List.set_cons_zero, List.set_cons_succ, Option.toList_none, Option.toList_some, nI_1]
    refine xi_zald rfl b3 (nI_pos (by omega)) (by rw [hcl]; exact vi_get e3) ?_
    refine xgo 80 rfl ?_
    try simp only [xlo0, List.map_cons, List.map_nil, List.length_cons, List.length_nil, xrs, xr0, Nat.reduceAdd, Nat.reduceSub, List.cons_append, List.nil_append, List.set_cons_zero, List.set_cons_succ, Option.toList_none, Option.toList_some, nI_1]
    refine xi_ifeq rfl (fun c4 => ?_) (fun c4 => ?_)
    · refine xgo 80 rfl ?_
      try simp only [xlo0, List.map_cons, List.map_nil, List.length_cons, List.length_nil, xrs, xr0, Nat.reduceAdd, Nat.reduceSub, List.cons_append, List.nil_append, List.set_cons_zero, List.set_cons_succ, Option.toList_none, Option.toList_some, nI_1]
      exact go _ (by rw [if_pos c4])
    · refine xto 107 80 rfl ?_
      try simp only [xlo0, List.map_cons, List.map_nil, List.length_cons, List.length_nil, xrs, xr0, Nat.reduceAdd, Nat.reduceSub, List.cons_append, List.nil_append, List.set_cons_zero, List.set_cons_succ, Option.toList_none, Option.toList_some, nI_1]
      exact go _ (by rw [if_neg c4])
set_option maxRecDepth 100000 in
set_option maxHeartbeats 8000000 in
theorem l_WH_seals {G : xG} {d w c o cap : Nat} {sg : Int32} {K : cV} {bs : List Int32} {σ : xS} {Q : Option Value → xS → Prop} (hK : cont G σ.1 c K) (hd : c + 17 ≤ o ∨ o + 2 ≤ c) (hc : bs.length + 4 ≤ cap)
    (kq : ∀ (s : xS) (y : Value), brr G s.1 o cap (bs ++ K.2.2.1) → frz σ.1 s.1 o 2 → s.2 = σ.2 → xw G (d + 1) mX6_writeHead 153 [some (rf G w), some (rf G c), some (.int sg), some (rf G o), some y] [] s Q) : ∀ (n j : Nat) (s : xS), j + n = K.2.2.1.length → brr G s.1 o cap (bs ++ K.2.2.1.take j) → frz σ.1 s.1 o 2 → s.2 = σ.2 →
    xw G (d + 1) mX6_writeHead 127 [some (rf G w), some (rf G c), some (.int sg), some (rf G o), some (.int (nI j))] [] s Q := by
  have hbn := hK.bnd
  intro n
  induction n with
  | zero =>
    intro j s hj h1 hf h3
    have : j = K.2.2.1.length := by omega
    subst this
    rw [List.take_length] at h1
    refine xgo 80 rfl ?_
    try simp only [xlo0, List.map_cons, List.map_nil, List.length_cons, List.length_nil, xrs, xr0, Nat.reduceAdd, Nat.reduceSub, List.cons_append, List.nil_append, List.set_cons_zero, List.set_cons_succ, Option.toList_none, Option.toList_some, nI_1]
    refine xg 6 rfl rfl rfl (hK.keep hf hd).obj rfl ?_
    refine xgo 80 rfl ?_
    try simp only [xlo0, List.map_cons, List.map_nil, List.length_cons, List.length_nil, xrs, xr0, Nat.reduceAdd, Nat.reduceSub, List.cons_append, List.nil_append, List.set_cons_zero, List.set_cons_succ, Option.toList_none, Option.toList_some, nI_1]
    refine xi_icmpge rfl (fun c1 => ?_) (fun c1 => ?_)
    · exact kq s _ h1 hf h3
    · exact absurd (i_le.mpr (Int.le_refl _)) c1
  | succ n ih =>
    intro j s hj h1 hf h3
    have hK' := hK.keep hf hd
    obtain ⟨e, he⟩ := lt_get (l := K.2.2.1) (j := j) (by omega)
    obtain ⟨sa, b1, e1⟩ := hK'.seal he
    have hcl : (nI j).toNatClampNeg = j := nI_clamp (by omega)
    refine xgo 80 rfl ?_
    try simp only [xlo0, List.map_cons, List.map_nil, List.length_cons, List.length_nil, xrs, xr0, Nat.reduceAdd, Nat.reduceSub, List.cons_append, List.nil_append, List.set_cons_zero, List.set_cons_succ, Option.toList_none, Option.toList_some, nI_1]
    refine xg 6 rfl rfl rfl hK'.obj rfl ?_
    refine xgo 80 rfl ?_
    try simp only [xlo0, List.map_cons, List.map_nil, List.length_cons, List.length_nil, xrs, xr0, Nat.reduceAdd, Nat.reduceSub, List.cons_append, List.nil_append, List.set_cons_zero, List.set_cons_succ, Option.toList_none, Option.toList_some, nI_1]
    refine xi_icmpge rfl (fun c1 => ?_) (fun c1 => ?_)
    · exact absurd c1 (by rw [i_le, i_n (by omega), i_n (by omega)]; omega)
    refine xgo 80 rfl ?_
    try simp only [xlo0, List.map_cons, List.map_nil, List.length_cons, List.length_nil, xrs, xr0, Nat.reduceAdd, Nat.reduceSub, List.cons_append, List.nil_append, List.set_cons_zero, List.set_cons_succ, Option.toList_none, Option.toList_some, nI_1]
    refine xg 6 rfl rfl rfl hK'.obj rfl ?_
    refine xgo 80 rfl ?_
    try simp only [xlo0, List.map_cons, List.map_nil, List.length_cons, List.length_nil, xrs, xr0, Nat.reduceAdd, Nat.reduceSub, List.cons_append, List.nil_append, List.set_cons_zero, List.set_cons_succ, Option.toList_none, Option.toList_some, nI_1]
    refine xi_iald rfl b1 (nI_pos (by omega)) (by rw [hcl]; exact vi_get e1) ?_
    refine xgo 80 rfl ?_
    try simp only [xlo0, List.map_cons, List.map_nil, List.length_cons, List.length_nil, xrs, xr0, Nat.reduceAdd, Nat.reduceSub, List.cons_append, List.nil_append, List.set_cons_zero, List.set_cons_succ, Option.toList_none, Option.toList_some, nI_1]
    refine xcV 6 rfl rfl rfl (c_BR_push h1 (by rw [List.length_append, List.length_take]; omega)) rfl kX1_push iX1_push h1.obj ⟨_, rfl, rfl⟩ rfl rfl (Nat.le_of_ble_eq_true rfl) (fun v1 s1 q1 => ?_)
    obtain ⟨rfl, p1, p2, p3⟩ := q1
    refine xto 127 80 rfl ?_
    try simp only [xlo0, List.map_cons, List.map_nil, List.length_cons, List.length_nil, xrs, xr0, Nat.reduceAdd, Nat.reduceSub, List.cons_append, List.nil_append, List.set_cons_zero, List.set_cons_succ, Option.toList_none, Option.toList_some, nI_1]
    refine ih (j + 1) s1 (by omega) ?_ (hf.tr p2) (p3.trans h3)
    rw [List.take_succ, he]
    simpa using p1
set_option maxRecDepth 100000 in
set_option maxHeartbeats 8000000 in
theorem l_WH_rows {G : xG} {d w c o cap : Nat} {sg : Int32} {K : cV} {bs bw sz : List Int32} {mb ml : Int32} {σ : xS} {Q : Option Value → xS → Prop} (hK : cont G σ.1 c K) (hW : wrw G σ.1 w bw sz mb ml) (hz : okSizes K.2.2.2 8 sz) (hd : c + 17 ≤ o ∨ o + 2 ≤ c) (hw : w + 4 ≤ o ∨ o + 2 ≤ w) (hc : bs.length + 48 ≤ cap)
    (kq : ∀ (s : xS), brr G s.1 o cap (bs ++ K.2.2.2.flatMap wRow) → frz σ.1 s.1 o 2 → s.2 = σ.2 → Q none s) : ∀ (n j : Nat) (s : xS), j + n = K.2.2.2.length → brr G s.1 o cap (bs ++ (K.2.2.2.take j).flatMap wRow) → frz σ.1 s.1 o 2 → s.2 = σ.2 →
    xw G (d + 2) mX6_writeHead 164 [some (rf G w), some (rf G c), some (.int sg), some (rf G o), some (.int (nI j))] [] s Q := by
  have hbn := hK.bnd
  intro n
  induction n with
  | zero =>
    intro j s hj h1 hf h3
    have : j = K.2.2.2.length := by omega
    subst this
    rw [List.take_length] at h1
    refine xgo 80 rfl ?_
    try simp only [xlo0, List.map_cons, List.map_nil, List.length_cons, List.length_nil, xrs, xr0, Nat.reduceAdd, Nat.reduceSub, List.cons_append, List.nil_append, List.set_cons_zero, List.set_cons_succ, Option.toList_none, Option.toList_some, nI_1]
    refine xg 6 rfl rfl rfl (hK.keep hf hd).obj rfl ?_
    refine xgo 80 rfl ?_
    try simp only [xlo0, List.map_cons, List.map_nil, List.length_cons, List.length_nil, xrs, xr0, Nat.reduceAdd, Nat.reduceSub, List.cons_append, List.nil_append, List.set_cons_zero, List.set_cons_succ, Option.toList_none, Option.toList_some, nI_1]
    refine xi_icmpge rfl (fun c1 => ?_) (fun c1 => ?_)
    · refine xgo 80 rfl ?_
      try simp only [xlo0, List.map_cons, List.map_nil, List.length_cons, List.length_nil, xrs, xr0, Nat.reduceAdd, Nat.reduceSub, List.cons_append, List.nil_append, List.set_cons_zero, List.set_cons_succ, Option.toList_none, Option.toList_some, nI_1]
      refine xi_ret_v rfl rfl (kq s h1 hf h3)
    · exact absurd (i_le.mpr (Int.le_refl _)) c1
  | succ n ih =>
    intro j s hj h1 hf h3
    have hK' := hK.keep hf hd
    have hW' := hW.keep hf hw
    obtain ⟨e, he⟩ := lt_get (l := K.2.2.2) (j := j) (by omega)
    obtain ⟨ks, ps, ln, b1, b2, b3, e1, e2, e3⟩ := hK'.rowA he
    have e4 := hz j e (by omega) he
    have b4 := hW'.2.2.1
    have hPl := hK.row he
    have hel := enc_len hPl
    have hcl : (nI j).toNatClampNeg = j := nI_clamp (by omega)
    have hl := take_fl (f := wRow) (m := 6) (l := K.2.2.2) (j := j) (fun e => rfl) (by omega)
    refine xgo 80 rfl ?_
    try simp only [xlo0, List.map_cons, List.map_nil, List.length_cons, List.length_nil, xrs, xr0, Nat.reduceAdd, Nat.reduceSub, List.cons_append, List.nil_append, List.set_cons_zero, List.set_cons_succ, Option.toList_none, Option.toList_some, nI_1]
    refine xg 6 rfl rfl rfl hK'.obj rfl ?_
    refine xgo 80 rfl ?_
    try simp only [xlo0, List.map_cons, List.map_nil, List.length_cons, List.length_nil, xrs, xr0, Nat.reduceAdd, Nat.reduceSub, List.cons_append, List.nil_append, List.set_cons_zero, List.set_cons_succ, Option.toList_none, Option.toList_some, nI_1]
    refine xi_icmpge rfl (fun c1 => ?_) (fun c1 => ?_)
    · exact absurd c1 (by rw [i_le, i_n (by omega), i_n (by omega)]; omega)
    refine xgo 80 rfl ?_
    try simp only [xlo0, List.map_cons, List.map_nil, List.length_cons, List.length_nil, xrs, xr0, Nat.reduceAdd, Nat.reduceSub, List.cons_append, List.nil_append, List.set_cons_zero, List.set_cons_succ, Option.toList_none, Option.toList_some, nI_1]
    refine xg 6 rfl rfl rfl hK'.obj rfl ?_
    refine xgo 80 rfl ?_
    try simp only [xlo0, List.map_cons, List.map_nil, List.length_cons, List.length_nil, xrs, xr0, Nat.reduceAdd, Nat.reduceSub, List.cons_append, List.nil_append, List.set_cons_zero, List.set_cons_succ, Option.toList_none, Option.toList_some, nI_1]
    refine xi_iald rfl b1 (nI_pos (by omega)) (by rw [hcl]; exact vi_get e1) ?_
    refine xgo 80 rfl ?_
    try simp only [xlo0, List.map_cons, List.map_nil, List.length_cons, List.length_nil, xrs, xr0, Nat.reduceAdd, Nat.reduceSub, List.cons_append, List.nil_append, List.set_cons_zero, List.set_cons_succ, Option.toList_none, Option.toList_some, nI_1]
    refine xcV 6 rfl rfl rfl (c_BR_push h1 (by rw [List.length_append]; omega)) rfl kX1_push iX1_push h1.obj ⟨_, rfl, rfl⟩ rfl rfl (Nat.le_of_ble_eq_true rfl) (fun v1 s1 q1 => ?_)
    obtain ⟨rfl, p1, p2, p3⟩ := q1
    have b2 := (p2 _ (by omega)).trans b2
    have b3 := (p2 _ (by omega)).trans b3
    have b4 := (p2 _ (by omega)).trans b4
    refine xgo 80 rfl ?_
    try simp only [xlo0, List.map_cons, List.map_nil, List.length_cons, List.length_nil, xrs, xr0, Nat.reduceAdd, Nat.reduceSub, List.cons_append, List.nil_append, List.set_cons_zero, List.set_cons_succ, Option.toList_none, Option.toList_some, nI_1]
    refine xg 6 rfl rfl rfl (hK'.keep p2 hd).obj rfl ?_
    refine xgo 80 rfl ?_
    try simp only [xlo0, List.map_cons, List.map_nil, List.length_cons, List.length_nil, xrs, xr0, Nat.reduceAdd, Nat.reduceSub, List.cons_append, List.nil_append, List.set_cons_zero, List.set_cons_succ, Option.toList_none, Option.toList_some, nI_1]
    refine xi_iald rfl b2 (nI_pos (by omega)) (by rw [hcl]; exact vi_get e2) ?_
    refine xgo 80 rfl ?_
    try simp only [xlo0, List.map_cons, List.map_nil, List.length_cons, List.length_nil, xrs, xr0, Nat.reduceAdd, Nat.reduceSub, List.cons_append, List.nil_append, List.set_cons_zero, List.set_cons_succ, Option.toList_none, Option.toList_some, nI_1]
    refine xcV 6 rfl rfl rfl (c_BR_push p1 (by simp only [List.length_append, List.length_singleton]; omega)) rfl kX1_push iX1_push p1.obj ⟨_, rfl, rfl⟩ rfl rfl (Nat.le_of_ble_eq_true rfl) (fun v2 s2 q2 => ?_)
    obtain ⟨rfl, r1, r2, r3⟩ := q2
    have b3 := (r2 _ (by omega)).trans b3
    have b4 := (r2 _ (by omega)).trans b4
    refine xgo 80 rfl ?_
    try simp only [xlo0, List.map_cons, List.map_nil, List.length_cons, List.length_nil, xrs, xr0, Nat.reduceAdd, Nat.reduceSub, List.cons_append, List.nil_append, List.set_cons_zero, List.set_cons_succ, Option.toList_none, Option.toList_some, nI_1]
    refine xg 6 rfl rfl rfl ((hK'.keep p2 hd).keep r2 hd).obj rfl ?_
    refine xgo 80 rfl ?_
    try simp only [xlo0, List.map_cons, List.map_nil, List.length_cons, List.length_nil, xrs, xr0, Nat.reduceAdd, Nat.reduceSub, List.cons_append, List.nil_append, List.set_cons_zero, List.set_cons_succ, Option.toList_none, Option.toList_some, nI_1]
    refine xi_iald rfl b3 (nI_pos (by omega)) (by rw [hcl]; exact vi_get e3) ?_
    refine xgo 80 rfl ?_
    try simp only [xlo0, List.map_cons, List.map_nil, List.length_cons, List.length_nil, xrs, xr0, Nat.reduceAdd, Nat.reduceSub, List.cons_append, List.nil_append, List.set_cons_zero, List.set_cons_succ, Option.toList_none, Option.toList_some, nI_1]
    refine xcS 6 rfl rfl rfl (c_WR_pushPair (n := e.2.2.length) r1 (by simp only [List.length_append, List.length_singleton]; omega) (by omega)) rfl kX6_pushPair iX6_pushPair rfl rfl (Nat.le_of_ble_eq_true rfl) (fun v3 s3 q3 => ?_)
    obtain ⟨rfl, t1, t2, t3⟩ := q3
    have b4 := (t2 _ (by omega)).trans b4
    refine xgo 80 rfl ?_
    try simp only [xlo0, List.map_cons, List.map_nil, List.length_cons, List.length_nil, xrs, xr0, Nat.reduceAdd, Nat.reduceSub, List.cons_append, List.nil_append, List.set_cons_zero, List.set_cons_succ, Option.toList_none, Option.toList_some, nI_1]
    refine xg 6 rfl rfl rfl (((hW'.keep p2 hw).keep r2 hw).keep t2 hw).1 rfl ?_
    refine xgo 80 rfl ?_
    try simp only [xlo0, List.map_cons, List.map_nil, List.length_cons, List.length_nil, xrs, xr0, Nat.reduceAdd, Nat.reduceSub, List.cons_append, List.nil_append, List.set_cons_zero, List.set_cons_succ, Option.toList_none, Option.toList_some, nI_1]
    refine xi_iald rfl b4 (nI_pos (by omega)) (by rw [hcl]; exact vi_get e4) ?_
    refine xgo 80 rfl ?_
    try simp only [xlo0, List.map_cons, List.map_nil, List.length_cons, List.length_nil, xrs, xr0, Nat.reduceAdd, Nat.reduceSub, List.cons_append, List.nil_append, List.set_cons_zero, List.set_cons_succ, Option.toList_none, Option.toList_some, nI_1]
    refine xcS 6 rfl rfl rfl (c_WR_pushPair (n := (enc e).length) t1 (by simp only [List.length_append, List.length_singleton, List.length_cons, List.length_nil]; omega) (by omega)) rfl kX6_pushPair iX6_pushPair rfl rfl (Nat.le_of_ble_eq_true rfl) (fun v4 s4 q4 => ?_)
    obtain ⟨rfl, u1, u2, u3⟩ := q4
    refine xto 164 80 rfl ?_
    try simp only [xlo0, List.map_cons, List.map_nil, List.length_cons, List.length_nil, xrs, xr0, Nat.reduceAdd, Nat.reduceSub, List.cons_append, List.nil_append, List.set_cons_zero, List.set_cons_succ, Option.toList_none, Option.toList_some, nI_1]
    refine ih (j + 1) s4 (by omega) ?_ ((((hf.tr p2).tr r2).tr t2).tr u2) (u3.trans (t3.trans (r3.trans (p3.trans h3))))
    rw [take_flat he]
    simpa [wRow] using u1
set_option maxRecDepth 100000 in
set_option maxHeartbeats 8000000 in
theorem c_WR_writeHead {G : xG} {d w c o cap : Nat} {sg : Int32} {K : cV} {bw sz : List Int32} {mb ml : Int32} {σ : xS} (h : brr G σ.1 o cap []) (hK : cont G σ.1 c K) (hW : wrw G σ.1 w bw sz mb ml) (hz : okSizes K.2.2.2 8 sz) (hd : c + 17 ≤ o ∨ o + 2 ≤ c) (hw : w + 4 ≤ o ∨ o + 2 ≤ w) (hc : 72 ≤ cap) : xm G (d + 2) mX6_writeHead [rf G w, rf G c, .int sg, rf G o] σ (fun v σ' => v = none ∧ brr G σ'.1 o cap (wHead K sg) ∧ frz σ.1 σ'.1 o 2 ∧ σ'.2 = σ.2) := by
  have hbn := hK.bnd
  refine xm_at 5 rfl (by decide) (Nat.le_of_ble_eq_true rfl) (by simp [Value.category]) tX6_writeHead_ok ?_
  try simp only [xlo0, List.map_cons, List.map_nil, List.length_cons, List.length_nil, xrs, xr0, Nat.reduceAdd, Nat.reduceSub, List.cons_append, List.nil_append, List.set_cons_zero, List.set_cons_succ, Option.toList_none, Option.toList_some, nI_1]
  refine xgo 80 rfl ?_
  try simp only [xlo0, List.map_cons, List.map_nil, List.length_cons, List.length_nil, xrs, xr0, Nat.reduceAdd, Nat.reduceSub, List.cons_append, List.nil_append, List.set_cons_zero, List.set_cons_succ, Option.toList_none, Option.toList_some, nI_1]
  refine xcV 6 rfl rfl rfl (c_BR_push h (by simp; omega)) rfl kX1_push iX1_push h.obj ⟨_, rfl, rfl⟩ rfl rfl (Nat.le_of_ble_eq_true rfl) (fun v1 s1 q1 => ?_)
  obtain ⟨rfl, p1, p2, p3⟩ := q1
  refine xgo 80 rfl ?_
  try simp only [xlo0, List.map_cons, List.map_nil, List.length_cons, List.length_nil, xrs, xr0, Nat.reduceAdd, Nat.reduceSub, List.cons_append, List.nil_append, List.set_cons_zero, List.set_cons_succ, Option.toList_none, Option.toList_some, nI_1]
  refine xcV 6 rfl rfl rfl (c_BR_push p1 (by simp; omega)) rfl kX1_push iX1_push p1.obj ⟨_, rfl, rfl⟩ rfl rfl (Nat.le_of_ble_eq_true rfl) (fun v2 s2 q2 => ?_)
  obtain ⟨rfl, p4, p5, p6⟩ := q2
  have f2 := p2.tr p5
  have e2 := p6.trans p3
  refine xgo 80 rfl ?_
  try simp only [xlo0, List.map_cons, List.map_nil, List.length_cons, List.length_nil, xrs, xr0, Nat.reduceAdd, Nat.reduceSub, List.cons_append, List.nil_append, List.set_cons_zero, List.set_cons_succ, Option.toList_none, Option.toList_some, nI_1]
  refine xg 6 rfl rfl rfl (hK.keep f2 hd).obj rfl ?_
  refine xgo 80 rfl ?_
  try simp only [xlo0, List.map_cons, List.map_nil, List.length_cons, List.length_nil, xrs, xr0, Nat.reduceAdd, Nat.reduceSub, List.cons_append, List.nil_append, List.set_cons_zero, List.set_cons_succ, Option.toList_none, Option.toList_some, nI_1]
  refine xcV 6 rfl rfl rfl (c_BR_push p4 (by simp; omega)) rfl kX1_push iX1_push p4.obj ⟨_, rfl, rfl⟩ rfl rfl (Nat.le_of_ble_eq_true rfl) (fun v3 s3 q3 => ?_)
  obtain ⟨rfl, p7, p8, p9⟩ := q3
  have f3 := f2.tr p8
  have e3 := p9.trans e2
  refine xgo 80 rfl ?_
  try simp only [xlo0, List.map_cons, List.map_nil, List.length_cons, List.length_nil, xrs, xr0, Nat.reduceAdd, Nat.reduceSub, List.cons_append, List.nil_append, List.set_cons_zero, List.set_cons_succ, Option.toList_none, Option.toList_some, nI_1]
  refine xg 6 rfl rfl rfl (hK.keep f3 hd).obj rfl ?_
  refine xgo 80 rfl ?_
  try simp only [xlo0, List.map_cons, List.map_nil, List.length_cons, List.length_nil, xrs, xr0, Nat.reduceAdd, Nat.reduceSub, List.cons_append, List.nil_append, List.set_cons_zero, List.set_cons_succ, Option.toList_none, Option.toList_some, nI_1]
  refine xcV 6 rfl rfl rfl (c_BR_push p7 (by simp; omega)) rfl kX1_push iX1_push p7.obj ⟨_, rfl, rfl⟩ rfl rfl (Nat.le_of_ble_eq_true rfl) (fun v4 s4 q4 => ?_)
  obtain ⟨rfl, p10, p11, p12⟩ := q4
  have f4 := f3.tr p11
  have e4 := p12.trans e3
  have go : ∀ z : Int32, z = (if sg = 0 then K.1.2.2.1 else K.1.2.2.1 + 2) → xw G (d + 2) mX6_writeHead 46 [some (rf G w), some (rf G c), some (.int sg), some (rf G o), none] [.int z, rf G o] s4 (fun v σ' => v = none ∧ brr G σ'.1 o cap (wHead K sg) ∧ frz σ.1 σ'.1 o 2 ∧ σ'.2 = σ.2) := by
    intro z hz'
    refine xgo 80 rfl ?_
    try simp only [xlo0, List.map_cons, List.map_nil, List.length_cons, List.length_nil, xrs, xr0, Nat.reduceAdd, Nat.reduceSub, List.cons_append, List.nil_append, List.set_cons_zero, List.set_cons_succ, Option.toList_none, Option.toList_some, nI_1]
    refine xcV 6 rfl rfl rfl (c_BR_push p10 (by simp; omega)) rfl kX1_push iX1_push p10.obj ⟨_, rfl, rfl⟩ rfl rfl (Nat.le_of_ble_eq_true rfl) (fun v5 s5 q5 => ?_)
    obtain ⟨rfl, r1, r2, r3⟩ := q5
    have f5 := f4.tr r2
    have e5 := r3.trans e4
    refine xgo 80 rfl ?_
    try simp only [xlo0, List.map_cons, List.map_nil, List.length_cons, List.length_nil, xrs, xr0, Nat.reduceAdd, Nat.reduceSub, List.cons_append, List.nil_append, List.set_cons_zero, List.set_cons_succ, Option.toList_none, Option.toList_some, nI_1]
    refine xg 6 rfl rfl rfl (hK.keep f5 hd).obj rfl ?_
    refine xgo 80 rfl ?_
    try simp only [xlo0, List.map_cons, List.map_nil, List.length_cons, List.length_nil, xrs, xr0, Nat.reduceAdd, Nat.reduceSub, List.cons_append, List.nil_append, List.set_cons_zero, List.set_cons_succ, Option.toList_none, Option.toList_some, nI_1]
    refine xcV 6 rfl rfl rfl (c_BR_push r1 (by simp; omega)) rfl kX1_push iX1_push r1.obj ⟨_, rfl, rfl⟩ rfl rfl (Nat.le_of_ble_eq_true rfl) (fun v6 s6 q6 => ?_)
    obtain ⟨rfl, t1, t2, t3⟩ := q6
    have f6 := f5.tr t2
    have e6 := t3.trans e5
    refine xto 60 80 rfl ?_
    try simp only [xlo0, List.map_cons, List.map_nil, List.length_cons, List.length_nil, xrs, xr0, Nat.reduceAdd, Nat.reduceSub, List.cons_append, List.nil_append, List.set_cons_zero, List.set_cons_succ, Option.toList_none, Option.toList_some, nI_1]
    refine l_WH_needs (cap := cap) (bs := [80, 75, K.1.1, K.1.2.1, z, nI K.2.1.length]) (hK.keep f6 hd) hd (by simp; omega) (fun s y a1 a2 a3 => ?_) K.2.1.length 0 s6 (by omega) (by simpa using t1) frz.rf rfl
    have f7 := f6.tr a2
    have e7 := a3.trans e6
    have hl := take_fl (f := wNeed) (m := 3) (l := K.2.1) (j := K.2.1.length) (fun e => rfl) (by omega)
    rw [List.take_length] at hl
    refine xgo 80 rfl ?_
    try simp only [xlo0, List.map_cons, List.map_nil, List.length_cons, List.length_nil, xrs, xr0, Nat.reduceAdd, Nat.reduceSub, List.cons_append, List.nil_append, List.set_cons_zero, List.set_cons_succ, Option.toList_none, Option.toList_some, nI_1]
    refine xg 6 rfl rfl rfl (hK.keep f7 hd).obj rfl ?_
    refine xgo 80 rfl ?_
    try simp only [xlo0, List.map_cons, List.map_nil, List.length_cons, List.length_nil, xrs, xr0, Nat.reduceAdd, Nat.reduceSub, List.cons_append, List.nil_append, List.set_cons_zero, List.set_cons_succ, Option.toList_none, Option.toList_some, nI_1]
    refine xcV 6 rfl rfl rfl (c_BR_push a1 (by simp [hl]; omega)) rfl kX1_push iX1_push a1.obj ⟨_, rfl, rfl⟩ rfl rfl (Nat.le_of_ble_eq_true rfl) (fun v7 s7 q7 => ?_)
    obtain ⟨rfl, u1, u2, u3⟩ := q7
    have f8 := f7.tr u2
    have e8 := u3.trans e7
    refine xto 127 80 rfl ?_
    try simp only [xlo0, List.map_cons, List.map_nil, List.length_cons, List.length_nil, xrs, xr0, Nat.reduceAdd, Nat.reduceSub, List.cons_append, List.nil_append, List.set_cons_zero, List.set_cons_succ, Option.toList_none, Option.toList_some, nI_1]
    refine l_WH_seals (cap := cap) (bs := [80, 75, K.1.1, K.1.2.1, z, nI K.2.1.length] ++ K.2.1.flatMap wNeed ++ [nI K.2.2.1.length]) (hK.keep f8 hd) hd (by simp [hl]; omega) (fun s y b1 b2 b3 => ?_) K.2.2.1.length 0 s7 (by omega) (by simpa using u1) frz.rf rfl
    have f9 := f8.tr b2
    have e9 := b3.trans e8
    refine xgo 80 rfl ?_
    try simp only [xlo0, List.map_cons, List.map_nil, List.length_cons, List.length_nil, xrs, xr0, Nat.reduceAdd, Nat.reduceSub, List.cons_append, List.nil_append, List.set_cons_zero, List.set_cons_succ, Option.toList_none, Option.toList_some, nI_1]
    refine xg 6 rfl rfl rfl (hK.keep f9 hd).obj rfl ?_
    refine xgo 80 rfl ?_
    try simp only [xlo0, List.map_cons, List.map_nil, List.length_cons, List.length_nil, xrs, xr0, Nat.reduceAdd, Nat.reduceSub, List.cons_append, List.nil_append, List.set_cons_zero, List.set_cons_succ, Option.toList_none, Option.toList_some, nI_1]
    refine xcV 6 rfl rfl rfl (c_BR_push b1 (by simp [hl]; omega)) rfl kX1_push iX1_push b1.obj ⟨_, rfl, rfl⟩ rfl rfl (Nat.le_of_ble_eq_true rfl) (fun v8 s8 q8 => ?_)
    obtain ⟨rfl, w1, w2, w3⟩ := q8
    have f10 := f9.tr w2
    have e10 := w3.trans e9
    refine xto 164 80 rfl ?_
    try simp only [xlo0, List.map_cons, List.map_nil, List.length_cons, List.length_nil, xrs, xr0, Nat.reduceAdd, Nat.reduceSub, List.cons_append, List.nil_append, List.set_cons_zero, List.set_cons_succ, Option.toList_none, Option.toList_some, nI_1]
    refine l_WH_rows (cap := cap) (bs := [80, 75, K.1.1, K.1.2.1, z, nI K.2.1.length] ++ K.2.1.flatMap wNeed ++ [nI K.2.2.1.length] ++ K.2.2.1 ++ [nI K.2.2.2.length]) (hK.keep f10 hd) (hW.keep f10 hw) hz hd hw (by simp [hl]; omega) (fun s c1 c2 c3 => ?_) K.2.2.2.length 0 s8 (by omega) (by simpa using w1) frz.rf rfl
    refine ⟨rfl, ?_, f10.tr c2, c3.trans e10⟩
    subst hz'
    simpa [wHead] using c1
  refine xgo 80 rfl ?_
  try simp only [xlo0, List.map_cons, List.map_nil, List.length_cons, List.length_nil, xrs, xr0, Nat.reduceAdd, Nat.reduceSub, List.cons_append, List.nil_append, List.set_cons_zero, List.set_cons_succ, Option.toList_none, Option.toList_some, nI_1]
  refine xi_ifeq rfl (fun c1 => ?_) (fun c1 => ?_)
  · refine xgo 80 rfl ?_
    try simp only [xlo0, List.map_cons, List.map_nil, List.length_cons, List.length_nil, xrs, xr0, Nat.reduceAdd, Nat.reduceSub, List.cons_append, List.nil_append, List.set_cons_zero, List.set_cons_succ, Option.toList_none, Option.toList_some, nI_1]
    refine xg 6 rfl rfl rfl (hK.keep f4 hd).obj rfl ?_
    exact go _ (by rw [if_pos c1])
  · refine xgo 80 rfl ?_
    try simp only [xlo0, List.map_cons, List.map_nil, List.length_cons, List.length_nil, xrs, xr0, Nat.reduceAdd, Nat.reduceSub, List.cons_append, List.nil_append, List.set_cons_zero, List.set_cons_succ, Option.toList_none, Option.toList_some, nI_1]
    refine xg 6 rfl rfl rfl (hK.keep f4 hd).obj rfl ?_
    refine xto 46 80 rfl ?_
    try simp only [xlo0, List.map_cons, List.map_nil, List.length_cons, List.length_nil, xrs, xr0, Nat.reduceAdd, Nat.reduceSub, List.cons_append, List.nil_append, List.set_cons_zero, List.set_cons_succ, Option.toList_none, Option.toList_some, nI_1]
    exact go _ (by rw [if_neg c1])
/-- what a pack's bytes are -/
def wPack (K : cV) (sec : Int32) : List Int32 :=
  let b := wHead K (if sec = 0 then 0 else 1) ++ K.2.2.2.flatMap enc
  let c := b ++ four (ssum 1 b)
  if sec = 0 then c else c ++ four (ssum sec c)
theorem wHead_len (K : cV) (sg : Int32) : (wHead K sg).length = 8 + 3 * K.2.1.length + K.2.2.1.length + 6 * K.2.2.2.length := by
  have h1 := take_fl (f := wNeed) (m := 3) (l := K.2.1) (j := K.2.1.length) (fun e => rfl) (Nat.le_refl _)
  have h2 := take_fl (f := wRow) (m := 6) (l := K.2.2.2) (j := K.2.2.2.length) (fun e => rfl) (Nat.le_refl _)
  rw [List.take_length] at h1 h2
  unfold wHead
  simp only [List.length_append, List.length_cons, List.length_nil, h1, h2]
  omega
theorem four_len (n : Int32) : (four n).length = 4 := rfl
set_option maxRecDepth 100000 in
set_option maxHeartbeats 8000000 in
theorem c_WR_write {G : xG} {d w c o : Nat} {sec : Int32} {K : cV} {bs bw sz : List Int32} {mb ml : Int32} {σ : xS} (h : brr G σ.1 o 2020 bs) (hK : cont G σ.1 c K) (hW : wrw G σ.1 w bw sz mb ml) (hN : okRows K.2.2.2) (hd : c + 17 ≤ o ∨ o + 2 ≤ c) (hw : w + 4 ≤ o ∨ o + 2 ≤ w) (hcw : c + 17 ≤ w ∨ w + 4 ≤ c) : xm G (d + 5) mX6_write [rf G w, rf G c, .int sec, rf G o] σ (fun v σ' => ∃ bw sz mb ml, v = none ∧ brr G σ'.1 o 2020 (wPack K sec) ∧ wrw G σ'.1 w bw sz mb ml ∧ (∀ q, (q < o ∨ o + 2 ≤ q) → (q < w ∨ w + 4 ≤ q) → σ'.1 q = σ.1 q) ∧ σ'.2 = σ.2) := by
  have hbn := hK.bnd
  refine xm_at 4 rfl (by decide) (Nat.le_of_ble_eq_true rfl) (by simp [Value.category]) tX6_write_ok ?_
  try simp only [xlo0, List.map_cons, List.map_nil, List.length_cons, List.length_nil, xrs, xr0, Nat.reduceAdd, Nat.reduceSub, List.cons_append, List.nil_append, List.set_cons_zero, List.set_cons_succ, Option.toList_none, Option.toList_some, nI_1]
  refine xgo 80 rfl ?_
  try simp only [xlo0, List.map_cons, List.map_nil, List.length_cons, List.length_nil, xrs, xr0, Nat.reduceAdd, Nat.reduceSub, List.cons_append, List.nil_append, List.set_cons_zero, List.set_cons_succ, Option.toList_none, Option.toList_some, nI_1]
  refine xcV 6 rfl rfl rfl (c_WR_writeBody hW hK hN hcw) rfl kX6_writeBody iX6_writeBody hW.1 ⟨_, rfl, rfl⟩ rfl rfl (Nat.le_of_ble_eq_true rfl) (fun v1 s1 q1 => ?_)
  obtain ⟨sz, mb, ml, hz, rfl, p1, p2, p3⟩ := q1
  have hfl : (K.2.2.2.flatMap enc).length ≤ 240 * 8 := by
    refine Nat.le_trans (flat_len (m := 240) _ (fun e' he' => ?_)) (by omega)
    obtain ⟨i, hi⟩ := List.getElem?_of_mem he'
    exact enc_len (hK.row hi)
  have h1 := h.keep p2 (by omega)
  have hK1 := hK.keep p2 (by omega)
  refine xgo 80 rfl ?_
  try simp only [xlo0, List.map_cons, List.map_nil, List.length_cons, List.length_nil, xrs, xr0, Nat.reduceAdd, Nat.reduceSub, List.cons_append, List.nil_append, List.set_cons_zero, List.set_cons_succ, Option.toList_none, Option.toList_some, nI_1]
  refine xcV 6 rfl rfl rfl (c_BR_clear h1) rfl kX1_clear iX1_clear h1.obj ⟨_, rfl, rfl⟩ rfl rfl (Nat.le_of_ble_eq_true rfl) (fun v2 s2 q2 => ?_)
  obtain ⟨rfl, r1, r2, r3⟩ := q2
  have hK2 := hK1.keep r2 hd
  have hW2 := p1.keep r2 hw
  have go : ∀ z : Int32, z = (if sec = 0 then (0 : Int32) else 1) → xw G (d + 5) mX6_write 20 [some (rf G w), some (rf G c), some (.int sec), some (rf G o)] [.int z, rf G c, rf G w] s2 (fun v σ' => ∃ bw sz mb ml, v = none ∧ brr G σ'.1 o 2020 (wPack K sec) ∧ wrw G σ'.1 w bw sz mb ml ∧ (∀ q, (q < o ∨ o + 2 ≤ q) → (q < w ∨ w + 4 ≤ q) → σ'.1 q = σ.1 q) ∧ σ'.2 = σ.2) := by
    intro z hz'
    have hhl := wHead_len K z
    refine xgo 80 rfl ?_
    try simp only [xlo0, List.map_cons, List.map_nil, List.length_cons, List.length_nil, xrs, xr0, Nat.reduceAdd, Nat.reduceSub, List.cons_append, List.nil_append, List.set_cons_zero, List.set_cons_succ, Option.toList_none, Option.toList_some, nI_1]
    refine xcV 6 rfl rfl rfl (c_WR_writeHead r1 hK2 hW2 hz hd hw (by omega)) rfl kX6_writeHead iX6_writeHead hW2.1 ⟨_, rfl, rfl⟩ rfl rfl (Nat.le_of_ble_eq_true rfl) (fun v3 s3 q3 => ?_)
    obtain ⟨rfl, t1, t2, t3⟩ := q3
    have hW3 := hW2.keep t2 hw
    refine xgo 80 rfl ?_
    try simp only [xlo0, List.map_cons, List.map_nil, List.length_cons, List.length_nil, xrs, xr0, Nat.reduceAdd, Nat.reduceSub, List.cons_append, List.nil_append, List.set_cons_zero, List.set_cons_succ, Option.toList_none, Option.toList_some, nI_1]
    refine xg 6 rfl rfl rfl hW3.1 rfl ?_
    refine xgo 80 rfl ?_
    try simp only [xlo0, List.map_cons, List.map_nil, List.length_cons, List.length_nil, xrs, xr0, Nat.reduceAdd, Nat.reduceSub, List.cons_append, List.nil_append, List.set_cons_zero, List.set_cons_succ, Option.toList_none, Option.toList_some, nI_1]
    refine xg 6 rfl rfl rfl hW3.1 rfl ?_
    refine xgo 80 rfl ?_
    try simp only [xlo0, List.map_cons, List.map_nil, List.length_cons, List.length_nil, xrs, xr0, Nat.reduceAdd, Nat.reduceSub, List.cons_append, List.nil_append, List.set_cons_zero, List.set_cons_succ, Option.toList_none, Option.toList_some, nI_1]
    refine xg 6 rfl rfl rfl hW3.2.1.obj rfl ?_
    refine xgo 80 rfl ?_
    try simp only [xlo0, List.map_cons, List.map_nil, List.length_cons, List.length_nil, xrs, xr0, Nat.reduceAdd, Nat.reduceSub, List.cons_append, List.nil_append, List.set_cons_zero, List.set_cons_succ, Option.toList_none, Option.toList_some, nI_1]
    refine xcV 6 rfl rfl rfl (c_BR_pushRange (i := 0) (e := (K.2.2.2.flatMap enc).length) t1 hW3.2.1 (by omega) (Nat.zero_le _) (Nat.le_refl _) (by omega)) rfl kX1_pushRange iX1_pushRange t1.obj ⟨_, rfl, rfl⟩ rfl rfl (Nat.le_of_ble_eq_true rfl) (fun v4 s4 q4 => ?_)
    obtain ⟨rfl, u1, u2, u3⟩ := q4
    rw [List.drop_zero, Nat.sub_zero, List.take_length] at u1
    have hW4 := hW3.keep u2 hw
    refine xgo 80 rfl ?_
    try simp only [xlo0, List.map_cons, List.map_nil, List.length_cons, List.length_nil, xrs, xr0, Nat.reduceAdd, Nat.reduceSub, List.cons_append, List.nil_append, List.set_cons_zero, List.set_cons_succ, Option.toList_none, Option.toList_some, nI_1]
    refine xg 6 rfl rfl rfl u1.obj rfl ?_
    refine xgo 80 rfl ?_
    try simp only [xlo0, List.map_cons, List.map_nil, List.length_cons, List.length_nil, xrs, xr0, Nat.reduceAdd, Nat.reduceSub, List.cons_append, List.nil_append, List.set_cons_zero, List.set_cons_succ, Option.toList_none, Option.toList_some, nI_1]
    refine xcV 6 rfl rfl rfl (c_BR_sum u1 (Nat.le_refl _)) rfl kX1_sum iX1_sum u1.obj ⟨_, rfl, rfl⟩ rfl rfl (Nat.le_of_ble_eq_true rfl) (fun v5 s5 q5 => ?_)
    obtain ⟨rfl, rfl⟩ := q5
    rw [List.take_length]
    refine xgo 80 rfl ?_
    try simp only [xlo0, List.map_cons, List.map_nil, List.length_cons, List.length_nil, xrs, xr0, Nat.reduceAdd, Nat.reduceSub, List.cons_append, List.nil_append, List.set_cons_zero, List.set_cons_succ, Option.toList_none, Option.toList_some, nI_1]
    refine xcV 6 rfl rfl rfl (c_BR_pushNumber u1 (by rw [List.length_append]; omega)) rfl kX1_pushNumber iX1_pushNumber u1.obj ⟨_, rfl, rfl⟩ rfl rfl (Nat.le_of_ble_eq_true rfl) (fun v6 s6 q6 => ?_)
    obtain ⟨rfl, w1, w2, w3⟩ := q6
    have hW6 := hW4.keep w2 hw
    have fin : ∀ (q : Nat), (q < o ∨ o + 2 ≤ q) → (q < w ∨ w + 4 ≤ q) → s6.1 q = σ.1 q := fun q a1 a2 => by rw [w2 q a1, u2 q a1, t2 q a1, r2 q a1, p2 q a2]
    have e6 : s6.2 = σ.2 := w3.trans (u3.trans (t3.trans (r3.trans p3)))
    refine xgo 80 rfl ?_
    try simp only [xlo0, List.map_cons, List.map_nil, List.length_cons, List.length_nil, xrs, xr0, Nat.reduceAdd, Nat.reduceSub, List.cons_append, List.nil_append, List.set_cons_zero, List.set_cons_succ, Option.toList_none, Option.toList_some, nI_1]
    refine xi_ifeq rfl (fun c1 => ?_) (fun c1 => ?_)
    · refine xgo 80 rfl ?_
      try simp only [xlo0, List.map_cons, List.map_nil, List.length_cons, List.length_nil, xrs, xr0, Nat.reduceAdd, Nat.reduceSub, List.cons_append, List.nil_append, List.set_cons_zero, List.set_cons_succ, Option.toList_none, Option.toList_some, nI_1]
      refine xi_ret_v rfl rfl ⟨_, _, _, _, rfl, by subst hz'; simpa [wPack, c1] using w1, hW6, fin, e6⟩
    · refine xgo 80 rfl ?_
      try simp only [xlo0, List.map_cons, List.map_nil, List.length_cons, List.length_nil, xrs, xr0, Nat.reduceAdd, Nat.reduceSub, List.cons_append, List.nil_append, List.set_cons_zero, List.set_cons_succ, Option.toList_none, Option.toList_some, nI_1]
      refine xg 6 rfl rfl rfl w1.obj rfl ?_
      refine xgo 80 rfl ?_
      try simp only [xlo0, List.map_cons, List.map_nil, List.length_cons, List.length_nil, xrs, xr0, Nat.reduceAdd, Nat.reduceSub, List.cons_append, List.nil_append, List.set_cons_zero, List.set_cons_succ, Option.toList_none, Option.toList_some, nI_1]
      refine xcV 6 rfl rfl rfl (c_BR_sum w1 (Nat.le_refl _)) rfl kX1_sum iX1_sum w1.obj ⟨_, rfl, rfl⟩ rfl rfl (Nat.le_of_ble_eq_true rfl) (fun v7 s7 q7 => ?_)
      obtain ⟨rfl, rfl⟩ := q7
      rw [List.take_length]
      refine xgo 80 rfl ?_
      try simp only [xlo0, List.map_cons, List.map_nil, List.length_cons, List.length_nil, xrs, xr0, Nat.reduceAdd, Nat.reduceSub, List.cons_append, List.nil_append, List.set_cons_zero, List.set_cons_succ, Option.toList_none, Option.toList_some, nI_1]
      refine xcV 6 rfl rfl rfl (c_BR_pushNumber w1 (by simp only [List.length_append, four_len]; omega)) rfl kX1_pushNumber iX1_pushNumber w1.obj ⟨_, rfl, rfl⟩ rfl rfl (Nat.le_of_ble_eq_true rfl) (fun v8 s8 q8 => ?_)
      obtain ⟨rfl, x1', x2, x3⟩ := q8
      refine xgo 80 rfl ?_
      try simp only [xlo0, List.map_cons, List.map_nil, List.length_cons, List.length_nil, xrs, xr0, Nat.reduceAdd, Nat.reduceSub, List.cons_append, List.nil_append, List.set_cons_zero, List.set_cons_succ, Option.toList_none, Option.toList_some, nI_1]
      refine xi_ret_v rfl rfl ⟨_, _, _, _, rfl, by subst hz'; simpa [wPack, c1] using x1', hW6.keep x2 hw, fun q a1 a2 => by rw [x2 q a1, fin q a1 a2], x3.trans e6⟩
  refine xgo 80 rfl ?_
  try simp only [xlo0, List.map_cons, List.map_nil, List.length_cons, List.length_nil, xrs, xr0, Nat.reduceAdd, Nat.reduceSub, List.cons_append, List.nil_append, List.set_cons_zero, List.set_cons_succ, Option.toList_none, Option.toList_some, nI_1]
  refine xi_ifeq rfl (fun c1 => ?_) (fun c1 => ?_)
  · refine xto 20 80 rfl ?_
    try simp only [xlo0, List.map_cons, List.map_nil, List.length_cons, List.length_nil, xrs, xr0, Nat.reduceAdd, Nat.reduceSub, List.cons_append, List.nil_append, List.set_cons_zero, List.set_cons_succ, Option.toList_none, Option.toList_some, nI_1]
    exact go _ (by rw [if_pos c1])
  · refine xto 20 80 rfl ?_
    try simp only [xlo0, List.map_cons, List.map_nil, List.length_cons, List.length_nil, xrs, xr0, Nat.reduceAdd, Nat.reduceSub, List.cons_append, List.nil_append, List.set_cons_zero, List.set_cons_succ, Option.toList_none, Option.toList_some, nI_1]
    exact go _ (by rw [if_neg c1])
