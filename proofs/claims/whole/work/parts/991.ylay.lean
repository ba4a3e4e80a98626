/-! ===== a pack is laid down ===== -/
theorem mfold_rng {nd : Int32 × Int32 × Int32} : ∀ (L : sL) (j : Nat) (acc : Int32 × Int32), (mfold nd L j acc).1 = acc.1 ∨ ∃ i, j ≤ i ∧ i < j + L.length ∧ (mfold nd L j acc).1 = nI i
  | [], j, acc => Or.inl rfl
  | x :: xs, j, acc => by
    have ih := mfold_rng (nd := nd) xs (j + 1) (mstep nd j x.2.2 acc)
    show (mfold nd xs (j + 1) (mstep nd j x.2.2 acc)).1 = acc.1 ∨ ∃ i, j ≤ i ∧ i < j + (xs.length + 1) ∧ (mfold nd xs (j + 1) (mstep nd j x.2.2 acc)).1 = nI i
    rcases ih with h | ⟨i, h1, h2, h3⟩
    · unfold mstep at h ⊢
      split at h
      next c => rw [if_pos c]; exact Or.inr ⟨j, by omega, by omega, h⟩
      next c => rw [if_neg c]; exact Or.inl h
    · exact Or.inr ⟨i, by omega, by omega, h3⟩
theorem meetI_rng (L : sL) (nd : Int32 × Int32 × Int32) : meetI L nd = -1 ∨ ∃ i, i < L.length ∧ meetI L nd = nI i := by
  rcases mfold_rng (nd := nd) L 0 (-1, -1) with h | ⟨i, -, h2, h3⟩
  · exact Or.inl h
  · exact Or.inr ⟨i, by omega, h3⟩
/-- a row of cells is filled from a place on -/
def fil (k b : Nat) (A A' : Nat → List Int32) (xs : List Int32) : Prop := fk1 k A A' ∧ (A' k).length = (A k).length ∧ (∀ j, j < b → (A' k).getD j 0 = (A k).getD j 0) ∧ ∀ (j : Nat) (x : Int32), xs[j]? = some x → (A' k).getD (b + j) 0 = x
theorem fil.nil {k b : Nat} {A : Nat → List Int32} : fil k b A A [] := ⟨fk1.rf, rfl, fun _ _ => rfl, fun j x hx => by simp at hx⟩
theorem fil.put {k b : Nat} {A A' : Nat → List Int32} {xs : List Int32} {x : Int32} (h : fil k b A A' xs) (hb : b + xs.length < (A k).length) : fil k b A (ya A' k ((A' k).set (b + xs.length) x)) (xs ++ [x]) := by
  obtain ⟨h1, h2, h3, h4⟩ := h
  have e : ya A' k ((A' k).set (b + xs.length) x) k = (A' k).set (b + xs.length) x := if_pos rfl
  refine ⟨h1.s, by rw [e, List.length_set]; exact h2, fun i hi => ?_, fun i y hy => ?_⟩
  · rw [e, gset_ne (by omega)]
    exact h3 i hi
  · rw [e]
    rcases snoc_get hy with ⟨hi, hy'⟩ | ⟨rfl, rfl⟩
    · rw [gset_ne (by omega)]
      exact h4 i y hy'
    · rw [gset_eq (by omega)]
/-- rows that are laid down, so far as r -/
def rws (n r : Nat) (R : List (Int32 × Int32 × List Int32)) (A A' : Nat → List Int32) : Prop := (∀ k, k ≠ 45 → k ≠ 46 → k ≠ 47 → A' k = A k) ∧ (A' 45).length = 96 ∧ (A' 46).length = 96 ∧ (A' 47).length = 11520 ∧ (∀ j, j < 8 * n → (A' 45).getD j 0 = (A 45).getD j 0) ∧ (∀ j, j < 8 * n → (A' 46).getD j 0 = (A 46).getD j 0) ∧ (∀ j, j < 960 * n → (A' 47).getD j 0 = (A 47).getD j 0) ∧ ∀ (j : Nat) (w : Int32 × Int32 × List Int32), j < r → R[j]? = some w → (A' 45).getD (8 * n + j) 0 = w.1 ∧ (A' 46).getD (8 * n + j) 0 = nI w.2.2.length ∧ ∀ (i : Nat) (x : Int32), w.2.2[i]? = some x → (A' 47).getD (120 * (8 * n + j) + i) 0 = x
theorem rws.put {n r : Nat} {R : List (Int32 × Int32 × List Int32)} {A A' A'' : Nat → List Int32} {w : Int32 × Int32 × List Int32} (h : rws n r R A A') (hw : R[r]? = some w) (hn : n < 12) (hr : r < 8) (h120 : ∀ w ∈ R, w.2.2.length ≤ 120) (hk : kpt (ya (ya A' 45 ((A' 45).set (8 * n + r) w.1)) 46 ((A' 46).set (8 * n + r) (nI w.2.2.length))) A'' (120 * (8 * n + r)) w.2.2.length w.2.2) : rws n (r + 1) R A A'' := by
  obtain ⟨h1, h2, h3, h4, h5, h6, h7, h8⟩ := h
  obtain ⟨k1, k2, k3, k4⟩ := hk
  have e45 : A'' 45 = (A' 45).set (8 * n + r) w.1 := k1 45 (by omega)
  have e46 : A'' 46 = (A' 46).set (8 * n + r) (nI w.2.2.length) := k1 46 (by omega)
  have e47 : ∀ i, (i < 120 * (8 * n + r) ∨ 120 * (8 * n + r) + w.2.2.length ≤ i) → (A'' 47).getD i 0 = (A' 47).getD i 0 := k3
  refine ⟨fun k c1 c2 c3 => ?_, by rw [e45, List.length_set]; exact h2, by rw [e46, List.length_set]; exact h3, k2, fun j hj => ?_, fun j hj => ?_, fun j hj => ?_, fun j v hj hv => ?_⟩
  · rw [k1 k c3]
    show ya _ 46 _ k = _
    rw [show ya (ya A' 45 ((A' 45).set (8 * n + r) w.1)) 46 ((A' 46).set (8 * n + r) (nI w.2.2.length)) k = A' k from (if_neg c2).trans (if_neg c1)]
    exact h1 k c1 c2 c3
  · rw [e45, gset_ne (by omega)]; exact h5 j hj
  · rw [e46, gset_ne (by omega)]; exact h6 j hj
  · rw [e47 j (by omega)]; exact h7 j hj
  · by_cases c : j = r
    · subst c
      rw [hw] at hv
      cases hv
      exact ⟨by rw [e45, gset_eq (by omega)], by rw [e46, gset_eq (by omega)], k4⟩
    · obtain ⟨g1, g2, g3⟩ := h8 j v (by omega) hv
      have hvl := h120 v (List.mem_of_getElem? hv)
      refine ⟨by rw [e45, gset_ne (by omega)]; exact g1, by rw [e46, gset_ne (by omega)]; exact g2, fun i x hx => ?_⟩
      have hil := (List.getElem?_eq_some_iff.mp hx).1
      rw [e47 _ (by omega)]
      exact g3 i x hx
/-- what a fine pack's bytes say -/
def LD (bs : List Int32) (K : cV) (f : Nat → Int) : Prop := hdT bs K.1 ∧ hdN bs 6 K.2.1 ∧ f 25 = K.2.1.length ∧ K.2.1.length ≤ 4 ∧ hdS bs (7 + K.2.1.length * 3) K.2.2.1 ∧ f 26 = K.2.2.1.length ∧ K.2.2.1.length ≤ 4 ∧ f 27 = K.2.2.2.length ∧ K.2.2.2.length ≤ 8 ∧ f 28 = 8 + K.2.1.length * 3 + K.2.2.1.length ∧ pgs bs (8 + K.2.1.length * 3 + K.2.2.1.length) 0 (8 + K.2.1.length * 3 + K.2.2.1.length + K.2.2.2.length * 6) K.2.2.2
theorem hSeals_t2 {bs : List Int32} {s : pS} : (hSeals bs s).2.2.1.2.2.2 = s.2.2.1.2.2.2 := hSeals_t.2.2.1
theorem HD_LD {bs : List Int32} {K : cV} {ln sz : List Int32} {f : Nat → Int} (hb : bs.length ≤ 700) (h : HD bs (headS bs K ln sz) f) (hf : (parse bs K ln sz).2.1 = none) : LD bs (parse bs K ln sz).2.2.1 f := by
  have hPK := headS_pks bs K ln sz
  have hg := HD_PG h hPK
  rw [parse_head] at hf ⊢
  rw [hEndS_rest]
  have hf1 := hEndS_f hf
  generalize headS bs K ln sz = H at *
  obtain ⟨a1, a2, a3, a4, a5, a6, a7, a8, a9, a10, a11, a12⟩ := h
  have ht := hPages_t (bs := bs) H.2.2.1.2.2.2.length 0 H
  have hl := hPages_len (bs := bs) H.2.2.1.2.2.2.length 0 H
  have hp := hPages_pgs (bs := bs) (fr := 8 + H.2.2.1.2.1.length * 3 + H.2.2.1.2.2.1.length) H.2.2.1.2.2.2.length 0 H (by omega) a10 (by omega) (fun i e _ he => (a8 i e he).1) hg hf1
  generalize hPages bs H.2.2.1.2.2.2.length 0 H = P at *
  rw [List.drop_zero, a12] at hp
  unfold LD
  rw [ht.1, ht.2.1, ht.2.2, hl]
  exact ⟨a1, a2, a3, a4, a5, a6, a7, a9, a10, by rw [a11], hp⟩
set_option maxRecDepth 100000 in
set_option maxHeartbeats 2000000 in
theorem l_ld1 {G : xG} {d a pk n : Nat} {ez x2 : Int} {x4 x5 : Option yv} {bs : List Int32} {K : cV} {f : Nat → Int} {A : Nat → List Int32} {Q : Option yv → yS → Prop} (hB : hbs pk bs f A) (hK : LD bs K f) (hez : ez = n) (hn : n < 12) (h2 : x2 = 6 + 3 * K.2.1.length) (hl : (A 43).length = 48) (hQ : ∀ A', fil 43 (4 * n) A A' K.2.2.1 → ∀ x3, yw G (d + 2) a mX9_layDown 100 [some (.inr 0), some (.inl ez), some (.inl x2), x3, x4, x5] [] (f, A') Q) : ∀ (m i : Nat) (iz : Int) (A' : Nat → List Int32), i + m = K.2.2.1.length → iz = i → fil 43 (4 * n) A A' (K.2.2.1.take i) →
    yw G (d + 2) a mX9_layDown 67 [some (.inr 0), some (.inl ez), some (.inl x2), some (.inl iz), x4, x5] [] (f, A') Q := by
  obtain ⟨a1, a2, a3, a4, a5, a6, a7, a8, a9, a10, a11⟩ := id hK
  intro m
  induction m with
  | zero =>
    intro i iz A' hm hi hf
    rw [show i = K.2.2.1.length by omega, List.take_length] at hf
    refine ygo 99999 90 rfl rfl (by first | exact trivial | (simp only [true_and, eq_self, or_true, true_or, and_true, yu, ya, reduceIte, Nat.reduceEqDiff, Int32.reduceToInt, Int.toNat_natCast, Int.reduceToNat]; omega) | decide | (simp; done) | (simp; omega)) ?_
    try simp only [List.map_cons, List.map_nil, List.length_cons, List.length_nil, ylr_s, ylr_0, Nat.reduceAdd, Nat.reduceSub, List.cons_append, List.nil_append, List.set_cons_zero, List.set_cons_succ, Option.toList_none, Option.toList_some, Int32.reduceToInt, yu, ya, reduceIte, Nat.reduceEqDiff, Int.toNat_natCast, Int.reduceToNat]
    refine yi_icmpge rfl (by refine ⟨?_, ?_⟩ <;> first | exact yr_t _ | exact yr_b _ | (unfold yr; omega)) (fun c => ?_) (fun c => ?_)
    · exact hQ A' hf _
    · omega
  | succ m ih =>
    intro i iz A' hm hi hf
    obtain ⟨x, hx⟩ := lt_get (l := K.2.2.1) (j := i) (by omega)
    have hb := a5 i x hx
    have htl : (K.2.2.1.take i).length = i := by rw [List.length_take]; omega
    refine ygo 99999 90 rfl rfl (by first | exact trivial | (simp only [true_and, eq_self, or_true, true_or, and_true, yu, ya, reduceIte, Nat.reduceEqDiff, Int32.reduceToInt, Int.toNat_natCast, Int.reduceToNat]; omega) | decide | (simp; done) | (simp; omega)) ?_
    try simp only [List.map_cons, List.map_nil, List.length_cons, List.length_nil, ylr_s, ylr_0, Nat.reduceAdd, Nat.reduceSub, List.cons_append, List.nil_append, List.set_cons_zero, List.set_cons_succ, Option.toList_none, Option.toList_some, Int32.reduceToInt, yu, ya, reduceIte, Nat.reduceEqDiff, Int.toNat_natCast, Int.reduceToNat]
    refine yi_icmpge rfl (by refine ⟨?_, ?_⟩ <;> first | exact yr_t _ | exact yr_b _ | (unfold yr; omega)) (fun c => ?_) (fun c => ?_)
    · omega
    · refine ygo 99999 90 rfl rfl (by first | exact trivial | (simp only [true_and, eq_self, or_true, true_or, and_true, yu, ya, reduceIte, Nat.reduceEqDiff, Int32.reduceToInt, Int.toNat_natCast, Int.reduceToNat]; omega) | decide | (simp; done) | (simp; omega)) ?_
      try simp only [List.map_cons, List.map_nil, List.length_cons, List.length_nil, ylr_s, ylr_0, Nat.reduceAdd, Nat.reduceSub, List.cons_append, List.nil_append, List.set_cons_zero, List.set_cons_succ, Option.toList_none, Option.toList_some, Int32.reduceToInt, yu, ya, reduceIte, Nat.reduceEqDiff, Int.toNat_natCast, Int.reduceToNat]
      refine ycV rfl rfl rfl (cm_hereB (i := 7 + K.2.1.length * 3 + i * 1) (hB.fk rfl (hf.1 20 (by omega))) (by omega) hb) rfl kX9_here iX9_here rfl rfl rfl (Nat.le_of_ble_eq_true rfl) (fun v1 Y1 q1 => ?_)
      obtain ⟨rfl, rfl⟩ := q1
      refine ygo 67 90 rfl rfl (by first | exact trivial | (simp only [true_and, eq_self, or_true, true_or, and_true, yu, ya, reduceIte, Nat.reduceEqDiff, Int32.reduceToInt, Int.toNat_natCast, Int.reduceToNat]; omega) | decide | (simp; done) | (simp; omega)) ?_
      try simp only [List.map_cons, List.map_nil, List.length_cons, List.length_nil, ylr_s, ylr_0, Nat.reduceAdd, Nat.reduceSub, List.cons_append, List.nil_append, List.set_cons_zero, List.set_cons_succ, Option.toList_none, Option.toList_some, Int32.reduceToInt, yu, ya, reduceIte, Nat.reduceEqDiff, Int.toNat_natCast, Int.reduceToNat]
      have e1 : (4 * ez + iz).toNat = 4 * n + (K.2.2.1.take i).length := by omega
      rw [e1, iof]
      refine ih (i + 1) _ _ (by omega) (by omega) ?_
      rw [List.take_succ, hx, Option.toList_some]
      exact hf.put (by omega)
set_option maxRecDepth 100000 in
set_option maxHeartbeats 2000000 in
theorem l_ld2 {G : xG} {d a pk n : Nat} {ez : Int} {x2 : Option yv} {bs : List Int32} {K : cV} {f : Nat → Int} {A : Nat → List Int32} {Q : Option yv → yS → Prop} (hB : hbs pk bs f A) (hK : LD bs K f) (hez : ez = n) (hn : n < 12) (h120 : ∀ w ∈ K.2.2.2, w.2.2.length ≤ 120) (hQ : ∀ A', rws n K.2.2.2.length K.2.2.2 A A' → ∀ x3 x4 x5, yw G (d + 2) a mX9_layDown 226 [some (.inr 0), some (.inl ez), x2, x3, x4, x5] [] (f, A') Q) : ∀ (m r p : Nat) (rz pz : Int) (x5 : Option yv) (A' : Nat → List Int32), r + m = K.2.2.2.length → rz = r → pz = p → p + 250 * m ≤ 2500 → pgs bs (8 + K.2.1.length * 3 + K.2.2.1.length) r p (K.2.2.2.drop r) → rws n r K.2.2.2 A A' →
    yw G (d + 2) a mX9_layDown 126 [some (.inr 0), some (.inl ez), x2, some (.inl pz), some (.inl rz), x5] [] (f, A') Q := by
  obtain ⟨a1, a2, a3, a4, a5, a6, a7, a8, a9, a10, a11⟩ := id hK
  intro m
  induction m with
  | zero =>
    intro r p rz pz x5 A' hm hr hp hp2 hg hf
    rw [show r = K.2.2.2.length by omega] at hf
    refine ygo 99999 90 rfl rfl (by first | exact trivial | (simp only [true_and, eq_self, or_true, true_or, and_true, yu, ya, reduceIte, Nat.reduceEqDiff, Int32.reduceToInt, Int.toNat_natCast, Int.reduceToNat]; omega) | decide | (simp; done) | (simp; omega)) ?_
    try simp only [List.map_cons, List.map_nil, List.length_cons, List.length_nil, ylr_s, ylr_0, Nat.reduceAdd, Nat.reduceSub, List.cons_append, List.nil_append, List.set_cons_zero, List.set_cons_succ, Option.toList_none, Option.toList_some, Int32.reduceToInt, yu, ya, reduceIte, Nat.reduceEqDiff, Int.toNat_natCast, Int.reduceToNat]
    refine yi_icmpge rfl (by refine ⟨?_, ?_⟩ <;> first | exact yr_t _ | exact yr_b _ | (unfold yr; omega)) (fun c => ?_) (fun c => ?_)
    · exact hQ A' hf _ _ _
    · omega
  | succ m ih =>
    intro r p rz pz x5 A' hm hr hp hp2 hg hf
    obtain ⟨w, hw⟩ := lt_get (l := K.2.2.2) (j := r) (by omega)
    rw [drop_cons hw] at hg
    obtain ⟨g1, g2, g3, g4, g5, z, mm, g6, g7, g8, g9⟩ := hg
    have hzz : (nI z).toInt = z := i_n (by omega)
    have hll : (nI w.2.2.length).toInt = w.2.2.length := i_n (by omega)
    have hfr : 8 + K.2.1.length * 3 + K.2.2.1.length ≤ 24 := by omega
    have a10' : f 28 = ((8 + K.2.1.length * 3 + K.2.2.1.length : Nat) : Int) := by omega
    generalize 8 + K.2.1.length * 3 + K.2.2.1.length = fr at *
    have e1 : (8 * ez + rz).toNat = 8 * n + r := by omega
    have hB' : hbs pk bs f A' := hB.fk rfl (hf.1 20 (by omega) (by omega) (by omega))
    have l45 := hf.2.1
    have l46 := hf.2.2.1
    have hbl := g3
    refine ygo 99999 90 rfl rfl (by first | exact trivial | (simp only [true_and, eq_self, or_true, true_or, and_true, yu, ya, reduceIte, Nat.reduceEqDiff, Int32.reduceToInt, Int.toNat_natCast, Int.reduceToNat]; omega) | decide | (simp; done) | (simp; omega)) ?_
    try simp only [List.map_cons, List.map_nil, List.length_cons, List.length_nil, ylr_s, ylr_0, Nat.reduceAdd, Nat.reduceSub, List.cons_append, List.nil_append, List.set_cons_zero, List.set_cons_succ, Option.toList_none, Option.toList_some, Int32.reduceToInt, yu, ya, reduceIte, Nat.reduceEqDiff, Int.toNat_natCast, Int.reduceToNat]
    refine yi_icmpge rfl (by refine ⟨?_, ?_⟩ <;> first | exact yr_t _ | exact yr_b _ | (unfold yr; omega)) (fun c => ?_) (fun c => ?_)
    · omega
    · refine ygo 99999 90 rfl rfl (by first | exact trivial | (simp only [true_and, eq_self, or_true, true_or, and_true, yu, ya, reduceIte, Nat.reduceEqDiff, Int32.reduceToInt, Int.toNat_natCast, Int.reduceToNat]; omega) | decide | (simp; done) | (simp; omega)) ?_
      try simp only [List.map_cons, List.map_nil, List.length_cons, List.length_nil, ylr_s, ylr_0, Nat.reduceAdd, Nat.reduceSub, List.cons_append, List.nil_append, List.set_cons_zero, List.set_cons_succ, Option.toList_none, Option.toList_some, Int32.reduceToInt, yu, ya, reduceIte, Nat.reduceEqDiff, Int.toNat_natCast, Int.reduceToNat]
      refine ycV rfl rfl rfl (cm_hereB (i := fr + r * 6) hB' (by omega) g1) rfl kX9_here iX9_here rfl rfl rfl (Nat.le_of_ble_eq_true rfl) (fun v1 Y1 q1 => ?_)
      obtain ⟨rfl, rfl⟩ := q1
      refine ygo 99999 90 rfl rfl (by first | exact trivial | (simp only [true_and, eq_self, or_true, true_or, and_true, yu, ya, reduceIte, Nat.reduceEqDiff, Int32.reduceToInt, Int.toNat_natCast, Int.reduceToNat]; omega) | decide | (simp; done) | (simp; omega)) ?_
      try simp only [List.map_cons, List.map_nil, List.length_cons, List.length_nil, ylr_s, ylr_0, Nat.reduceAdd, Nat.reduceSub, List.cons_append, List.nil_append, List.set_cons_zero, List.set_cons_succ, Option.toList_none, Option.toList_some, Int32.reduceToInt, yu, ya, reduceIte, Nat.reduceEqDiff, Int.toNat_natCast, Int.reduceToNat]
      refine ygo 99999 90 rfl rfl (by first | exact trivial | (simp only [true_and, eq_self, or_true, true_or, and_true, yu, ya, reduceIte, Nat.reduceEqDiff, Int32.reduceToInt, Int.toNat_natCast, Int.reduceToNat]; omega) | decide | (simp; done) | (simp; omega)) ?_
      try simp only [List.map_cons, List.map_nil, List.length_cons, List.length_nil, ylr_s, ylr_0, Nat.reduceAdd, Nat.reduceSub, List.cons_append, List.nil_append, List.set_cons_zero, List.set_cons_succ, Option.toList_none, Option.toList_some, Int32.reduceToInt, yu, ya, reduceIte, Nat.reduceEqDiff, Int.toNat_natCast, Int.reduceToNat]
      refine ycV rfl rfl rfl (cm_hereB (i := fr + r * 6 + 3) (hB'.fk rfl rfl) (by omega) g4) rfl kX9_here iX9_here rfl rfl rfl (Nat.le_of_ble_eq_true rfl) (fun v2 Y2 q2 => ?_)
      obtain ⟨rfl, rfl⟩ := q2
      refine ygo 99999 90 rfl rfl (by first | exact trivial | (simp only [true_and, eq_self, or_true, true_or, and_true, yu, ya, reduceIte, Nat.reduceEqDiff, Int32.reduceToInt, Int.toNat_natCast, Int.reduceToNat]; omega) | decide | (simp; done) | (simp; omega)) ?_
      try simp only [List.map_cons, List.map_nil, List.length_cons, List.length_nil, ylr_s, ylr_0, Nat.reduceAdd, Nat.reduceSub, List.cons_append, List.nil_append, List.set_cons_zero, List.set_cons_succ, Option.toList_none, Option.toList_some, Int32.reduceToInt, yu, ya, reduceIte, Nat.reduceEqDiff, Int.toNat_natCast, Int.reduceToNat]
      refine ygo 99999 90 rfl rfl (by first | exact trivial | (simp only [true_and, eq_self, or_true, true_or, and_true, yu, ya, reduceIte, Nat.reduceEqDiff, Int32.reduceToInt, Int.toNat_natCast, Int.reduceToNat]; omega) | decide | (simp; done) | (simp; omega)) ?_
      try simp only [List.map_cons, List.map_nil, List.length_cons, List.length_nil, ylr_s, ylr_0, Nat.reduceAdd, Nat.reduceSub, List.cons_append, List.nil_append, List.set_cons_zero, List.set_cons_succ, Option.toList_none, Option.toList_some, Int32.reduceToInt, yu, ya, reduceIte, Nat.reduceEqDiff, Int.toNat_natCast, Int.reduceToNat]
      refine ycV rfl rfl rfl (cm_hereB (i := fr + r * 6 + 1) (hB'.fk rfl rfl) (by omega) g2) rfl kX9_here iX9_here rfl rfl rfl (Nat.le_of_ble_eq_true rfl) (fun v3 Y3 q3 => ?_)
      obtain ⟨rfl, rfl⟩ := q3
      refine ygo 99999 90 rfl rfl (by first | exact trivial | (simp only [true_and, eq_self, or_true, true_or, and_true, yu, ya, reduceIte, Nat.reduceEqDiff, Int32.reduceToInt, Int.toNat_natCast, Int.reduceToNat]; omega) | decide | (simp; done) | (simp; omega)) ?_
      try simp only [List.map_cons, List.map_nil, List.length_cons, List.length_nil, ylr_s, ylr_0, Nat.reduceAdd, Nat.reduceSub, List.cons_append, List.nil_append, List.set_cons_zero, List.set_cons_succ, Option.toList_none, Option.toList_some, Int32.reduceToInt, yu, ya, reduceIte, Nat.reduceEqDiff, Int.toNat_natCast, Int.reduceToNat]
      refine ycV rfl rfl rfl (cm_hereB (i := fr + r * 6 + 3) (hB'.fk rfl rfl) (by omega) g4) rfl kX9_here iX9_here rfl rfl rfl (Nat.le_of_ble_eq_true rfl) (fun v4 Y4 q4 => ?_)
      obtain ⟨rfl, rfl⟩ := q4
      rw [e1, iof, iof]
      refine ygo 99999 90 rfl rfl (by first | exact trivial | (simp only [true_and, eq_self, or_true, true_or, and_true, yu, ya, reduceIte, Nat.reduceEqDiff, Int32.reduceToInt, Int.toNat_natCast, Int.reduceToNat]; omega) | decide | (simp; done) | (simp; omega)) ?_
      try simp only [List.map_cons, List.map_nil, List.length_cons, List.length_nil, ylr_s, ylr_0, Nat.reduceAdd, Nat.reduceSub, List.cons_append, List.nil_append, List.set_cons_zero, List.set_cons_succ, Option.toList_none, Option.toList_some, Int32.reduceToInt, yu, ya, reduceIte, Nat.reduceEqDiff, Int.toNat_natCast, Int.reduceToNat]
      refine ycV rfl rfl rfl (cm_unpack (e := n) (r := r) (p := p) (lr := w.2.2.length) (pq := w.2.1) (F := w.2.2) (hB'.fk rfl rfl) hez hr rfl hll hp hn (by omega) g5 rfl g8 (by omega)) rfl kX9_unpack iX9_unpack rfl rfl rfl (Nat.le_of_ble_eq_true rfl) (fun v5 Y5 q5 => ?_)
      obtain ⟨rfl, u1, u2⟩ := q5
      obtain ⟨f5, A5⟩ := Y5
      dsimp only at u1 u2
      subst u1
      have hf5 := hf.put hw hn (by omega) h120 u2
      refine ygo 99999 90 rfl rfl (by first | exact trivial | (simp only [true_and, eq_self, or_true, true_or, and_true, yu, ya, reduceIte, Nat.reduceEqDiff, Int32.reduceToInt, Int.toNat_natCast, Int.reduceToNat]; omega) | decide | (simp; done) | (simp; omega)) ?_
      try simp only [List.map_cons, List.map_nil, List.length_cons, List.length_nil, ylr_s, ylr_0, Nat.reduceAdd, Nat.reduceSub, List.cons_append, List.nil_append, List.set_cons_zero, List.set_cons_succ, Option.toList_none, Option.toList_some, Int32.reduceToInt, yu, ya, reduceIte, Nat.reduceEqDiff, Int.toNat_natCast, Int.reduceToNat]
      refine ycV rfl rfl rfl (cm_hereB (i := fr + r * 6 + 5) (hB.fk rfl (hf5.1 20 (by omega) (by omega) (by omega))) (by omega) g7) rfl kX9_here iX9_here rfl rfl rfl (Nat.le_of_ble_eq_true rfl) (fun v6 Y6 q6 => ?_)
      obtain ⟨rfl, rfl⟩ := q6
      refine ygo 126 90 rfl rfl (by first | exact trivial | (simp only [true_and, eq_self, or_true, true_or, and_true, yu, ya, reduceIte, Nat.reduceEqDiff, Int32.reduceToInt, Int.toNat_natCast, Int.reduceToNat]; omega) | decide | (simp; done) | (simp; omega)) ?_
      try simp only [List.map_cons, List.map_nil, List.length_cons, List.length_nil, ylr_s, ylr_0, Nat.reduceAdd, Nat.reduceSub, List.cons_append, List.nil_append, List.set_cons_zero, List.set_cons_succ, Option.toList_none, Option.toList_some, Int32.reduceToInt, yu, ya, reduceIte, Nat.reduceEqDiff, Int.toNat_natCast, Int.reduceToNat]
      exact ih (r + 1) (p + z) _ _ _ A5 (by omega) (by omega) (by omega) (by omega) g9 hf5
