/-- the reference's cells that keep an entry's content: as far as seals and rows' keys go -/
def mEc (e : Nat) (K : cV) (A : Nat → List Int32) : Prop := (A 42).getD e 0 = nI K.2.2.1.length ∧ (∀ (i : Nat) (x : Int32), K.2.2.1[i]? = some x → (A 43).getD (4 * e + i) 0 = x) ∧ (A 44).getD e 0 = nI K.2.2.2.length ∧ (∀ (i : Nat) (x : Int32 × Int32 × List Int32), K.2.2.2[i]? = some x → (A 45).getD (8 * e + i) 0 = x.1)
set_option maxRecDepth 100000 in
set_option maxHeartbeats 2000000 in
theorem l_seals {G : xG} {d a e : Nat} {K : cV} {g : Int32} {ez : Int} {f : Nat → Int} {A : Nat → List Int32} (h : mEc e K A) (he : ez = e) (he12 : e < 12) (hl : K.2.2.1.length ≤ 4) : ∀ (m k : Nat) (sz kz : Int), k + m = K.2.2.1.length → kz = k → sz = bInt ((K.2.2.1.take k).any (fun x => x == g)) →
    yw G d a mX9_seals 5 [some (.inr 0), some (.inl ez), some (.inl g.toInt), some (.inl sz), some (.inl kz)] [] (f, A) (fun w Y' => w = some (.inl (bInt (K.2.2.1.any (fun x => x == g)))) ∧ Y' = (f, A)) := by
  refine fun m => ?_
  have het : ez.toNat = e := by omega
  have hlen : ((A 42).getD e 0).toInt = K.2.2.1.length := by rw [h.1, i_n (by omega)]
  induction m with
  | zero =>
    intro k sz kz hk hkz hs
    have hkl : k = K.2.2.1.length := by omega
    rw [hkl, List.take_length] at hs
    have hb := bInt_01 (K.2.2.1.any (fun x => x == g))
    refine ygo 99999 90 rfl rfl (by (simp only [true_and, het]; omega)) ?_
    try simp only [List.map_cons, List.map_nil, List.length_cons, List.length_nil, ylr_s, ylr_0, Nat.reduceAdd, Nat.reduceSub, List.cons_append, List.nil_append, List.set_cons_zero, List.set_cons_succ, Option.toList_none, Option.toList_some, Int32.reduceToInt, yu, ya, reduceIte, Nat.reduceEqDiff, Int.toNat_natCast, Int.reduceToNat]
    refine yi_icmpge rfl (by refine ⟨?_, ?_⟩ <;> first | exact yr_t _ | exact yr_b _ | (unfold yr; omega)) (fun c => ?_) (fun c => ?_)
    · refine ygo 99999 90 rfl rfl (by first | exact trivial | (simp only [true_and, eq_self, or_true, true_or, and_true, yu, ya, reduceIte, Nat.reduceEqDiff, Int32.reduceToInt, Int.toNat_natCast, Int.reduceToNat]; omega) | decide | (simp; done) | (simp; omega)) ?_
      try simp only [List.map_cons, List.map_nil, List.length_cons, List.length_nil, ylr_s, ylr_0, Nat.reduceAdd, Nat.reduceSub, List.cons_append, List.nil_append, List.set_cons_zero, List.set_cons_succ, Option.toList_none, Option.toList_some, Int32.reduceToInt, yu, ya, reduceIte, Nat.reduceEqDiff, Int.toNat_natCast, Int.reduceToNat]
      refine yi_ret_z rfl rfl (by omega) ⟨by rw [hs], rfl⟩
    · rw [het, hlen] at c; omega
  | succ m ih =>
    intro k sz kz hk hkz hs
    obtain ⟨x, hx⟩ := lt_get (l := K.2.2.1) (j := k) (by omega)
    have hg : (A 43).getD (4 * e + k) 0 = x := h.2.1 k x hx
    have hb := bInt_01 ((K.2.2.1.take k).any (fun x => x == g))
    have hi : (4 * ez + kz).toNat = 4 * e + k := by omega
    have hst : (K.2.2.1.take (k + 1)).any (fun x => x == g) = ((K.2.2.1.take k).any (fun x => x == g) || x == g) := by
      rw [List.take_succ, hx]
      simp
    refine ygo 99999 90 rfl rfl (by (simp only [true_and, het]; omega)) ?_
    try simp only [List.map_cons, List.map_nil, List.length_cons, List.length_nil, ylr_s, ylr_0, Nat.reduceAdd, Nat.reduceSub, List.cons_append, List.nil_append, List.set_cons_zero, List.set_cons_succ, Option.toList_none, Option.toList_some, Int32.reduceToInt, yu, ya, reduceIte, Nat.reduceEqDiff, Int.toNat_natCast, Int.reduceToNat]
    refine yi_icmpge rfl (by refine ⟨?_, ?_⟩ <;> first | exact yr_t _ | exact yr_b _ | (unfold yr; omega)) (fun c => ?_) (fun c => ?_)
    · rw [het, hlen] at c; omega
    refine ygo 99999 90 rfl rfl (by first | exact trivial | (simp only [true_and, eq_self, or_true, true_or, and_true, yu, ya, reduceIte, Nat.reduceEqDiff, Int32.reduceToInt, Int.toNat_natCast, Int.reduceToNat]; omega) | decide | (simp; done) | (simp; omega)) ?_
    try simp only [List.map_cons, List.map_nil, List.length_cons, List.length_nil, ylr_s, ylr_0, Nat.reduceAdd, Nat.reduceSub, List.cons_append, List.nil_append, List.set_cons_zero, List.set_cons_succ, Option.toList_none, Option.toList_some, Int32.reduceToInt, yu, ya, reduceIte, Nat.reduceEqDiff, Int.toNat_natCast, Int.reduceToNat]
    refine yi_ifne rfl (by first | exact yr_t _ | exact yr_b _ | (unfold yr; omega)) (fun c2 => ?_) (fun c2 => ?_)
    · rw [hs, bInt_z, Bool.not_eq_false] at c2
      refine ygo 5 90 rfl rfl (by first | exact trivial | (simp only [true_and, eq_self, or_true, true_or, and_true, yu, ya, reduceIte, Nat.reduceEqDiff, Int32.reduceToInt, Int.toNat_natCast, Int.reduceToNat]; omega) | decide | (simp; done) | (simp; omega)) ?_
      try simp only [List.map_cons, List.map_nil, List.length_cons, List.length_nil, ylr_s, ylr_0, Nat.reduceAdd, Nat.reduceSub, List.cons_append, List.nil_append, List.set_cons_zero, List.set_cons_succ, Option.toList_none, Option.toList_some, Int32.reduceToInt, yu, ya, reduceIte, Nat.reduceEqDiff, Int.toNat_natCast, Int.reduceToNat]
      exact ih (k + 1) 1 _ (by omega) (by omega) (by rw [hst, c2]; rfl)
    rw [hs, bInt_z] at c2
    refine ygo 99999 90 rfl rfl (by first | exact trivial | (simp only [true_and, eq_self, or_true, true_or, and_true, yu, ya, reduceIte, Nat.reduceEqDiff, Int32.reduceToInt, Int.toNat_natCast, Int.reduceToNat]; omega) | decide | (simp; done) | (simp; omega)) ?_
    try simp only [List.map_cons, List.map_nil, List.length_cons, List.length_nil, ylr_s, ylr_0, Nat.reduceAdd, Nat.reduceSub, List.cons_append, List.nil_append, List.set_cons_zero, List.set_cons_succ, Option.toList_none, Option.toList_some, Int32.reduceToInt, yu, ya, reduceIte, Nat.reduceEqDiff, Int.toNat_natCast, Int.reduceToNat]
    refine yi_icmpne rfl (by refine ⟨?_, ?_⟩ <;> first | exact yr_t _ | exact yr_b _ | (unfold yr; omega)) (fun c3 => ?_) (fun c3 => ?_)
    · rw [hi, hg, ti] at c3
      refine ygo 5 90 rfl rfl (by first | exact trivial | (simp only [true_and, eq_self, or_true, true_or, and_true, yu, ya, reduceIte, Nat.reduceEqDiff, Int32.reduceToInt, Int.toNat_natCast, Int.reduceToNat]; omega) | decide | (simp; done) | (simp; omega)) ?_
      try simp only [List.map_cons, List.map_nil, List.length_cons, List.length_nil, ylr_s, ylr_0, Nat.reduceAdd, Nat.reduceSub, List.cons_append, List.nil_append, List.set_cons_zero, List.set_cons_succ, Option.toList_none, Option.toList_some, Int32.reduceToInt, yu, ya, reduceIte, Nat.reduceEqDiff, Int.toNat_natCast, Int.reduceToNat]
      exact ih (k + 1) 0 _ (by omega) (by omega) (by rw [hst, c2, beq_eq_false_iff_ne.mpr c3]; rfl)
    · rw [hi, hg, ti] at c3
      refine ygo 5 90 rfl rfl (by first | exact trivial | (simp only [true_and, eq_self, or_true, true_or, and_true, yu, ya, reduceIte, Nat.reduceEqDiff, Int32.reduceToInt, Int.toNat_natCast, Int.reduceToNat]; omega) | decide | (simp; done) | (simp; omega)) ?_
      try simp only [List.map_cons, List.map_nil, List.length_cons, List.length_nil, ylr_s, ylr_0, Nat.reduceAdd, Nat.reduceSub, List.cons_append, List.nil_append, List.set_cons_zero, List.set_cons_succ, Option.toList_none, Option.toList_some, Int32.reduceToInt, yu, ya, reduceIte, Nat.reduceEqDiff, Int.toNat_natCast, Int.reduceToNat]
      exact ih (k + 1) 1 _ (by omega) (by omega) (by rw [hst, c2, c3]; simp [bInt])
set_option maxRecDepth 100000 in
set_option maxHeartbeats 2000000 in
theorem cm_seals {G : xG} {d a e : Nat} {K : cV} {g : Int32} {ez gz : Int} {f : Nat → Int} {A : Nat → List Int32} (h : mEc e K A) (he : ez = e) (hgz : gz = g.toInt) (he12 : e < 12) (hl : K.2.2.1.length ≤ 4) : ym G d a mX9_seals [.inr 0, .inl ez, .inl gz] (f, A) (fun w Y' => w = some (.inl (bInt (K.2.2.1.any (fun x => x == g)))) ∧ Y' = (f, A)) := by
  subst hgz
  refine ym_at 5 rfl (by decide) (Nat.le_of_ble_eq_true rfl) tX9_seals_ok ?_
  try simp only [List.map_cons, List.map_nil, List.length_cons, List.length_nil, ylr_s, ylr_0, Nat.reduceAdd, Nat.reduceSub, List.cons_append, List.nil_append, List.set_cons_zero, List.set_cons_succ, Option.toList_none, Option.toList_some, Int32.reduceToInt, yu, ya, reduceIte, Nat.reduceEqDiff, Int.toNat_natCast, Int.reduceToNat]
  refine ygo 5 90 rfl rfl (by first | exact trivial | (simp only [true_and, eq_self, or_true, true_or, and_true, yu, ya, reduceIte, Nat.reduceEqDiff, Int32.reduceToInt, Int.toNat_natCast, Int.reduceToNat]; omega) | decide | (simp; done) | (simp; omega)) ?_
  try simp only [List.map_cons, List.map_nil, List.length_cons, List.length_nil, ylr_s, ylr_0, Nat.reduceAdd, Nat.reduceSub, List.cons_append, List.nil_append, List.set_cons_zero, List.set_cons_succ, Option.toList_none, Option.toList_some, Int32.reduceToInt, yu, ya, reduceIte, Nat.reduceEqDiff, Int.toNat_natCast, Int.reduceToNat]
  exact l_seals h he he12 hl K.2.2.1.length 0 0 0 (by omega) rfl rfl
theorem dv16 {x : Int32} (h : blw x 256) : (x / 16).toInt = x.toInt / 16 := by
  have h1 : x.toInt / 16 = x.toInt.tdiv 16 := (Int.tdiv_eq_ediv_of_nonneg h.1).symm
  rw [h1]
  have := Int32.toInt_div_of_ne_right x 16 (by decide)
  exact this
set_option maxRecDepth 100000 in
set_option maxHeartbeats 2000000 in
theorem l_hasRowOf {G : xG} {d a e : Nat} {K : cV} {g : Int32} {ez : Int} {f : Nat → Int} {A : Nat → List Int32} (h : mEc e K A) (he : ez = e) (he12 : e < 12) (hl : K.2.2.2.length ≤ 8) (hb : ∀ x ∈ K.2.2.2, blw x.1 256) : ∀ (m k : Nat) (sz kz : Int), k + m = K.2.2.2.length → kz = k → sz = bInt ((K.2.2.2.take k).any (fun x => x.1 / 16 == g)) →
    yw G d a mX9_hasRowOf 5 [some (.inr 0), some (.inl ez), some (.inl g.toInt), some (.inl sz), some (.inl kz)] [] (f, A) (fun w Y' => w = some (.inl (bInt (K.2.2.2.any (fun x => x.1 / 16 == g)))) ∧ Y' = (f, A)) := by
  refine fun m => ?_
  have het : ez.toNat = e := by omega
  have hlen : ((A 44).getD e 0).toInt = K.2.2.2.length := by rw [h.2.2.1, i_n (by omega)]
  induction m with
  | zero =>
    intro k sz kz hk hkz hs
    have hkl : k = K.2.2.2.length := by omega
    rw [hkl, List.take_length] at hs
    have hb := bInt_01 (K.2.2.2.any (fun x => x.1 / 16 == g))
    refine ygo 99999 90 rfl rfl (by (simp only [true_and, het]; omega)) ?_
    try simp only [List.map_cons, List.map_nil, List.length_cons, List.length_nil, ylr_s, ylr_0, Nat.reduceAdd, Nat.reduceSub, List.cons_append, List.nil_append, List.set_cons_zero, List.set_cons_succ, Option.toList_none, Option.toList_some, Int32.reduceToInt, yu, ya, reduceIte, Nat.reduceEqDiff, Int.toNat_natCast, Int.reduceToNat]
    refine yi_icmpge rfl (by refine ⟨?_, ?_⟩ <;> first | exact yr_t _ | exact yr_b _ | (unfold yr; omega)) (fun c => ?_) (fun c => ?_)
    · refine ygo 99999 90 rfl rfl (by first | exact trivial | (simp only [true_and, eq_self, or_true, true_or, and_true, yu, ya, reduceIte, Nat.reduceEqDiff, Int32.reduceToInt, Int.toNat_natCast, Int.reduceToNat]; omega) | decide | (simp; done) | (simp; omega)) ?_
      try simp only [List.map_cons, List.map_nil, List.length_cons, List.length_nil, ylr_s, ylr_0, Nat.reduceAdd, Nat.reduceSub, List.cons_append, List.nil_append, List.set_cons_zero, List.set_cons_succ, Option.toList_none, Option.toList_some, Int32.reduceToInt, yu, ya, reduceIte, Nat.reduceEqDiff, Int.toNat_natCast, Int.reduceToNat]
      refine yi_ret_z rfl rfl (by omega) ⟨by rw [hs], rfl⟩
    · rw [het, hlen] at c; omega
  | succ m ih =>
    intro k sz kz hk hkz hs
    obtain ⟨x, hx⟩ := lt_get (l := K.2.2.2) (j := k) (by omega)
    have hg : (A 45).getD (8 * e + k) 0 = x.1 := h.2.2.2 k x hx
    have hxb := hb x (List.mem_of_getElem? hx)
    have hxb1 := hxb.1
    have hb := bInt_01 ((K.2.2.2.take k).any (fun x => x.1 / 16 == g))
    have hi : (8 * ez + kz).toNat = 8 * e + k := by omega
    have hst : (K.2.2.2.take (k + 1)).any (fun x => x.1 / 16 == g) = ((K.2.2.2.take k).any (fun x => x.1 / 16 == g) || x.1 / 16 == g) := by
      rw [List.take_succ, hx]
      simp
    refine ygo 99999 90 rfl rfl (by (simp only [true_and, het]; omega)) ?_
    try simp only [List.map_cons, List.map_nil, List.length_cons, List.length_nil, ylr_s, ylr_0, Nat.reduceAdd, Nat.reduceSub, List.cons_append, List.nil_append, List.set_cons_zero, List.set_cons_succ, Option.toList_none, Option.toList_some, Int32.reduceToInt, yu, ya, reduceIte, Nat.reduceEqDiff, Int.toNat_natCast, Int.reduceToNat]
    refine yi_icmpge rfl (by refine ⟨?_, ?_⟩ <;> first | exact yr_t _ | exact yr_b _ | (unfold yr; omega)) (fun c => ?_) (fun c => ?_)
    · rw [het, hlen] at c; omega
    refine ygo 99999 90 rfl rfl (by first | exact trivial | (simp only [true_and, eq_self, or_true, true_or, and_true, yu, ya, reduceIte, Nat.reduceEqDiff, Int32.reduceToInt, Int.toNat_natCast, Int.reduceToNat]; omega) | decide | (simp; done) | (simp; omega)) ?_
    try simp only [List.map_cons, List.map_nil, List.length_cons, List.length_nil, ylr_s, ylr_0, Nat.reduceAdd, Nat.reduceSub, List.cons_append, List.nil_append, List.set_cons_zero, List.set_cons_succ, Option.toList_none, Option.toList_some, Int32.reduceToInt, yu, ya, reduceIte, Nat.reduceEqDiff, Int.toNat_natCast, Int.reduceToNat]
    refine yi_ifne rfl (by first | exact yr_t _ | exact yr_b _ | (unfold yr; omega)) (fun c2 => ?_) (fun c2 => ?_)
    · rw [hs, bInt_z, Bool.not_eq_false] at c2
      refine ygo 5 90 rfl rfl (by first | exact trivial | (simp only [true_and, eq_self, or_true, true_or, and_true, yu, ya, reduceIte, Nat.reduceEqDiff, Int32.reduceToInt, Int.toNat_natCast, Int.reduceToNat]; omega) | decide | (simp; done) | (simp; omega)) ?_
      try simp only [List.map_cons, List.map_nil, List.length_cons, List.length_nil, ylr_s, ylr_0, Nat.reduceAdd, Nat.reduceSub, List.cons_append, List.nil_append, List.set_cons_zero, List.set_cons_succ, Option.toList_none, Option.toList_some, Int32.reduceToInt, yu, ya, reduceIte, Nat.reduceEqDiff, Int.toNat_natCast, Int.reduceToNat]
      exact ih (k + 1) 1 _ (by omega) (by omega) (by rw [hst, c2]; rfl)
    rw [hs, bInt_z] at c2
    have hgz : 0 ≤ ((A 45).getD (8 * ez + kz).toNat 0).toInt ∧ ((A 45).getD (8 * ez + kz).toNat 0).toInt < 256 := by rw [hi, hg]; exact hxb
    refine ygo 99999 90 rfl rfl (by first | exact trivial | (simp only [true_and, eq_self, or_true, true_or, and_true, yu, ya, reduceIte, Nat.reduceEqDiff, Int32.reduceToInt, Int.toNat_natCast, Int.reduceToNat]; omega) | decide | (simp; done) | (simp; omega)) ?_
    try simp only [List.map_cons, List.map_nil, List.length_cons, List.length_nil, ylr_s, ylr_0, Nat.reduceAdd, Nat.reduceSub, List.cons_append, List.nil_append, List.set_cons_zero, List.set_cons_succ, Option.toList_none, Option.toList_some, Int32.reduceToInt, yu, ya, reduceIte, Nat.reduceEqDiff, Int.toNat_natCast, Int.reduceToNat]
    refine yi_icmpne rfl (by refine ⟨?_, ?_⟩ <;> first | exact yr_t _ | exact yr_b _ | (unfold yr; omega)) (fun c3 => ?_) (fun c3 => ?_)
    · rw [hi, hg, ← dv16 hxb, ti] at c3
      refine ygo 5 90 rfl rfl (by first | exact trivial | (simp only [true_and, eq_self, or_true, true_or, and_true, yu, ya, reduceIte, Nat.reduceEqDiff, Int32.reduceToInt, Int.toNat_natCast, Int.reduceToNat]; omega) | decide | (simp; done) | (simp; omega)) ?_
      try simp only [List.map_cons, List.map_nil, List.length_cons, List.length_nil, ylr_s, ylr_0, Nat.reduceAdd, Nat.reduceSub, List.cons_append, List.nil_append, List.set_cons_zero, List.set_cons_succ, Option.toList_none, Option.toList_some, Int32.reduceToInt, yu, ya, reduceIte, Nat.reduceEqDiff, Int.toNat_natCast, Int.reduceToNat]
      exact ih (k + 1) 0 _ (by omega) (by omega) (by rw [hst, c2, beq_eq_false_iff_ne.mpr c3]; rfl)
    · rw [hi, hg, ← dv16 hxb, ti] at c3
      refine ygo 5 90 rfl rfl (by first | exact trivial | (simp only [true_and, eq_self, or_true, true_or, and_true, yu, ya, reduceIte, Nat.reduceEqDiff, Int32.reduceToInt, Int.toNat_natCast, Int.reduceToNat]; omega) | decide | (simp; done) | (simp; omega)) ?_
      try simp only [List.map_cons, List.map_nil, List.length_cons, List.length_nil, ylr_s, ylr_0, Nat.reduceAdd, Nat.reduceSub, List.cons_append, List.nil_append, List.set_cons_zero, List.set_cons_succ, Option.toList_none, Option.toList_some, Int32.reduceToInt, yu, ya, reduceIte, Nat.reduceEqDiff, Int.toNat_natCast, Int.reduceToNat]
      exact ih (k + 1) 1 _ (by omega) (by omega) (by rw [hst, c2, c3]; simp [bInt])
set_option maxRecDepth 100000 in
set_option maxHeartbeats 2000000 in
theorem cm_hasRowOf {G : xG} {d a e : Nat} {K : cV} {g : Int32} {ez gz : Int} {f : Nat → Int} {A : Nat → List Int32} (h : mEc e K A) (he : ez = e) (hgz : gz = g.toInt) (he12 : e < 12) (hl : K.2.2.2.length ≤ 8) (hb : ∀ x ∈ K.2.2.2, blw x.1 256) : ym G d a mX9_hasRowOf [.inr 0, .inl ez, .inl gz] (f, A) (fun w Y' => w = some (.inl (bInt (K.2.2.2.any (fun x => x.1 / 16 == g)))) ∧ Y' = (f, A)) := by
  subst hgz
  refine ym_at 5 rfl (by decide) (Nat.le_of_ble_eq_true rfl) tX9_hasRowOf_ok ?_
  try simp only [List.map_cons, List.map_nil, List.length_cons, List.length_nil, ylr_s, ylr_0, Nat.reduceAdd, Nat.reduceSub, List.cons_append, List.nil_append, List.set_cons_zero, List.set_cons_succ, Option.toList_none, Option.toList_some, Int32.reduceToInt, yu, ya, reduceIte, Nat.reduceEqDiff, Int.toNat_natCast, Int.reduceToNat]
  refine ygo 5 90 rfl rfl (by first | exact trivial | (simp only [true_and, eq_self, or_true, true_or, and_true, yu, ya, reduceIte, Nat.reduceEqDiff, Int32.reduceToInt, Int.toNat_natCast, Int.reduceToNat]; omega) | decide | (simp; done) | (simp; omega)) ?_
  try simp only [List.map_cons, List.map_nil, List.length_cons, List.length_nil, ylr_s, ylr_0, Nat.reduceAdd, Nat.reduceSub, List.cons_append, List.nil_append, List.set_cons_zero, List.set_cons_succ, Option.toList_none, Option.toList_some, Int32.reduceToInt, yu, ya, reduceIte, Nat.reduceEqDiff, Int.toNat_natCast, Int.reduceToNat]
  exact l_hasRowOf h he he12 hl hb K.2.2.2.length 0 0 0 (by omega) rfl rfl
