/-! ===== the reference: drafts ===== -/
def bInt (b : Bool) : Int := if b then 1 else 0
theorem bInt_01 (b : Bool) : bInt b = 0 ∨ bInt b = 1 := by cases b <;> decide
theorem yr_b (b : Bool) : yr (bInt b) := by cases b <;> (unfold yr; decide)
theorem bInt_z {b : Bool} : bInt b = 0 ↔ b = false := by cases b <;> decide
/-- its rows have their lengths -/
def yok (A : Nat → List Int32) : Prop := ∀ (k : Nat) (q : Nat × Nat × Nat), yarr.lookup k = some q → (A k).length = q.2.2
theorem ym.len {G : xG} {d a : Nat} {M : xM} {As : List yv} {f : Nat → Int} {A : Nat → List Int32} {Q : Option yv → yS → Prop} (h : yok A → ym G d a M As (f, A) Q) : ym G d a M As (f, A) Q := fun σ hm => h (fun k q hq => (hm.2 k q hq).2) σ hm
theorem yw.len {G : xG} {d a pc : Nat} {M : xM} {lo : yL} {st : List yv} {f : Nat → Int} {A : Nat → List Int32} {Q : Option yv → yS → Prop} (h : yok A → yw G d a M pc lo st (f, A) Q) : yw G d a M pc lo st (f, A) Q := fun σ hm => h (fun k q hq => (hm.2 k q hq).2) σ hm
theorem gset {l : List Int32} {i j : Nat} {x d : Int32} (hi : i < l.length) : (l.set i x).getD j d = if j = i then x else l.getD j d := by
  rw [List.getD_eq_getElem?_getD, List.getD_eq_getElem?_getD, List.getElem?_set]
  by_cases h : j = i
  · subst h; simp [hi]
  · rw [if_neg (fun e => h e.symm), if_neg h]
theorem gset_ne {l : List Int32} {i j : Nat} {x d : Int32} (h : j ≠ i) : (l.set i x).getD j d = l.getD j d := by
  rw [List.getD_eq_getElem?_getD, List.getD_eq_getElem?_getD, List.getElem?_set_ne (fun e => h e.symm)]
theorem gset_eq {l : List Int32} {i : Nat} {x d : Int32} (hi : i < l.length) : (l.set i x).getD i d = x := by
  rw [gset hi, if_pos rfl]
theorem any_ts {l : List Int32} {j : Nat} {p : Int32 → Bool} {d : Int32} (h : j < l.length) : (l.take (j + 1)).any p = ((l.take j).any p || p (l.getD j d)) := by
  have e := List.getElem?_eq_getElem h
  rw [List.take_succ, e, List.any_append, List.getD_eq_getElem?_getD, e]
  simp
theorem ti {x y : Int32} : x.toInt = y.toInt ↔ x = y := Int32.toInt_inj
theorem iof (z : Int32) : Int32.ofInt z.toInt = z := Int32.ofInt_toInt z
theorem iofn (n : Nat) : Int32.ofInt (n : Int) = nI n := Int32.ofInt_eq_ofNat
set_option maxRecDepth 100000 in
set_option maxHeartbeats 2000000 in
theorem l_has5 {G : xG} {d a n : Nat} {f : Nat → Int} {A : Nat → List Int32} {v : Int32} {nz vz : Int} (hn : nz = n) (hv : vz = v.toInt) (hn4 : n ≤ 4) (hl : (A 5).length = 4) : ∀ (m j : Nat) (is jz : Int), j + m = n → jz = j → is = bInt (((A 5).take j).any (fun x => x == v)) →
    yw G d a mX9_has 5 [some (.inr 6), some (.inl nz), some (.inl vz), some (.inl is), some (.inl jz)] [] (f, A) (fun r Y' => r = some (.inl (bInt (((A 5).take n).any (fun x => x == v)))) ∧ Y' = (f, A)) := by
  have hvr := i_rng v
  intro m
  induction m with
  | zero =>
    intro j is jz hj hjz his
    have hjn : j = n := by omega
    have hb := bInt_01 (((A 5).take j).any (fun x => x == v))
    refine ygo 99999 90 rfl rfl (by first | exact trivial | (simp only [true_and, yu, ya, reduceIte, Nat.reduceEqDiff, Int32.reduceToInt, Int.toNat_natCast, Int.reduceToNat]; omega) | decide | (simp; done)) ?_
    try simp only [List.map_cons, List.map_nil, List.length_cons, List.length_nil, ylr_s, ylr_0, Nat.reduceAdd, Nat.reduceSub, List.cons_append, List.nil_append, List.set_cons_zero, List.set_cons_succ, Option.toList_none, Option.toList_some, Int32.reduceToInt, yu, ya, reduceIte, Nat.reduceEqDiff, Int.toNat_natCast, Int.reduceToNat]
    refine yi_icmpge rfl (by refine ⟨?_, ?_⟩ <;> first | exact yr_t _ | exact yr_b _ | (unfold yr; omega)) (fun c => ?_) (fun c => ?_)
    · refine ygo 99999 90 rfl rfl (by first | exact trivial | (simp only [true_and, yu, ya, reduceIte, Nat.reduceEqDiff, Int32.reduceToInt, Int.toNat_natCast, Int.reduceToNat]; omega) | decide | (simp; done)) ?_
      try simp only [List.map_cons, List.map_nil, List.length_cons, List.length_nil, ylr_s, ylr_0, Nat.reduceAdd, Nat.reduceSub, List.cons_append, List.nil_append, List.set_cons_zero, List.set_cons_succ, Option.toList_none, Option.toList_some, Int32.reduceToInt, yu, ya, reduceIte, Nat.reduceEqDiff, Int.toNat_natCast, Int.reduceToNat]
      refine yi_ret_z rfl rfl (by omega) ⟨by rw [his, hjn], rfl⟩
    · omega
  | succ m ih =>
    intro j is jz hj hjz his
    have hts := any_ts (l := A 5) (j := j) (p := fun x => x == v) (d := 0) (by omega)
    have hb := bInt_01 (((A 5).take j).any (fun x => x == v))
    refine ygo 99999 90 rfl rfl (by first | exact trivial | (simp only [true_and, yu, ya, reduceIte, Nat.reduceEqDiff, Int32.reduceToInt, Int.toNat_natCast, Int.reduceToNat]; omega) | decide | (simp; done)) ?_
    try simp only [List.map_cons, List.map_nil, List.length_cons, List.length_nil, ylr_s, ylr_0, Nat.reduceAdd, Nat.reduceSub, List.cons_append, List.nil_append, List.set_cons_zero, List.set_cons_succ, Option.toList_none, Option.toList_some, Int32.reduceToInt, yu, ya, reduceIte, Nat.reduceEqDiff, Int.toNat_natCast, Int.reduceToNat]
    refine yi_icmpge rfl (by refine ⟨?_, ?_⟩ <;> first | exact yr_t _ | exact yr_b _ | (unfold yr; omega)) (fun c => ?_) (fun c => ?_)
    · omega
    refine ygo 99999 90 rfl rfl (by first | exact trivial | (simp only [true_and, yu, ya, reduceIte, Nat.reduceEqDiff, Int32.reduceToInt, Int.toNat_natCast, Int.reduceToNat]; omega) | decide | (simp; done)) ?_
    try simp only [List.map_cons, List.map_nil, List.length_cons, List.length_nil, ylr_s, ylr_0, Nat.reduceAdd, Nat.reduceSub, List.cons_append, List.nil_append, List.set_cons_zero, List.set_cons_succ, Option.toList_none, Option.toList_some, Int32.reduceToInt, yu, ya, reduceIte, Nat.reduceEqDiff, Int.toNat_natCast, Int.reduceToNat]
    refine yi_ifne rfl (by first | exact yr_t _ | exact yr_b _ | (unfold yr; omega)) (fun c2 => ?_) (fun c2 => ?_)
    · refine ygo 5 90 rfl rfl (by first | exact trivial | (simp only [true_and, yu, ya, reduceIte, Nat.reduceEqDiff, Int32.reduceToInt, Int.toNat_natCast, Int.reduceToNat]; omega) | decide | (simp; done)) ?_
      try simp only [List.map_cons, List.map_nil, List.length_cons, List.length_nil, ylr_s, ylr_0, Nat.reduceAdd, Nat.reduceSub, List.cons_append, List.nil_append, List.set_cons_zero, List.set_cons_succ, Option.toList_none, Option.toList_some, Int32.reduceToInt, yu, ya, reduceIte, Nat.reduceEqDiff, Int.toNat_natCast, Int.reduceToNat]
      refine ih (j + 1) 1 _ (by omega) (by omega) ?_
      rw [his, bInt_z, Bool.not_eq_false] at c2
      rw [hts, c2]
      rfl
    rw [his, bInt_z] at c2
    have hjt : jz.toNat = j := by omega
    refine ygo 99999 90 rfl rfl (by first | exact trivial | (simp only [true_and, yu, ya, reduceIte, Nat.reduceEqDiff, Int32.reduceToInt, Int.toNat_natCast, Int.reduceToNat]; omega) | decide | (simp; done)) ?_
    try simp only [List.map_cons, List.map_nil, List.length_cons, List.length_nil, ylr_s, ylr_0, Nat.reduceAdd, Nat.reduceSub, List.cons_append, List.nil_append, List.set_cons_zero, List.set_cons_succ, Option.toList_none, Option.toList_some, Int32.reduceToInt, yu, ya, reduceIte, Nat.reduceEqDiff, Int.toNat_natCast, Int.reduceToNat]
    refine yi_icmpne rfl (by refine ⟨?_, ?_⟩ <;> first | exact yr_t _ | exact yr_b _ | (unfold yr; omega)) (fun c3 => ?_) (fun c3 => ?_)
    · refine ygo 5 90 rfl rfl (by first | exact trivial | (simp only [true_and, yu, ya, reduceIte, Nat.reduceEqDiff, Int32.reduceToInt, Int.toNat_natCast, Int.reduceToNat]; omega) | decide | (simp; done)) ?_
      try simp only [List.map_cons, List.map_nil, List.length_cons, List.length_nil, ylr_s, ylr_0, Nat.reduceAdd, Nat.reduceSub, List.cons_append, List.nil_append, List.set_cons_zero, List.set_cons_succ, Option.toList_none, Option.toList_some, Int32.reduceToInt, yu, ya, reduceIte, Nat.reduceEqDiff, Int.toNat_natCast, Int.reduceToNat]
      refine ih (j + 1) 0 _ (by omega) (by omega) ?_
      rw [hv, hjt, ti] at c3
      rw [hts, c2]
      rw [beq_eq_false_iff_ne.mpr c3]
      rfl
    · refine ygo 5 90 rfl rfl (by first | exact trivial | (simp only [true_and, yu, ya, reduceIte, Nat.reduceEqDiff, Int32.reduceToInt, Int.toNat_natCast, Int.reduceToNat]; omega) | decide | (simp; done)) ?_
      try simp only [List.map_cons, List.map_nil, List.length_cons, List.length_nil, ylr_s, ylr_0, Nat.reduceAdd, Nat.reduceSub, List.cons_append, List.nil_append, List.set_cons_zero, List.set_cons_succ, Option.toList_none, Option.toList_some, Int32.reduceToInt, yu, ya, reduceIte, Nat.reduceEqDiff, Int.toNat_natCast, Int.reduceToNat]
      refine ih (j + 1) 1 _ (by omega) (by omega) ?_
      rw [hv, hjt, ti] at c3
      rw [hts, c3]
      simp [bInt]
set_option maxRecDepth 100000 in
set_option maxHeartbeats 2000000 in
theorem cm_has5 {G : xG} {d a n : Nat} {f : Nat → Int} {A : Nat → List Int32} {v : Int32} {nz vz : Int} (hn : nz = n) (hv : vz = v.toInt) (hn4 : n ≤ 4) : ym G d a mX9_has [.inr 6, .inl nz, .inl vz] (f, A) (fun r Y' => r = some (.inl (bInt (((A 5).take n).any (fun x => x == v)))) ∧ Y' = (f, A)) := by
  refine ym.len (fun hl => ?_)
  refine ym_at 5 rfl (by decide) (Nat.le_of_ble_eq_true rfl) tX9_has_ok ?_
  try simp only [List.map_cons, List.map_nil, List.length_cons, List.length_nil, ylr_s, ylr_0, Nat.reduceAdd, Nat.reduceSub, List.cons_append, List.nil_append, List.set_cons_zero, List.set_cons_succ, Option.toList_none, Option.toList_some, Int32.reduceToInt, yu, ya, reduceIte, Nat.reduceEqDiff, Int.toNat_natCast, Int.reduceToNat]
  refine ygo 5 90 rfl rfl (by first | exact trivial | (simp only [true_and, yu, ya, reduceIte, Nat.reduceEqDiff, Int32.reduceToInt, Int.toNat_natCast, Int.reduceToNat]; omega) | decide | (simp; done)) ?_
  try simp only [List.map_cons, List.map_nil, List.length_cons, List.length_nil, ylr_s, ylr_0, Nat.reduceAdd, Nat.reduceSub, List.cons_append, List.nil_append, List.set_cons_zero, List.set_cons_succ, Option.toList_none, Option.toList_some, Int32.reduceToInt, yu, ya, reduceIte, Nat.reduceEqDiff, Int.toNat_natCast, Int.reduceToNat]
  exact l_has5 hn hv hn4 (hl 5 _ rfl) n 0 0 0 (by omega) rfl (by simp [bInt])
set_option maxRecDepth 100000 in
set_option maxHeartbeats 2000000 in
theorem l_has9 {G : xG} {d a n : Nat} {f : Nat → Int} {A : Nat → List Int32} {v : Int32} {nz vz : Int} (hn : nz = n) (hv : vz = v.toInt) (hn4 : n ≤ 4) (hl : (A 9).length = 4) : ∀ (m j : Nat) (is jz : Int), j + m = n → jz = j → is = bInt (((A 9).take j).any (fun x => x == v)) →
    yw G d a mX9_has 5 [some (.inr 10), some (.inl nz), some (.inl vz), some (.inl is), some (.inl jz)] [] (f, A) (fun r Y' => r = some (.inl (bInt (((A 9).take n).any (fun x => x == v)))) ∧ Y' = (f, A)) := by
  have hvr := i_rng v
  intro m
  induction m with
  | zero =>
    intro j is jz hj hjz his
    have hjn : j = n := by omega
    have hb := bInt_01 (((A 9).take j).any (fun x => x == v))
    refine ygo 99999 90 rfl rfl (by first | exact trivial | (simp only [true_and, yu, ya, reduceIte, Nat.reduceEqDiff, Int32.reduceToInt, Int.toNat_natCast, Int.reduceToNat]; omega) | decide | (simp; done)) ?_
    try simp only [List.map_cons, List.map_nil, List.length_cons, List.length_nil, ylr_s, ylr_0, Nat.reduceAdd, Nat.reduceSub, List.cons_append, List.nil_append, List.set_cons_zero, List.set_cons_succ, Option.toList_none, Option.toList_some, Int32.reduceToInt, yu, ya, reduceIte, Nat.reduceEqDiff, Int.toNat_natCast, Int.reduceToNat]
    refine yi_icmpge rfl (by refine ⟨?_, ?_⟩ <;> first | exact yr_t _ | exact yr_b _ | (unfold yr; omega)) (fun c => ?_) (fun c => ?_)
    · refine ygo 99999 90 rfl rfl (by first | exact trivial | (simp only [true_and, yu, ya, reduceIte, Nat.reduceEqDiff, Int32.reduceToInt, Int.toNat_natCast, Int.reduceToNat]; omega) | decide | (simp; done)) ?_
      try simp only [List.map_cons, List.map_nil, List.length_cons, List.length_nil, ylr_s, ylr_0, Nat.reduceAdd, Nat.reduceSub, List.cons_append, List.nil_append, List.set_cons_zero, List.set_cons_succ, Option.toList_none, Option.toList_some, Int32.reduceToInt, yu, ya, reduceIte, Nat.reduceEqDiff, Int.toNat_natCast, Int.reduceToNat]
      refine yi_ret_z rfl rfl (by omega) ⟨by rw [his, hjn], rfl⟩
    · omega
  | succ m ih =>
    intro j is jz hj hjz his
    have hts := any_ts (l := A 9) (j := j) (p := fun x => x == v) (d := 0) (by omega)
    have hb := bInt_01 (((A 9).take j).any (fun x => x == v))
    refine ygo 99999 90 rfl rfl (by first | exact trivial | (simp only [true_and, yu, ya, reduceIte, Nat.reduceEqDiff, Int32.reduceToInt, Int.toNat_natCast, Int.reduceToNat]; omega) | decide | (simp; done)) ?_
    try simp only [List.map_cons, List.map_nil, List.length_cons, List.length_nil, ylr_s, ylr_0, Nat.reduceAdd, Nat.reduceSub, List.cons_append, List.nil_append, List.set_cons_zero, List.set_cons_succ, Option.toList_none, Option.toList_some, Int32.reduceToInt, yu, ya, reduceIte, Nat.reduceEqDiff, Int.toNat_natCast, Int.reduceToNat]
    refine yi_icmpge rfl (by refine ⟨?_, ?_⟩ <;> first | exact yr_t _ | exact yr_b _ | (unfold yr; omega)) (fun c => ?_) (fun c => ?_)
    · omega
    refine ygo 99999 90 rfl rfl (by first | exact trivial | (simp only [true_and, yu, ya, reduceIte, Nat.reduceEqDiff, Int32.reduceToInt, Int.toNat_natCast, Int.reduceToNat]; omega) | decide | (simp; done)) ?_
    try simp only [List.map_cons, List.map_nil, List.length_cons, List.length_nil, ylr_s, ylr_0, Nat.reduceAdd, Nat.reduceSub, List.cons_append, List.nil_append, List.set_cons_zero, List.set_cons_succ, Option.toList_none, Option.toList_some, Int32.reduceToInt, yu, ya, reduceIte, Nat.reduceEqDiff, Int.toNat_natCast, Int.reduceToNat]
    refine yi_ifne rfl (by first | exact yr_t _ | exact yr_b _ | (unfold yr; omega)) (fun c2 => ?_) (fun c2 => ?_)
    · refine ygo 5 90 rfl rfl (by first | exact trivial | (simp only [true_and, yu, ya, reduceIte, Nat.reduceEqDiff, Int32.reduceToInt, Int.toNat_natCast, Int.reduceToNat]; omega) | decide | (simp; done)) ?_
      try simp only [List.map_cons, List.map_nil, List.length_cons, List.length_nil, ylr_s, ylr_0, Nat.reduceAdd, Nat.reduceSub, List.cons_append, List.nil_append, List.set_cons_zero, List.set_cons_succ, Option.toList_none, Option.toList_some, Int32.reduceToInt, yu, ya, reduceIte, Nat.reduceEqDiff, Int.toNat_natCast, Int.reduceToNat]
      refine ih (j + 1) 1 _ (by omega) (by omega) ?_
      rw [his, bInt_z, Bool.not_eq_false] at c2
      rw [hts, c2]
      rfl
    rw [his, bInt_z] at c2
    have hjt : jz.toNat = j := by omega
    refine ygo 99999 90 rfl rfl (by first | exact trivial | (simp only [true_and, yu, ya, reduceIte, Nat.reduceEqDiff, Int32.reduceToInt, Int.toNat_natCast, Int.reduceToNat]; omega) | decide | (simp; done)) ?_
    try simp only [List.map_cons, List.map_nil, List.length_cons, List.length_nil, ylr_s, ylr_0, Nat.reduceAdd, Nat.reduceSub, List.cons_append, List.nil_append, List.set_cons_zero, List.set_cons_succ, Option.toList_none, Option.toList_some, Int32.reduceToInt, yu, ya, reduceIte, Nat.reduceEqDiff, Int.toNat_natCast, Int.reduceToNat]
    refine yi_icmpne rfl (by refine ⟨?_, ?_⟩ <;> first | exact yr_t _ | exact yr_b _ | (unfold yr; omega)) (fun c3 => ?_) (fun c3 => ?_)
    · refine ygo 5 90 rfl rfl (by first | exact trivial | (simp only [true_and, yu, ya, reduceIte, Nat.reduceEqDiff, Int32.reduceToInt, Int.toNat_natCast, Int.reduceToNat]; omega) | decide | (simp; done)) ?_
      try simp only [List.map_cons, List.map_nil, List.length_cons, List.length_nil, ylr_s, ylr_0, Nat.reduceAdd, Nat.reduceSub, List.cons_append, List.nil_append, List.set_cons_zero, List.set_cons_succ, Option.toList_none, Option.toList_some, Int32.reduceToInt, yu, ya, reduceIte, Nat.reduceEqDiff, Int.toNat_natCast, Int.reduceToNat]
      refine ih (j + 1) 0 _ (by omega) (by omega) ?_
      rw [hv, hjt, ti] at c3
      rw [hts, c2]
      rw [beq_eq_false_iff_ne.mpr c3]
      rfl
    · refine ygo 5 90 rfl rfl (by first | exact trivial | (simp only [true_and, yu, ya, reduceIte, Nat.reduceEqDiff, Int32.reduceToInt, Int.toNat_natCast, Int.reduceToNat]; omega) | decide | (simp; done)) ?_
      try simp only [List.map_cons, List.map_nil, List.length_cons, List.length_nil, ylr_s, ylr_0, Nat.reduceAdd, Nat.reduceSub, List.cons_append, List.nil_append, List.set_cons_zero, List.set_cons_succ, Option.toList_none, Option.toList_some, Int32.reduceToInt, yu, ya, reduceIte, Nat.reduceEqDiff, Int.toNat_natCast, Int.reduceToNat]
      refine ih (j + 1) 1 _ (by omega) (by omega) ?_
      rw [hv, hjt, ti] at c3
      rw [hts, c3]
      simp [bInt]
set_option maxRecDepth 100000 in
set_option maxHeartbeats 2000000 in
theorem cm_has9 {G : xG} {d a n : Nat} {f : Nat → Int} {A : Nat → List Int32} {v : Int32} {nz vz : Int} (hn : nz = n) (hv : vz = v.toInt) (hn4 : n ≤ 4) : ym G d a mX9_has [.inr 10, .inl nz, .inl vz] (f, A) (fun r Y' => r = some (.inl (bInt (((A 9).take n).any (fun x => x == v)))) ∧ Y' = (f, A)) := by
  refine ym.len (fun hl => ?_)
  refine ym_at 5 rfl (by decide) (Nat.le_of_ble_eq_true rfl) tX9_has_ok ?_
  try simp only [List.map_cons, List.map_nil, List.length_cons, List.length_nil, ylr_s, ylr_0, Nat.reduceAdd, Nat.reduceSub, List.cons_append, List.nil_append, List.set_cons_zero, List.set_cons_succ, Option.toList_none, Option.toList_some, Int32.reduceToInt, yu, ya, reduceIte, Nat.reduceEqDiff, Int.toNat_natCast, Int.reduceToNat]
  refine ygo 5 90 rfl rfl (by first | exact trivial | (simp only [true_and, yu, ya, reduceIte, Nat.reduceEqDiff, Int32.reduceToInt, Int.toNat_natCast, Int.reduceToNat]; omega) | decide | (simp; done)) ?_
  try simp only [List.map_cons, List.map_nil, List.length_cons, List.length_nil, ylr_s, ylr_0, Nat.reduceAdd, Nat.reduceSub, List.cons_append, List.nil_append, List.set_cons_zero, List.set_cons_succ, Option.toList_none, Option.toList_some, Int32.reduceToInt, yu, ya, reduceIte, Nat.reduceEqDiff, Int.toNat_natCast, Int.reduceToNat]
  exact l_has9 hn hv hn4 (hl 9 _ rfl) n 0 0 0 (by omega) rfl (by simp [bInt])
set_option maxRecDepth 100000 in
set_option maxHeartbeats 2000000 in
theorem l_has11 {G : xG} {d a n : Nat} {f : Nat → Int} {A : Nat → List Int32} {v : Int32} {nz vz : Int} (hn : nz = n) (hv : vz = v.toInt) (hn4 : n ≤ 8) (hl : (A 11).length = 8) : ∀ (m j : Nat) (is jz : Int), j + m = n → jz = j → is = bInt (((A 11).take j).any (fun x => x == v)) →
    yw G d a mX9_has 5 [some (.inr 12), some (.inl nz), some (.inl vz), some (.inl is), some (.inl jz)] [] (f, A) (fun r Y' => r = some (.inl (bInt (((A 11).take n).any (fun x => x == v)))) ∧ Y' = (f, A)) := by
  have hvr := i_rng v
  intro m
  induction m with
  | zero =>
    intro j is jz hj hjz his
    have hjn : j = n := by omega
    have hb := bInt_01 (((A 11).take j).any (fun x => x == v))
    refine ygo 99999 90 rfl rfl (by first | exact trivial | (simp only [true_and, yu, ya, reduceIte, Nat.reduceEqDiff, Int32.reduceToInt, Int.toNat_natCast, Int.reduceToNat]; omega) | decide | (simp; done)) ?_
    try simp only [List.map_cons, List.map_nil, List.length_cons, List.length_nil, ylr_s, ylr_0, Nat.reduceAdd, Nat.reduceSub, List.cons_append, List.nil_append, List.set_cons_zero, List.set_cons_succ, Option.toList_none, Option.toList_some, Int32.reduceToInt, yu, ya, reduceIte, Nat.reduceEqDiff, Int.toNat_natCast, Int.reduceToNat]
    refine yi_icmpge rfl (by refine ⟨?_, ?_⟩ <;> first | exact yr_t _ | exact yr_b _ | (unfold yr; omega)) (fun c => ?_) (fun c => ?_)
    · refine ygo 99999 90 rfl rfl (by first | exact trivial | (simp only [true_and, yu, ya, reduceIte, Nat.reduceEqDiff, Int32.reduceToInt, Int.toNat_natCast, Int.reduceToNat]; omega) | decide | (simp; done)) ?_
      try simp only [List.map_cons, List.map_nil, List.length_cons, List.length_nil, ylr_s, ylr_0, Nat.reduceAdd, Nat.reduceSub, List.cons_append, List.nil_append, List.set_cons_zero, List.set_cons_succ, Option.toList_none, Option.toList_some, Int32.reduceToInt, yu, ya, reduceIte, Nat.reduceEqDiff, Int.toNat_natCast, Int.reduceToNat]
      refine yi_ret_z rfl rfl (by omega) ⟨by rw [his, hjn], rfl⟩
    · omega
  | succ m ih =>
    intro j is jz hj hjz his
    have hts := any_ts (l := A 11) (j := j) (p := fun x => x == v) (d := 0) (by omega)
    have hb := bInt_01 (((A 11).take j).any (fun x => x == v))
    refine ygo 99999 90 rfl rfl (by first | exact trivial | (simp only [true_and, yu, ya, reduceIte, Nat.reduceEqDiff, Int32.reduceToInt, Int.toNat_natCast, Int.reduceToNat]; omega) | decide | (simp; done)) ?_
    try simp only [List.map_cons, List.map_nil, List.length_cons, List.length_nil, ylr_s, ylr_0, Nat.reduceAdd, Nat.reduceSub, List.cons_append, List.nil_append, List.set_cons_zero, List.set_cons_succ, Option.toList_none, Option.toList_some, Int32.reduceToInt, yu, ya, reduceIte, Nat.reduceEqDiff, Int.toNat_natCast, Int.reduceToNat]
    refine yi_icmpge rfl (by refine ⟨?_, ?_⟩ <;> first | exact yr_t _ | exact yr_b _ | (unfold yr; omega)) (fun c => ?_) (fun c => ?_)
    · omega
    refine ygo 99999 90 rfl rfl (by first | exact trivial | (simp only [true_and, yu, ya, reduceIte, Nat.reduceEqDiff, Int32.reduceToInt, Int.toNat_natCast, Int.reduceToNat]; omega) | decide | (simp; done)) ?_
    try simp only [List.map_cons, List.map_nil, List.length_cons, List.length_nil, ylr_s, ylr_0, Nat.reduceAdd, Nat.reduceSub, List.cons_append, List.nil_append, List.set_cons_zero, List.set_cons_succ, Option.toList_none, Option.toList_some, Int32.reduceToInt, yu, ya, reduceIte, Nat.reduceEqDiff, Int.toNat_natCast, Int.reduceToNat]
    refine yi_ifne rfl (by first | exact yr_t _ | exact yr_b _ | (unfold yr; omega)) (fun c2 => ?_) (fun c2 => ?_)
    · refine ygo 5 90 rfl rfl (by first | exact trivial | (simp only [true_and, yu, ya, reduceIte, Nat.reduceEqDiff, Int32.reduceToInt, Int.toNat_natCast, Int.reduceToNat]; omega) | decide | (simp; done)) ?_
      try simp only [List.map_cons, List.map_nil, List.length_cons, List.length_nil, ylr_s, ylr_0, Nat.reduceAdd, Nat.reduceSub, List.cons_append, List.nil_append, List.set_cons_zero, List.set_cons_succ, Option.toList_none, Option.toList_some, Int32.reduceToInt, yu, ya, reduceIte, Nat.reduceEqDiff, Int.toNat_natCast, Int.reduceToNat]
      refine ih (j + 1) 1 _ (by omega) (by omega) ?_
      rw [his, bInt_z, Bool.not_eq_false] at c2
      rw [hts, c2]
      rfl
    rw [his, bInt_z] at c2
    have hjt : jz.toNat = j := by omega
    refine ygo 99999 90 rfl rfl (by first | exact trivial | (simp only [true_and, yu, ya, reduceIte, Nat.reduceEqDiff, Int32.reduceToInt, Int.toNat_natCast, Int.reduceToNat]; omega) | decide | (simp; done)) ?_
    try simp only [List.map_cons, List.map_nil, List.length_cons, List.length_nil, ylr_s, ylr_0, Nat.reduceAdd, Nat.reduceSub, List.cons_append, List.nil_append, List.set_cons_zero, List.set_cons_succ, Option.toList_none, Option.toList_some, Int32.reduceToInt, yu, ya, reduceIte, Nat.reduceEqDiff, Int.toNat_natCast, Int.reduceToNat]
    refine yi_icmpne rfl (by refine ⟨?_, ?_⟩ <;> first | exact yr_t _ | exact yr_b _ | (unfold yr; omega)) (fun c3 => ?_) (fun c3 => ?_)
    · refine ygo 5 90 rfl rfl (by first | exact trivial | (simp only [true_and, yu, ya, reduceIte, Nat.reduceEqDiff, Int32.reduceToInt, Int.toNat_natCast, Int.reduceToNat]; omega) | decide | (simp; done)) ?_
      try simp only [List.map_cons, List.map_nil, List.length_cons, List.length_nil, ylr_s, ylr_0, Nat.reduceAdd, Nat.reduceSub, List.cons_append, List.nil_append, List.set_cons_zero, List.set_cons_succ, Option.toList_none, Option.toList_some, Int32.reduceToInt, yu, ya, reduceIte, Nat.reduceEqDiff, Int.toNat_natCast, Int.reduceToNat]
      refine ih (j + 1) 0 _ (by omega) (by omega) ?_
      rw [hv, hjt, ti] at c3
      rw [hts, c2]
      rw [beq_eq_false_iff_ne.mpr c3]
      rfl
    · refine ygo 5 90 rfl rfl (by first | exact trivial | (simp only [true_and, yu, ya, reduceIte, Nat.reduceEqDiff, Int32.reduceToInt, Int.toNat_natCast, Int.reduceToNat]; omega) | decide | (simp; done)) ?_
      try simp only [List.map_cons, List.map_nil, List.length_cons, List.length_nil, ylr_s, ylr_0, Nat.reduceAdd, Nat.reduceSub, List.cons_append, List.nil_append, List.set_cons_zero, List.set_cons_succ, Option.toList_none, Option.toList_some, Int32.reduceToInt, yu, ya, reduceIte, Nat.reduceEqDiff, Int.toNat_natCast, Int.reduceToNat]
      refine ih (j + 1) 1 _ (by omega) (by omega) ?_
      rw [hv, hjt, ti] at c3
      rw [hts, c3]
      simp [bInt]
set_option maxRecDepth 100000 in
set_option maxHeartbeats 2000000 in
theorem cm_has11 {G : xG} {d a n : Nat} {f : Nat → Int} {A : Nat → List Int32} {v : Int32} {nz vz : Int} (hn : nz = n) (hv : vz = v.toInt) (hn4 : n ≤ 8) : ym G d a mX9_has [.inr 12, .inl nz, .inl vz] (f, A) (fun r Y' => r = some (.inl (bInt (((A 11).take n).any (fun x => x == v)))) ∧ Y' = (f, A)) := by
  refine ym.len (fun hl => ?_)
  refine ym_at 5 rfl (by decide) (Nat.le_of_ble_eq_true rfl) tX9_has_ok ?_
  try simp only [List.map_cons, List.map_nil, List.length_cons, List.length_nil, ylr_s, ylr_0, Nat.reduceAdd, Nat.reduceSub, List.cons_append, List.nil_append, List.set_cons_zero, List.set_cons_succ, Option.toList_none, Option.toList_some, Int32.reduceToInt, yu, ya, reduceIte, Nat.reduceEqDiff, Int.toNat_natCast, Int.reduceToNat]
  refine ygo 5 90 rfl rfl (by first | exact trivial | (simp only [true_and, yu, ya, reduceIte, Nat.reduceEqDiff, Int32.reduceToInt, Int.toNat_natCast, Int.reduceToNat]; omega) | decide | (simp; done)) ?_
  try simp only [List.map_cons, List.map_nil, List.length_cons, List.length_nil, ylr_s, ylr_0, Nat.reduceAdd, Nat.reduceSub, List.cons_append, List.nil_append, List.set_cons_zero, List.set_cons_succ, Option.toList_none, Option.toList_some, Int32.reduceToInt, yu, ya, reduceIte, Nat.reduceEqDiff, Int.toNat_natCast, Int.reduceToNat]
  exact l_has11 hn hv hn4 (hl 11 _ rfl) n 0 0 0 (by omega) rfl (by simp [bInt])
