set_option maxRecDepth 100000 in
set_option maxHeartbeats 2000000 in
theorem l_came {G : xG} {d a pk fr ap : Nat} {v : Int32} {Z : pZ} {bs xs : List Int32} {fz nz az : Int} {f : Nat → Int} {A : Nat → List Int32} (hR : mR Z (f, A)) (h23 : f 23 = pk) (hp : pkd Z pk bs) (hfz : fz = fr) (hnz : nz = xs.length) (haz : az = ap) (hx8 : xs.length ≤ 8) (hx : ∀ (i : Nat) (x : Int32), xs[i]? = some x → bs[fr + i * ap]? = some x) : ∀ (n k : Nat) (is kz : Int), k + n = xs.length → kz = k → is = bInt ((xs.take k).any (fun x => x == v)) →
    yw G (d + 1) a mX9_came 6 [some (.inr 0), some (.inl fz), some (.inl nz), some (.inl az), some (.inl v.toInt), some (.inl is), some (.inl kz)] [] (f, A) (fun w Y' => w = some (.inl (bInt (xs.any (fun x => x == v)))) ∧ Y' = (f, A)) := by
  intro n
  induction n with
  | zero =>
    intro k is kz hk hkz his
    have : k = xs.length := by omega
    subst this
    rw [List.take_length] at his
    have hb := bInt_01 (xs.any (fun x => x == v))
    refine ygo 99999 90 rfl rfl (by first | exact trivial | (simp only [true_and, eq_self, or_true, true_or, and_true, yu, ya, reduceIte, Nat.reduceEqDiff, Int32.reduceToInt, Int.toNat_natCast, Int.reduceToNat]; omega) | decide | (simp; done) | (simp; omega)) ?_
    try simp only [List.map_cons, List.map_nil, List.length_cons, List.length_nil, ylr_s, ylr_0, Nat.reduceAdd, Nat.reduceSub, List.cons_append, List.nil_append, List.set_cons_zero, List.set_cons_succ, Option.toList_none, Option.toList_some, Int32.reduceToInt, yu, ya, reduceIte, Nat.reduceEqDiff, Int.toNat_natCast, Int.reduceToNat]
    refine yi_icmpge rfl (by refine ⟨?_, ?_⟩ <;> first | exact yr_t _ | exact yr_b _ | (unfold yr; omega)) (fun c => ?_) (fun c => ?_)
    · refine ygo 99999 90 rfl rfl (by first | exact trivial | (simp only [true_and, eq_self, or_true, true_or, and_true, yu, ya, reduceIte, Nat.reduceEqDiff, Int32.reduceToInt, Int.toNat_natCast, Int.reduceToNat]; omega) | decide | (simp; done) | (simp; omega)) ?_
      try simp only [List.map_cons, List.map_nil, List.length_cons, List.length_nil, ylr_s, ylr_0, Nat.reduceAdd, Nat.reduceSub, List.cons_append, List.nil_append, List.set_cons_zero, List.set_cons_succ, Option.toList_none, Option.toList_some, Int32.reduceToInt, yu, ya, reduceIte, Nat.reduceEqDiff, Int.toNat_natCast, Int.reduceToNat]
      refine yi_ret_z rfl rfl (by omega) ⟨by rw [his], rfl⟩
    · omega
  | succ n ih =>
    intro k is kz hk hkz his
    obtain ⟨x, hxk⟩ := lt_get (l := xs) (j := k) (by omega)
    have hts : (xs.take (k + 1)).any (fun x => x == v) = ((xs.take k).any (fun x => x == v) || x == v) := by
      rw [any_ts (d := 0) (by omega), getD_s hxk]
    have hb := bInt_01 ((xs.take k).any (fun x => x == v))
    refine ygo 99999 90 rfl rfl (by first | exact trivial | (simp only [true_and, eq_self, or_true, true_or, and_true, yu, ya, reduceIte, Nat.reduceEqDiff, Int32.reduceToInt, Int.toNat_natCast, Int.reduceToNat]; omega) | decide | (simp; done) | (simp; omega)) ?_
    try simp only [List.map_cons, List.map_nil, List.length_cons, List.length_nil, ylr_s, ylr_0, Nat.reduceAdd, Nat.reduceSub, List.cons_append, List.nil_append, List.set_cons_zero, List.set_cons_succ, Option.toList_none, Option.toList_some, Int32.reduceToInt, yu, ya, reduceIte, Nat.reduceEqDiff, Int.toNat_natCast, Int.reduceToNat]
    refine yi_icmpge rfl (by refine ⟨?_, ?_⟩ <;> first | exact yr_t _ | exact yr_b _ | (unfold yr; omega)) (fun c => ?_) (fun c => ?_)
    · omega
    refine ygo 99999 90 rfl rfl (by first | exact trivial | (simp only [true_and, eq_self, or_true, true_or, and_true, yu, ya, reduceIte, Nat.reduceEqDiff, Int32.reduceToInt, Int.toNat_natCast, Int.reduceToNat]; omega) | decide | (simp; done) | (simp; omega)) ?_
    try simp only [List.map_cons, List.map_nil, List.length_cons, List.length_nil, ylr_s, ylr_0, Nat.reduceAdd, Nat.reduceSub, List.cons_append, List.nil_append, List.set_cons_zero, List.set_cons_succ, Option.toList_none, Option.toList_some, Int32.reduceToInt, yu, ya, reduceIte, Nat.reduceEqDiff, Int.toNat_natCast, Int.reduceToNat]
    refine yi_ifne rfl (by first | exact yr_t _ | exact yr_b _ | (unfold yr; omega)) (fun c2 => ?_) (fun c2 => ?_)
    · rw [his, bInt_z, Bool.not_eq_false] at c2
      refine ygo 6 90 rfl rfl (by first | exact trivial | (simp only [true_and, eq_self, or_true, true_or, and_true, yu, ya, reduceIte, Nat.reduceEqDiff, Int32.reduceToInt, Int.toNat_natCast, Int.reduceToNat]; omega) | decide | (simp; done) | (simp; omega)) ?_
      try simp only [List.map_cons, List.map_nil, List.length_cons, List.length_nil, ylr_s, ylr_0, Nat.reduceAdd, Nat.reduceSub, List.cons_append, List.nil_append, List.set_cons_zero, List.set_cons_succ, Option.toList_none, Option.toList_some, Int32.reduceToInt, yu, ya, reduceIte, Nat.reduceEqDiff, Int.toNat_natCast, Int.reduceToNat]
      exact ih (k + 1) 1 _ (by omega) (by omega) (by rw [hts, c2]; rfl)
    rw [his, bInt_z] at c2
    refine ygo 99999 90 rfl rfl (by first | exact trivial | (simp only [true_and, eq_self, or_true, true_or, and_true, yu, ya, reduceIte, Nat.reduceEqDiff, Int32.reduceToInt, Int.toNat_natCast, Int.reduceToNat]; omega) | decide | (simp; done) | (simp; omega)) ?_
    try simp only [List.map_cons, List.map_nil, List.length_cons, List.length_nil, ylr_s, ylr_0, Nat.reduceAdd, Nat.reduceSub, List.cons_append, List.nil_append, List.set_cons_zero, List.set_cons_succ, Option.toList_none, Option.toList_some, Int32.reduceToInt, yu, ya, reduceIte, Nat.reduceEqDiff, Int.toNat_natCast, Int.reduceToNat]
    refine ycV rfl rfl rfl (cm_here (i := fr + k * ap) (b := x) hR h23 hp (by rw [hfz, hkz, haz, Int.natCast_add, Int.natCast_mul]) (hx k x hxk)) rfl kX9_here iX9_here rfl rfl rfl (Nat.le_of_ble_eq_true rfl) (fun v1 Y1 q1 => ?_)
    obtain ⟨rfl, rfl⟩ := q1
    refine ygo 99999 90 rfl rfl (by first | exact trivial | (simp only [true_and, eq_self, or_true, true_or, and_true, yu, ya, reduceIte, Nat.reduceEqDiff, Int32.reduceToInt, Int.toNat_natCast, Int.reduceToNat]; omega) | decide | (simp; done) | (simp; omega)) ?_
    try simp only [List.map_cons, List.map_nil, List.length_cons, List.length_nil, ylr_s, ylr_0, Nat.reduceAdd, Nat.reduceSub, List.cons_append, List.nil_append, List.set_cons_zero, List.set_cons_succ, Option.toList_none, Option.toList_some, Int32.reduceToInt, yu, ya, reduceIte, Nat.reduceEqDiff, Int.toNat_natCast, Int.reduceToNat]
    refine yi_icmpne rfl (by refine ⟨?_, ?_⟩ <;> first | exact yr_t _ | exact yr_b _ | (unfold yr; omega)) (fun c3 => ?_) (fun c3 => ?_)
    · rw [ti] at c3
      refine ygo 6 90 rfl rfl (by first | exact trivial | (simp only [true_and, eq_self, or_true, true_or, and_true, yu, ya, reduceIte, Nat.reduceEqDiff, Int32.reduceToInt, Int.toNat_natCast, Int.reduceToNat]; omega) | decide | (simp; done) | (simp; omega)) ?_
      try simp only [List.map_cons, List.map_nil, List.length_cons, List.length_nil, ylr_s, ylr_0, Nat.reduceAdd, Nat.reduceSub, List.cons_append, List.nil_append, List.set_cons_zero, List.set_cons_succ, Option.toList_none, Option.toList_some, Int32.reduceToInt, yu, ya, reduceIte, Nat.reduceEqDiff, Int.toNat_natCast, Int.reduceToNat]
      exact ih (k + 1) 0 _ (by omega) (by omega) (by rw [hts, c2, beq_eq_false_iff_ne.mpr c3]; rfl)
    · rw [ti] at c3
      refine ygo 6 90 rfl rfl (by first | exact trivial | (simp only [true_and, eq_self, or_true, true_or, and_true, yu, ya, reduceIte, Nat.reduceEqDiff, Int32.reduceToInt, Int.toNat_natCast, Int.reduceToNat]; omega) | decide | (simp; done) | (simp; omega)) ?_
      try simp only [List.map_cons, List.map_nil, List.length_cons, List.length_nil, ylr_s, ylr_0, Nat.reduceAdd, Nat.reduceSub, List.cons_append, List.nil_append, List.set_cons_zero, List.set_cons_succ, Option.toList_none, Option.toList_some, Int32.reduceToInt, yu, ya, reduceIte, Nat.reduceEqDiff, Int.toNat_natCast, Int.reduceToNat]
      exact ih (k + 1) 1 _ (by omega) (by omega) (by rw [hts, c2, c3]; simp [bInt])
set_option maxRecDepth 100000 in
set_option maxHeartbeats 2000000 in
theorem cm_came {G : xG} {d a pk fr ap : Nat} {v : Int32} {Z : pZ} {bs xs : List Int32} {fz nz az : Int} {f : Nat → Int} {A : Nat → List Int32} (hR : mR Z (f, A)) (h23 : f 23 = pk) (hp : pkd Z pk bs) (hfz : fz = fr) (hnz : nz = xs.length) (haz : az = ap) (hx8 : xs.length ≤ 8) (hx : ∀ (i : Nat) (x : Int32), xs[i]? = some x → bs[fr + i * ap]? = some x) : ym G (d + 1) a mX9_came [.inr 0, .inl fz, .inl nz, .inl az, .inl v.toInt] (f, A) (fun w Y' => w = some (.inl (bInt (xs.any (fun x => x == v)))) ∧ Y' = (f, A)) := by
  refine ym_at 7 rfl (by decide) (Nat.le_of_ble_eq_true rfl) tX9_came_ok ?_
  try simp only [List.map_cons, List.map_nil, List.length_cons, List.length_nil, ylr_s, ylr_0, Nat.reduceAdd, Nat.reduceSub, List.cons_append, List.nil_append, List.set_cons_zero, List.set_cons_succ, Option.toList_none, Option.toList_some, Int32.reduceToInt, yu, ya, reduceIte, Nat.reduceEqDiff, Int.toNat_natCast, Int.reduceToNat]
  refine ygo 6 90 rfl rfl (by first | exact trivial | (simp only [true_and, eq_self, or_true, true_or, and_true, yu, ya, reduceIte, Nat.reduceEqDiff, Int32.reduceToInt, Int.toNat_natCast, Int.reduceToNat]; omega) | decide | (simp; done) | (simp; omega)) ?_
  try simp only [List.map_cons, List.map_nil, List.length_cons, List.length_nil, ylr_s, ylr_0, Nat.reduceAdd, Nat.reduceSub, List.cons_append, List.nil_append, List.set_cons_zero, List.set_cons_succ, Option.toList_none, Option.toList_some, Int32.reduceToInt, yu, ya, reduceIte, Nat.reduceEqDiff, Int.toNat_natCast, Int.reduceToNat]
  exact l_came hR h23 hp hfz hnz haz hx8 hx xs.length 0 0 0 (by omega) rfl (by simp [bInt])
/-- a new one is wanted -/
def wN (bs : List Int32) (most : Int32) (xs : List Int32) (s : pS) : pS := if xs.any (fun x => x == (nxt bs 0 most s).1) then refS s.1 (nxt bs 0 most s).2 else (nxt bs 0 most s).2
theorem refS_w {x : Nat} {s : pS} (h : s.2.1.isSome = true) : refS x s = s := if_pos h
set_option maxRecDepth 100000 in
set_option maxHeartbeats 2000000 in
theorem cm_wantNew {G : xG} {d a pk fr ap : Nat} {most : Int32} {Z : pZ} {bs xs : List Int32} {s : pS} {mz fz nz az : Int} {f : Nat → Int} {A : Nat → List Int32} (h : mRd Z pk bs s (f, A)) (hp : pkd Z pk bs) (hm : mz = most.toInt) (hm0 : 0 ≤ mz) (hx : s.2.1 = none → fz = fr ∧ nz = xs.length ∧ az = ap ∧ xs.length ≤ 8 ∧ ∀ (i : Nat) (x : Int32), xs[i]? = some x → bs[fr + i * ap]? = some x) : ym G (d + 2) a mX9_wantNew [.inr 0, .inl mz, .inl fz, .inl nz, .inl az] (f, A) (fun w Y' => w = none ∧ mRd Z pk bs (wN bs most xs s) Y' ∧ fkp (f, A) Y') := by
  have hw := cm_want (G := G) (d := d) (a := a) h hp hm hm0
  have hwl := wv_lt (bs := bs) (most := most) (s := s) (by omega)
  obtain ⟨x, hxx, hxb, hp16, hl, hbb⟩ := id hp
  refine ym_at 6 rfl (by decide) (Nat.le_of_ble_eq_true rfl) tX9_wantNew_ok ?_
  try simp only [List.map_cons, List.map_nil, List.length_cons, List.length_nil, ylr_s, ylr_0, Nat.reduceAdd, Nat.reduceSub, List.cons_append, List.nil_append, List.set_cons_zero, List.set_cons_succ, Option.toList_none, Option.toList_some, Int32.reduceToInt, yu, ya, reduceIte, Nat.reduceEqDiff, Int.toNat_natCast, Int.reduceToNat]
  refine ygo 99999 90 rfl rfl (by first | exact trivial | (simp only [true_and, eq_self, or_true, true_or, and_true, yu, ya, reduceIte, Nat.reduceEqDiff, Int32.reduceToInt, Int.toNat_natCast, Int.reduceToNat]; omega) | decide | (simp; done) | (simp; omega)) ?_
  try simp only [List.map_cons, List.map_nil, List.length_cons, List.length_nil, ylr_s, ylr_0, Nat.reduceAdd, Nat.reduceSub, List.cons_append, List.nil_append, List.set_cons_zero, List.set_cons_succ, Option.toList_none, Option.toList_some, Int32.reduceToInt, yu, ya, reduceIte, Nat.reduceEqDiff, Int.toNat_natCast, Int.reduceToNat]
  refine ycV rfl rfl rfl hw rfl kX9_want iX9_want rfl rfl rfl (Nat.le_of_ble_eq_true rfl) (fun v1 Y1 q1 => ?_)
  obtain ⟨rfl, h1, k1⟩ := q1
  obtain ⟨f1, A1⟩ := Y1
  refine ygo 99999 90 rfl rfl (by first | exact trivial | (simp only [true_and, eq_self, or_true, true_or, and_true, yu, ya, reduceIte, Nat.reduceEqDiff, Int32.reduceToInt, Int.toNat_natCast, Int.reduceToNat]; omega) | decide | (simp; done) | (simp; omega)) ?_
  try simp only [List.map_cons, List.map_nil, List.length_cons, List.length_nil, ylr_s, ylr_0, Nat.reduceAdd, Nat.reduceSub, List.cons_append, List.nil_append, List.set_cons_zero, List.set_cons_succ, Option.toList_none, Option.toList_some, Int32.reduceToInt, yu, ya, reduceIte, Nat.reduceEqDiff, Int.toNat_natCast, Int.reduceToNat]
  refine yi_iflt rfl hwl.2 (fun c => ?_) (fun c => ?_)
  · have c := hwl.1.mp c
    have e : wN bs most xs s = (nxt bs 0 most s).2 := by
      unfold wN
      split
      · exact refS_w c
      · rfl
    rw [e]
    refine ygo 99999 90 rfl rfl (by first | exact trivial | (simp only [true_and, eq_self, or_true, true_or, and_true, yu, ya, reduceIte, Nat.reduceEqDiff, Int32.reduceToInt, Int.toNat_natCast, Int.reduceToNat]; omega) | decide | (simp; done) | (simp; omega)) ?_
    try simp only [List.map_cons, List.map_nil, List.length_cons, List.length_nil, ylr_s, ylr_0, Nat.reduceAdd, Nat.reduceSub, List.cons_append, List.nil_append, List.set_cons_zero, List.set_cons_succ, Option.toList_none, Option.toList_some, Int32.reduceToInt, yu, ya, reduceIte, Nat.reduceEqDiff, Int.toNat_natCast, Int.reduceToNat]
    refine yi_ret_v rfl rfl ⟨rfl, h1, k1⟩
  · have hn1 : (nxt bs 0 most s).2.2.1 = none := by
      have : ¬ (nxt bs 0 most s).2.2.1.isSome = true := fun hc => c (hwl.1.mpr hc)
      exact isN (by simpa using this)
    have hfn := nxt_fine hn1
    obtain ⟨h1a, h1b, h1c, h1d, h1e⟩ := hx hfn.1
    have hwv : wv (nxt bs 0 most s) = (nxt bs 0 most s).1.toInt := by unfold wv; rw [hn1]; rfl
    have e22 : f1 22 = (s.1 : Int) + 1 := by
      have := h1.2.2.2.2.2.1 hn1
      dsimp only at this
      rw [this, hfn.2.2.2]
      rfl
    have h22b : f1 22 ≤ bs.length := h1.2.2.2.2.1
    rw [hwv]
    refine ygo 99999 90 rfl rfl (by first | exact trivial | (simp only [true_and, eq_self, or_true, true_or, and_true, yu, ya, reduceIte, Nat.reduceEqDiff, Int32.reduceToInt, Int.toNat_natCast, Int.reduceToNat]; omega) | decide | (simp; done) | (simp; omega)) ?_
    try simp only [List.map_cons, List.map_nil, List.length_cons, List.length_nil, ylr_s, ylr_0, Nat.reduceAdd, Nat.reduceSub, List.cons_append, List.nil_append, List.set_cons_zero, List.set_cons_succ, Option.toList_none, Option.toList_some, Int32.reduceToInt, yu, ya, reduceIte, Nat.reduceEqDiff, Int.toNat_natCast, Int.reduceToNat]
    refine ycV rfl rfl rfl (cm_came (d := d) (v := (nxt bs 0 most s).1) h1.1 h1.2.1 hp h1a h1b h1c h1d h1e) rfl kX9_came iX9_came rfl rfl rfl (Nat.le_of_ble_eq_true rfl) (fun v2 Y2 q2 => ?_)
    obtain ⟨rfl, rfl⟩ := q2
    unfold wN
    refine ygo 99999 90 rfl rfl (by first | exact trivial | (simp only [true_and, eq_self, or_true, true_or, and_true, yu, ya, reduceIte, Nat.reduceEqDiff, Int32.reduceToInt, Int.toNat_natCast, Int.reduceToNat]; omega) | decide | (simp; done) | (simp; omega)) ?_
    try simp only [List.map_cons, List.map_nil, List.length_cons, List.length_nil, ylr_s, ylr_0, Nat.reduceAdd, Nat.reduceSub, List.cons_append, List.nil_append, List.set_cons_zero, List.set_cons_succ, Option.toList_none, Option.toList_some, Int32.reduceToInt, yu, ya, reduceIte, Nat.reduceEqDiff, Int.toNat_natCast, Int.reduceToNat]
    refine yi_ifeq rfl (by first | exact yr_t _ | exact yr_b _ | (unfold yr; omega)) (fun c2 => ?_) (fun c2 => ?_)
    · rw [bInt_z] at c2
      rw [if_neg (by rw [c2]; decide)]
      refine ygo 99999 90 rfl rfl (by first | exact trivial | (simp only [true_and, eq_self, or_true, true_or, and_true, yu, ya, reduceIte, Nat.reduceEqDiff, Int32.reduceToInt, Int.toNat_natCast, Int.reduceToNat]; omega) | decide | (simp; done) | (simp; omega)) ?_
      try simp only [List.map_cons, List.map_nil, List.length_cons, List.length_nil, ylr_s, ylr_0, Nat.reduceAdd, Nat.reduceSub, List.cons_append, List.nil_append, List.set_cons_zero, List.set_cons_succ, Option.toList_none, Option.toList_some, Int32.reduceToInt, yu, ya, reduceIte, Nat.reduceEqDiff, Int.toNat_natCast, Int.reduceToNat]
      refine yi_ret_v rfl rfl ⟨rfl, h1, k1⟩
    · rw [bInt_z, Bool.not_eq_false] at c2
      rw [if_pos c2]
      have hr : refS s.1 (nxt bs 0 most s).2 = ((nxt bs 0 most s).2.1, some s.1, (nxt bs 0 most s).2.2.2) := if_neg (by rw [hn1]; decide)
      rw [hr]
      refine ygo 99999 90 rfl rfl (by first | exact trivial | (simp only [true_and, eq_self, or_true, true_or, and_true, yu, ya, reduceIte, Nat.reduceEqDiff, Int32.reduceToInt, Int.toNat_natCast, Int.reduceToNat]; omega) | decide | (simp; done) | (simp; omega)) ?_
      try simp only [List.map_cons, List.map_nil, List.length_cons, List.length_nil, ylr_s, ylr_0, Nat.reduceAdd, Nat.reduceSub, List.cons_append, List.nil_append, List.set_cons_zero, List.set_cons_succ, Option.toList_none, Option.toList_some, Int32.reduceToInt, yu, ya, reduceIte, Nat.reduceEqDiff, Int.toNat_natCast, Int.reduceToNat]
      refine yi_ret_v rfl rfl ⟨rfl, ⟨h1.1, h1.2.1, by simp only [yu, reduceIte]; rw [e22]; simp [oZ], h1.2.2.2.1, h1.2.2.2.2.1, (fun hc => by cases hc), (fun w hw => by cases hw; omega)⟩, k1.tr fkp.f24⟩
set_option maxRecDepth 100000 in
set_option maxHeartbeats 2000000 in
theorem cm_wantTwo {G : xG} {d a pk : Nat} {most : Int32} {Z : pZ} {bs : List Int32} {s : pS} {mz : Int} {f : Nat → Int} {A : Nat → List Int32} (h : mRd Z pk bs s (f, A)) (hp : pkd Z pk bs) (hm : mz = most.toInt) (hm0 : 0 ≤ mz) : ym G (d + 2) a mX9_wantTwo [.inr 0, .inl mz] (f, A) (fun w Y' => w = none ∧ mRd Z pk bs (hPair bs most s).2 Y' ∧ fkp (f, A) Y') := by
  have hw := cm_want (G := G) (d := d) (a := a) (most := 0) (mz := 0) h hp rfl (by omega)
  have hwl := wv_lt (bs := bs) (most := 0) (s := s) (by decide)
  have hrg := nxt_rng (bs := bs) (lo := 0) (hi := 0) (s := s) (by decide)
  have z0 : (0 : Int32).toInt = 0 := rfl
  refine ym_at 2 rfl (by decide) (Nat.le_of_ble_eq_true rfl) tX9_wantTwo_ok ?_
  try simp only [List.map_cons, List.map_nil, List.length_cons, List.length_nil, ylr_s, ylr_0, Nat.reduceAdd, Nat.reduceSub, List.cons_append, List.nil_append, List.set_cons_zero, List.set_cons_succ, Option.toList_none, Option.toList_some, Int32.reduceToInt, yu, ya, reduceIte, Nat.reduceEqDiff, Int.toNat_natCast, Int.reduceToNat]
  refine ygo 99999 90 rfl rfl (by first | exact trivial | (simp only [true_and, eq_self, or_true, true_or, and_true, yu, ya, reduceIte, Nat.reduceEqDiff, Int32.reduceToInt, Int.toNat_natCast, Int.reduceToNat]; omega) | decide | (simp; done) | (simp; omega)) ?_
  try simp only [List.map_cons, List.map_nil, List.length_cons, List.length_nil, ylr_s, ylr_0, Nat.reduceAdd, Nat.reduceSub, List.cons_append, List.nil_append, List.set_cons_zero, List.set_cons_succ, Option.toList_none, Option.toList_some, Int32.reduceToInt, yu, ya, reduceIte, Nat.reduceEqDiff, Int.toNat_natCast, Int.reduceToNat]
  refine ycV rfl rfl rfl hw rfl kX9_want iX9_want rfl rfl rfl (Nat.le_of_ble_eq_true rfl) (fun v1 Y1 q1 => ?_)
  obtain ⟨rfl, h1, k1⟩ := q1
  obtain ⟨f1, A1⟩ := Y1
  refine yi_ifne rfl hwl.2 (fun c => ?_) (fun c => ?_)
  · have hsm : (nxt bs 0 0 s).2.2.1.isSome = true := by
      by_cases hq : (nxt bs 0 0 s).2.2.1.isSome = true
      · exact hq
      · exfalso
        apply c
        unfold wv
        rw [if_neg hq]
        rw [i_le, i_le] at hrg
        omega
    have e : (hPair bs most s).2 = (nxt bs 0 0 s).2 := by
      unfold hPair
      rcases nxt_cases (bs := bs) (lo := 0) (hi := most) (s := (nxt bs 0 0 s).2) with ⟨q1, q2⟩ | ⟨hn, hc, q2⟩ | ⟨hn, hc, q2⟩
      · rw [q2]
      · rw [hn] at hsm; cases hsm
      · rw [hn] at hsm; cases hsm
    rw [e]
    refine ygo 99999 90 rfl rfl (by first | exact trivial | (simp only [true_and, eq_self, or_true, true_or, and_true, yu, ya, reduceIte, Nat.reduceEqDiff, Int32.reduceToInt, Int.toNat_natCast, Int.reduceToNat]; omega) | decide | (simp; done) | (simp; omega)) ?_
    try simp only [List.map_cons, List.map_nil, List.length_cons, List.length_nil, ylr_s, ylr_0, Nat.reduceAdd, Nat.reduceSub, List.cons_append, List.nil_append, List.set_cons_zero, List.set_cons_succ, Option.toList_none, Option.toList_some, Int32.reduceToInt, yu, ya, reduceIte, Nat.reduceEqDiff, Int.toNat_natCast, Int.reduceToNat]
    refine yi_ret_v rfl rfl ⟨rfl, h1, k1⟩
  · have hw2 := cm_want (G := G) (d := d) (a := a) h1 hp hm hm0
    refine ygo 99999 90 rfl rfl (by first | exact trivial | (simp only [true_and, eq_self, or_true, true_or, and_true, yu, ya, reduceIte, Nat.reduceEqDiff, Int32.reduceToInt, Int.toNat_natCast, Int.reduceToNat]; omega) | decide | (simp; done) | (simp; omega)) ?_
    try simp only [List.map_cons, List.map_nil, List.length_cons, List.length_nil, ylr_s, ylr_0, Nat.reduceAdd, Nat.reduceSub, List.cons_append, List.nil_append, List.set_cons_zero, List.set_cons_succ, Option.toList_none, Option.toList_some, Int32.reduceToInt, yu, ya, reduceIte, Nat.reduceEqDiff, Int.toNat_natCast, Int.reduceToNat]
    refine ycV rfl rfl rfl hw2 rfl kX9_want iX9_want rfl rfl rfl (Nat.le_of_ble_eq_true rfl) (fun v2 Y2 q2 => ?_)
    obtain ⟨rfl, h2, k2⟩ := q2
    obtain ⟨f2, A2⟩ := Y2
    refine ygo 99999 90 rfl rfl (by first | exact trivial | (simp only [true_and, eq_self, or_true, true_or, and_true, yu, ya, reduceIte, Nat.reduceEqDiff, Int32.reduceToInt, Int.toNat_natCast, Int.reduceToNat]; omega) | decide | (simp; done) | (simp; omega)) ?_
    try simp only [List.map_cons, List.map_nil, List.length_cons, List.length_nil, ylr_s, ylr_0, Nat.reduceAdd, Nat.reduceSub, List.cons_append, List.nil_append, List.set_cons_zero, List.set_cons_succ, Option.toList_none, Option.toList_some, Int32.reduceToInt, yu, ya, reduceIte, Nat.reduceEqDiff, Int.toNat_natCast, Int.reduceToNat]
    refine yi_ret_v rfl rfl ⟨rfl, h2, k1.tr k2⟩
/-- a state that is no further, with other words of what was said -/
theorem mRd.say {Z : pZ} {pk : Nat} {bs : List Int32} {s s' : pS} {Y : yS} (h : mRd Z pk bs s Y) (e1 : s'.1 = s.1) (e2 : s'.2.1 = s.2.1) : mRd Z pk bs s' Y := by
  unfold mRd at h ⊢
  rw [e1, e2]
  exact h
theorem mRd.fk {Z : pZ} {pk : Nat} {bs : List Int32} {s : pS} {f f' : Nat → Int} {A : Nat → List Int32} (h : mRd Z pk bs s (f, A)) (hm : mR Z (f', A)) (e1 : f' 22 = f 22) (e2 : f' 23 = f 23) (e3 : f' 24 = f 24) : mRd Z pk bs s (f', A) := by
  obtain ⟨h1, h2, h3, h4, h5, h6, h7⟩ := h
  dsimp only at h2 h3 h4 h5 h6
  exact ⟨hm, by dsimp only; rw [e2]; exact h2, by dsimp only; rw [e3]; exact h3, by dsimp only; rw [e1]; exact h4, by dsimp only; rw [e1]; exact h5, by dsimp only; rw [e1]; exact h6, h7⟩
/-- the needs, so far as they are heard, by their bytes -/
def hdN (bs : List Int32) (fr : Nat) (nd : List (Int32 × Int32 × Int32)) : Prop := ∀ (i : Nat) (e : Int32 × Int32 × Int32), nd[i]? = some e → bs[fr + i * 3]? = some e.1 ∧ bs[fr + i * 3 + 1]? = some e.2.1 ∧ ∃ x, bs[fr + i * 3 + 2]? = some x ∧ e.2.2 = if x = 1 then 1 else 0
theorem nxt_get {bs : List Int32} {lo hi : Int32} {s : pS} (h : (nxt bs lo hi s).2.2.1 = none) : s.2.1 = none ∧ bs[s.1]? = some (nxt bs lo hi s).1 ∧ (nxt bs lo hi s).2 = (s.1 + 1, none, s.2.2) ∧ lo ≤ (nxt bs lo hi s).1 ∧ (nxt bs lo hi s).1 ≤ hi := by
  have hf := nxt_fine h
  rcases nxt_cases (bs := bs) (lo := lo) (hi := hi) (s := s) with ⟨q1, q2⟩ | ⟨hn, hc, q2⟩ | ⟨hn, hc, q2⟩
  · rw [hf.1] at q1; cases q1
  · rw [q2] at h; cases h
  · refine ⟨hn, ?_, ?_, hf.2.1, hf.2.2.1⟩
    · rw [q2]
      cases hx : bs[s.1]? with
      | none => exfalso; apply hc; left; rw [List.getD_eq_getElem?_getD, hx]; rfl
      | some b => rw [getD_s hx]
    · rw [q2, hn]
theorem refif_fine {c : Prop} [Decidable c] {x : Nat} {s : pS} (h : (if c then refS x s else s).2.1 = none) : ¬ c ∧ s.2.1 = none := by
  by_cases hc : c
  · rw [if_pos hc] at h
    have := refS_some x s
    rw [h] at this
    cases this
  · rw [if_neg hc] at h
    exact ⟨hc, h⟩
theorem hNeed_mRd {Z : pZ} {pk : Nat} {bs : List Int32} {s : pS} {Y : yS} (h : mRd Z pk bs (nxt bs 0 1 (nxt bs 0 99 (wN bs 63 (s.2.2.1.2.1.map (fun e => e.1)) s)).2).2 Y) : mRd Z pk bs (hNeed bs s) Y := by
  have e : (nxt bs 0 63 s).2.2.2.1.2.1.any (fun e => e.1 == (nxt bs 0 63 s).1) = (s.2.2.1.2.1.map (fun e => e.1)).any (fun x => x == (nxt bs 0 63 s).1) := by
    rw [nxt_rest, List.any_map]; rfl
  unfold hNeed
  dsimp only
  unfold wN at h
  rw [← e] at h
  exact h
