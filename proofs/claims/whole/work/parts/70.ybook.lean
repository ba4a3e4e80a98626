theorem ya_ya (A : Nat → List Int32) (k : Nat) (x y : List Int32) : ya (ya A k x) k y = ya A k y := by
  funext q
  unfold ya
  by_cases h : q = k
  · rw [if_pos h, if_pos h]
  · rw [if_neg h, if_neg h, if_neg h]
theorem yok_ya {A : Nat → List Int32} {k : Nat} {x : List Int32} (h : yok A) (hx : x.length = (A k).length) : yok (ya A k x) := fun j q hq => by
  unfold ya
  by_cases e : j = k
  · subst e; rw [if_pos rfl, hx]; exact h j q hq
  · rw [if_neg e]; exact h j q hq
set_option maxRecDepth 100000 in
set_option maxHeartbeats 2000000 in
theorem l_emptyBook {G : xG} {d a b : Nat} {f : Nat → Int} {A : Nat → List Int32} (hb : b < 16) : ∀ (n i : Nat) (iz : Int) (row : List Int32), i + n = 88 → iz = i → row.length = 1408 → (∀ j, j < i → row.getD (88 * b + j) 0 = 0) → (∀ q, ¬ (88 * b ≤ q ∧ q < 88 * b + 88) → row.getD q 0 = (A 32).getD q 0) →
    yw G d a mX9_emptyBook 16 [some (.inr 0), some (.inl b), some (.inl iz)] [] (f, ya A 32 row) (fun w Y' => w = none ∧ ∃ row : List Int32, Y' = (f, ya A 32 row) ∧ (∀ j, j < 88 → row.getD (88 * b + j) 0 = 0) ∧ ∀ q, ¬ (88 * b ≤ q ∧ q < 88 * b + 88) → row.getD q 0 = (A 32).getD q 0) := by
  intro n
  induction n with
  | zero =>
    intro i iz row hi hiz hl h1 h2
    have : i = 88 := by omega
    subst this
    refine ygo 99999 90 rfl rfl (by first | exact trivial | (simp only [true_and, yu, ya, reduceIte, Nat.reduceEqDiff, Int32.reduceToInt, Int.toNat_natCast, Int.reduceToNat]; omega) | decide | (simp; done)) ?_
    try simp only [List.map_cons, List.map_nil, List.length_cons, List.length_nil, ylr_s, ylr_0, Nat.reduceAdd, Nat.reduceSub, List.cons_append, List.nil_append, List.set_cons_zero, List.set_cons_succ, Option.toList_none, Option.toList_some, Int32.reduceToInt, yu, ya, reduceIte, Nat.reduceEqDiff, Int.toNat_natCast, Int.reduceToNat]
    refine yi_icmpge rfl (by refine ⟨?_, ?_⟩ <;> first | exact yr_t _ | exact yr_b _ | (unfold yr; omega)) (fun c => ?_) (fun c => ?_)
    · refine ygo 99999 90 rfl rfl (by first | exact trivial | (simp only [true_and, yu, ya, reduceIte, Nat.reduceEqDiff, Int32.reduceToInt, Int.toNat_natCast, Int.reduceToNat]; omega) | decide | (simp; done)) ?_
      try simp only [List.map_cons, List.map_nil, List.length_cons, List.length_nil, ylr_s, ylr_0, Nat.reduceAdd, Nat.reduceSub, List.cons_append, List.nil_append, List.set_cons_zero, List.set_cons_succ, Option.toList_none, Option.toList_some, Int32.reduceToInt, yu, ya, reduceIte, Nat.reduceEqDiff, Int.toNat_natCast, Int.reduceToNat]
      refine yi_ret_v rfl rfl ⟨rfl, row, rfl, h1, h2⟩
    · omega
  | succ n ih =>
    intro i iz row hi hiz hl h1 h2
    have i1 : (88 * (b : Int) + iz).toNat = 88 * b + i := by omega
    refine ygo 99999 90 rfl rfl (by first | exact trivial | (simp only [true_and, yu, ya, reduceIte, Nat.reduceEqDiff, Int32.reduceToInt, Int.toNat_natCast, Int.reduceToNat]; omega) | decide | (simp; done)) ?_
    try simp only [List.map_cons, List.map_nil, List.length_cons, List.length_nil, ylr_s, ylr_0, Nat.reduceAdd, Nat.reduceSub, List.cons_append, List.nil_append, List.set_cons_zero, List.set_cons_succ, Option.toList_none, Option.toList_some, Int32.reduceToInt, yu, ya, reduceIte, Nat.reduceEqDiff, Int.toNat_natCast, Int.reduceToNat]
    refine yi_icmpge rfl (by refine ⟨?_, ?_⟩ <;> first | exact yr_t _ | exact yr_b _ | (unfold yr; omega)) (fun c => ?_) (fun c => ?_)
    · omega
    refine ygo 16 90 rfl rfl (by first | exact trivial | (simp only [true_and, yu, ya, reduceIte, Nat.reduceEqDiff, Int32.reduceToInt, Int.toNat_natCast, Int.reduceToNat]; omega) | decide | (simp; done)) ?_
    try simp only [List.map_cons, List.map_nil, List.length_cons, List.length_nil, ylr_s, ylr_0, Nat.reduceAdd, Nat.reduceSub, List.cons_append, List.nil_append, List.set_cons_zero, List.set_cons_succ, Option.toList_none, Option.toList_some, Int32.reduceToInt, yu, ya, reduceIte, Nat.reduceEqDiff, Int.toNat_natCast, Int.reduceToNat]
    rw [i1, ya_ya]
    refine ih (i + 1) _ _ (by omega) (by omega) (by rw [List.length_set]; exact hl) (fun j hj => ?_) (fun q hq => ?_)
    · by_cases e : j = i
      · subst e; rw [gset_eq (by omega)]; rfl
      · rw [gset_ne (by omega)]; exact h1 j (by omega)
    · rw [gset_ne (by omega)]; exact h2 q hq
theorem mB_empty {B : Nat → bB} {f : Nat → Int} {A : Nat → List Int32} {b : Nat} {row : List Int32} (h : mB B (f, A)) (hl : yok A) (hb : b < 16) (hB : ∀ c, c < 16 → (B c).2.2.length = 88) (h1 : ∀ j, j < 88 → row.getD (88 * b + j) 0 = 0) (h2 : ∀ q, ¬ (88 * b ≤ q ∧ q < 88 * b + 88) → row.getD q 0 = (A 32).getD q 0) : mB (fun q => if q = b then bEmpty else B q) (f, ya (ya (ya A 33 ((A 33).set b 0)) 34 ((A 34).set b 0)) 32 row) := by
  have l33 : (A 33).length = 16 := hl 33 _ rfl
  have l34 : (A 34).length = 16 := hl 34 _ rfl
  intro c hc
  simp only [ya, reduceIte, Nat.reduceEqDiff]
  by_cases e : c = b
  · subst e
    rw [if_pos rfl, gset_eq (by omega), gset_eq (by omega)]
    refine ⟨rfl, rfl, fun i o ho => ?_⟩
    have ho' : (List.replicate 88 (none : Option (List Int32)))[i]? = some o := ho
    rw [List.getElem?_replicate] at ho'
    split at ho'
    next hi =>
      cases ho'
      exact ⟨h1 i hi, fun k x hx => by simp at hx⟩
    next => cases ho'
  · rw [if_neg e, gset_ne e, gset_ne e]
    have hc' := h c hc
    refine ⟨hc'.1, hc'.2.1, fun i o ho => ?_⟩
    have hi := (List.getElem?_eq_some_iff.mp ho).1
    have := hB c hc
    rw [h2 _ (by omega)]
    exact hc'.2.2 i o ho
set_option maxRecDepth 100000 in
set_option maxHeartbeats 2000000 in
theorem cm_emptyBook {G : xG} {d a b : Nat} {Z : pZ} {f : Nat → Int} {A : Nat → List Int32} (h : mR Z (f, A)) (hB : ∀ c, c < 16 → (Z.2.2.2.2.1 c).2.2.length = 88) (hb : b < 16) : ym G d a mX9_emptyBook [.inr 0, .inl b] (f, A) (fun w Y' => w = none ∧ Y'.1 = f ∧ mR (zB Z b bEmpty) Y') := by
  refine ym.len (fun hlen => ?_)
  have l32 : (A 32).length = 1408 := hlen 32 _ rfl
  refine ym_at 3 rfl (by decide) (Nat.le_of_ble_eq_true rfl) tX9_emptyBook_ok ?_
  try simp only [List.map_cons, List.map_nil, List.length_cons, List.length_nil, ylr_s, ylr_0, Nat.reduceAdd, Nat.reduceSub, List.cons_append, List.nil_append, List.set_cons_zero, List.set_cons_succ, Option.toList_none, Option.toList_some, Int32.reduceToInt, yu, ya, reduceIte, Nat.reduceEqDiff, Int.toNat_natCast, Int.reduceToNat]
  refine ygo 16 90 rfl rfl (by first | exact trivial | (simp only [true_and, yu, ya, reduceIte, Nat.reduceEqDiff, Int32.reduceToInt, Int.toNat_natCast, Int.reduceToNat]; omega) | decide | (simp; done)) ?_
  try simp only [List.map_cons, List.map_nil, List.length_cons, List.length_nil, ylr_s, ylr_0, Nat.reduceAdd, Nat.reduceSub, List.cons_append, List.nil_append, List.set_cons_zero, List.set_cons_succ, Option.toList_none, Option.toList_some, Int32.reduceToInt, yu, ya, reduceIte, Nat.reduceEqDiff, Int.toNat_natCast, Int.reduceToNat]
  have hA : ya (ya A 33 ((A 33).set b (Int32.ofInt 0))) 34 ((A 34).set b (Int32.ofInt 0)) = ya (ya (ya A 33 ((A 33).set b (Int32.ofInt 0))) 34 ((A 34).set b (Int32.ofInt 0))) 32 (A 32) := by
    funext q
    unfold ya
    by_cases e : q = 32
    · subst e; rfl
    · rw [if_neg e]
  rw [hA]
  refine (l_emptyBook (A := ya (ya A 33 ((A 33).set b (Int32.ofInt 0))) 34 ((A 34).set b (Int32.ofInt 0))) hb 88 0 0 (A 32) (by omega) rfl l32 (fun j hj => absurd hj (by omega)) (fun q hq => rfl)).mono (fun w Y' hq => ?_)
  obtain ⟨rfl, row, rfl, h1, h2⟩ := hq
  exact ⟨rfl, rfl, h.1, h.2.1, h.2.2.1, mB_empty h.2.2.2.1 hlen hb hB h1 h2, h.2.2.2.2⟩
/-- a book is right -/
def okBk (V : bB) : Prop := V.2.2.length = 88 ∧ (∀ (i : Nat) (bs : List Int32), V.2.2[i]? = some (some bs) → 1 ≤ bs.length ∧ bs.length ≤ 100 ∧ ∀ x ∈ bs, blw x 256) ∧ V.1.2.1 = nI (V.2.2.countP Option.isSome) ∧ V.1.2.2 = nI (pjoin V.2.2).length ∧ ∃ w : Nat, w ≤ 88 ∧ V.1.1 = nI w ∧ ∀ i, w ≤ i → i < 88 → V.2.2[i]? = some none
set_option maxRecDepth 100000 in
set_option maxHeartbeats 2000000 in
theorem o_drop {G : xG} {d a : Nat} {p : Int32} {Z : pZ} {f : Nat → Int} {A : Nat → List Int32} (h : mR Z (f, A)) (hB : ∀ c, c < 16 → okBk (Z.2.2.2.2.1 c)) : ym G (d + 20) a mX9_drop [.inr 0, .inl p.toInt] (f, A) (ypost (F_drop p Z)) := by
  unfold F_drop
  refine ym_at 3 rfl (by decide) (Nat.le_of_ble_eq_true rfl) tX9_drop_ok ?_
  try simp only [List.map_cons, List.map_nil, List.length_cons, List.length_nil, ylr_s, ylr_0, Nat.reduceAdd, Nat.reduceSub, List.cons_append, List.nil_append, List.set_cons_zero, List.set_cons_succ, Option.toList_none, Option.toList_some, Int32.reduceToInt, yu, ya, reduceIte, Nat.reduceEqDiff, Int.toNat_natCast, Int.reduceToNat]
  refine ygo 99999 90 rfl rfl (by first | exact trivial | (simp only [true_and, yu, ya, reduceIte, Nat.reduceEqDiff, Int32.reduceToInt, Int.toNat_natCast, Int.reduceToNat]; omega) | decide | (simp; done)) ?_
  try simp only [List.map_cons, List.map_nil, List.length_cons, List.length_nil, ylr_s, ylr_0, Nat.reduceAdd, Nat.reduceSub, List.cons_append, List.nil_append, List.set_cons_zero, List.set_cons_succ, Option.toList_none, Option.toList_some, Int32.reduceToInt, yu, ya, reduceIte, Nat.reduceEqDiff, Int.toNat_natCast, Int.reduceToNat]
  refine ycS rfl rfl rfl (cm_in (yr_t _) (by unfold yr; omega)) rfl kX9_in iX9_in rfl rfl (Nat.le_of_ble_eq_true rfl) (fun v1 Y1 q1 => ?_)
  obtain ⟨rfl, rfl⟩ := q1
  refine ygo 99999 90 rfl rfl (by first | exact trivial | (simp only [true_and, yu, ya, reduceIte, Nat.reduceEqDiff, Int32.reduceToInt, Int.toNat_natCast, Int.reduceToNat]; omega) | decide | (simp; done)) ?_
  try simp only [List.map_cons, List.map_nil, List.length_cons, List.length_nil, ylr_s, ylr_0, Nat.reduceAdd, Nat.reduceSub, List.cons_append, List.nil_append, List.set_cons_zero, List.set_cons_succ, Option.toList_none, Option.toList_some, Int32.reduceToInt, yu, ya, reduceIte, Nat.reduceEqDiff, Int.toNat_natCast, Int.reduceToNat]
  refine yi_ifne rfl (by first | exact yr_t _ | exact yr_b _ | (unfold yr; omega)) (fun c1 => ?_) (fun c1 => ?_)
  · rw [if_pos (by omega)]
    generalize hb : p.toInt.toNat = b
    have hpz : p.toInt = b := by omega
    have hb16 : b < 16 := by omega
    have h34 : (A 34).getD b 0 = (Z.2.2.2.2.1 b).1.2.1 := (h.2.2.2.1 b hb16).2.1
    rw [hpz]
    refine ygo 99999 90 rfl rfl (by first | exact trivial | (simp only [true_and, yu, ya, reduceIte, Nat.reduceEqDiff, Int32.reduceToInt, Int.toNat_natCast, Int.reduceToNat]; omega) | decide | (simp; done)) ?_
    try simp only [List.map_cons, List.map_nil, List.length_cons, List.length_nil, ylr_s, ylr_0, Nat.reduceAdd, Nat.reduceSub, List.cons_append, List.nil_append, List.set_cons_zero, List.set_cons_succ, Option.toList_none, Option.toList_some, Int32.reduceToInt, yu, ya, reduceIte, Nat.reduceEqDiff, Int.toNat_natCast, Int.reduceToNat]
    refine ycV rfl rfl rfl (cm_emptyBook h (fun c hc => (hB c hc).1) hb16) rfl kX9_emptyBook iX9_emptyBook rfl rfl rfl (Nat.le_of_ble_eq_true rfl) (fun v2 Y2 q2 => ?_)
    obtain ⟨rfl, -, hR⟩ := q2
    refine ygo 99999 90 rfl rfl (by first | exact trivial | (simp only [true_and, yu, ya, reduceIte, Nat.reduceEqDiff, Int32.reduceToInt, Int.toNat_natCast, Int.reduceToNat]; omega) | decide | (simp; done)) ?_
    try simp only [List.map_cons, List.map_nil, List.length_cons, List.length_nil, ylr_s, ylr_0, Nat.reduceAdd, Nat.reduceSub, List.cons_append, List.nil_append, List.set_cons_zero, List.set_cons_succ, Option.toList_none, Option.toList_some, Int32.reduceToInt, yu, ya, reduceIte, Nat.reduceEqDiff, Int.toNat_natCast, Int.reduceToNat]
    refine yi_ret_i rfl rfl ⟨by rw [h34], hR⟩
  · refine ygo 99999 90 rfl rfl (by first | exact trivial | (simp only [true_and, yu, ya, reduceIte, Nat.reduceEqDiff, Int32.reduceToInt, Int.toNat_natCast, Int.reduceToNat]; omega) | decide | (simp; done)) ?_
    try simp only [List.map_cons, List.map_nil, List.length_cons, List.length_nil, ylr_s, ylr_0, Nat.reduceAdd, Nat.reduceSub, List.cons_append, List.nil_append, List.set_cons_zero, List.set_cons_succ, Option.toList_none, Option.toList_some, Int32.reduceToInt, yu, ya, reduceIte, Nat.reduceEqDiff, Int.toNat_natCast, Int.reduceToNat]
    refine yi_ret_i rfl rfl (ypost.same h (if_neg (by omega)) rfl)
theorem phas_n {P : List (Option (List Int32))} {i : Nat} {o : Option (List Int32)} (hi : i < 88) (h : P[i]? = some o) : phas P (nI i) = o.isSome := by
  unfold phas
  rw [i_n (by omega), decide_eq_true (by omega), Int.toNat_natCast, List.getD_eq_getElem?_getD, h]
  simp
theorem okBk.len {V : bB} (h : okBk V) {i : Nat} {o : Option (List Int32)} (ho : V.2.2[i]? = some o) : (o.isSome = true ↔ 0 < (o.getD []).length) ∧ (o.getD []).length ≤ 100 := by
  cases o with
  | none => simp
  | some bs =>
    have := h.2.1 i bs ho
    simp
    omega
set_option maxRecDepth 100000 in
set_option maxHeartbeats 2000000 in
theorem o_book {G : xG} {d a : Nat} {p w : Int32} {Z : pZ} {f : Nat → Int} {A : Nat → List Int32} (h : mR Z (f, A)) (hB : ∀ c, c < 16 → okBk (Z.2.2.2.2.1 c)) : ym G (d + 20) a mX9_book [.inr 0, .inl p.toInt, .inl w.toInt] (f, A) (ypost (F_book p w Z)) := by
  unfold F_book
  have z0 : (0 : Int32).toInt = 0 := rfl
  have z1 : (1 : Int32).toInt = 1 := rfl
  have hwr := i_rng w
  refine ym_at 3 rfl (by decide) (Nat.le_of_ble_eq_true rfl) tX9_book_ok ?_
  try simp only [List.map_cons, List.map_nil, List.length_cons, List.length_nil, ylr_s, ylr_0, Nat.reduceAdd, Nat.reduceSub, List.cons_append, List.nil_append, List.set_cons_zero, List.set_cons_succ, Option.toList_none, Option.toList_some, Int32.reduceToInt, yu, ya, reduceIte, Nat.reduceEqDiff, Int.toNat_natCast, Int.reduceToNat]
  refine ygo 99999 90 rfl rfl (by first | exact trivial | (simp only [true_and, yu, ya, reduceIte, Nat.reduceEqDiff, Int32.reduceToInt, Int.toNat_natCast, Int.reduceToNat]; omega) | decide | (simp; done)) ?_
  try simp only [List.map_cons, List.map_nil, List.length_cons, List.length_nil, ylr_s, ylr_0, Nat.reduceAdd, Nat.reduceSub, List.cons_append, List.nil_append, List.set_cons_zero, List.set_cons_succ, Option.toList_none, Option.toList_some, Int32.reduceToInt, yu, ya, reduceIte, Nat.reduceEqDiff, Int.toNat_natCast, Int.reduceToNat]
  refine ycS rfl rfl rfl (cm_in (yr_t _) (by unfold yr; omega)) rfl kX9_in iX9_in rfl rfl (Nat.le_of_ble_eq_true rfl) (fun v1 Y1 q1 => ?_)
  obtain ⟨rfl, rfl⟩ := q1
  refine ygo 99999 90 rfl rfl (by first | exact trivial | (simp only [true_and, yu, ya, reduceIte, Nat.reduceEqDiff, Int32.reduceToInt, Int.toNat_natCast, Int.reduceToNat]; omega) | decide | (simp; done)) ?_
  try simp only [List.map_cons, List.map_nil, List.length_cons, List.length_nil, ylr_s, ylr_0, Nat.reduceAdd, Nat.reduceSub, List.cons_append, List.nil_append, List.set_cons_zero, List.set_cons_succ, Option.toList_none, Option.toList_some, Int32.reduceToInt, yu, ya, reduceIte, Nat.reduceEqDiff, Int.toNat_natCast, Int.reduceToNat]
  refine yi_ifeq rfl (by first | exact yr_t _ | exact yr_b _ | (unfold yr; omega)) (fun c1 => ?_) (fun c1 => ?_)
  · refine ygo 99999 90 rfl rfl (by first | exact trivial | (simp only [true_and, yu, ya, reduceIte, Nat.reduceEqDiff, Int32.reduceToInt, Int.toNat_natCast, Int.reduceToNat]; omega) | decide | (simp; done)) ?_
    try simp only [List.map_cons, List.map_nil, List.length_cons, List.length_nil, ylr_s, ylr_0, Nat.reduceAdd, Nat.reduceSub, List.cons_append, List.nil_append, List.set_cons_zero, List.set_cons_succ, Option.toList_none, Option.toList_some, Int32.reduceToInt, yu, ya, reduceIte, Nat.reduceEqDiff, Int.toNat_natCast, Int.reduceToNat]
    refine yi_ret_i rfl rfl (ypost.same h (if_pos (by omega)) rfl)
  refine ygo 99999 90 rfl rfl (by first | exact trivial | (simp only [true_and, yu, ya, reduceIte, Nat.reduceEqDiff, Int32.reduceToInt, Int.toNat_natCast, Int.reduceToNat]; omega) | decide | (simp; done)) ?_
  try simp only [List.map_cons, List.map_nil, List.length_cons, List.length_nil, ylr_s, ylr_0, Nat.reduceAdd, Nat.reduceSub, List.cons_append, List.nil_append, List.set_cons_zero, List.set_cons_succ, Option.toList_none, Option.toList_some, Int32.reduceToInt, yu, ya, reduceIte, Nat.reduceEqDiff, Int.toNat_natCast, Int.reduceToNat]
  refine yi_ifge rfl (by first | exact yr_t _ | exact yr_b _ | (unfold yr; omega)) (fun c2 => ?_) (fun c2 => ?_)
  · rw [if_neg (by omega)]
    generalize hb : p.toInt.toNat = b
    have hpz : p.toInt = b := by omega
    have hb16 : b < 16 := by omega
    have hM := h.2.2.2.1 b hb16
    have hV := hB b hb16
    rw [hpz]
    dsimp only at hM
    refine ygo 99999 90 rfl rfl (by first | exact trivial | (simp only [true_and, yu, ya, reduceIte, Nat.reduceEqDiff, Int32.reduceToInt, Int.toNat_natCast, Int.reduceToNat]; omega) | decide | (simp; done)) ?_
    try simp only [List.map_cons, List.map_nil, List.length_cons, List.length_nil, ylr_s, ylr_0, Nat.reduceAdd, Nat.reduceSub, List.cons_append, List.nil_append, List.set_cons_zero, List.set_cons_succ, Option.toList_none, Option.toList_some, Int32.reduceToInt, yu, ya, reduceIte, Nat.reduceEqDiff, Int.toNat_natCast, Int.reduceToNat]
    refine yi_icmpge rfl (by refine ⟨?_, ?_⟩ <;> first | exact yr_t _ | exact yr_b _ | (unfold yr; omega)) (fun c3 => ?_) (fun c3 => ?_)
    · rw [if_neg (by rw [i_eq]; omega), if_neg (by rw [i_eq]; omega)]
      by_cases hw : w.toInt < 90
      · generalize hi : (w.toInt - 2).toNat = i
        have hwi : w - 2 = nI i := by
          have e : w = nI (i + 2) := by rw [i_eq, i_n (by omega)]; omega
          rw [e]
          exact nI_subN (b := 2) (by omega)
        obtain ⟨o, ho⟩ := lt_get (l := (Z.2.2.2.2.1 b).2.2) (j := i) (by rw [hV.1]; omega)
        have hl := hV.len ho
        have hg := (hM.2.2 i o ho).1
        have i1 : (88 * (b : Int) + w.toInt - 2).toNat = 88 * b + i := by omega
        have hgl : ((A 32).getD (88 * b + i) 0).toInt = (o.getD []).length := by rw [hg, i_n (by omega)]
        rw [hwi, phas_n (by omega) ho]
        refine ygo 99999 90 rfl rfl (by first | exact trivial | (simp only [true_and, yu, ya, reduceIte, Nat.reduceEqDiff, Int32.reduceToInt, Int.toNat_natCast, Int.reduceToNat]; omega) | decide | (simp; done)) ?_
        try simp only [List.map_cons, List.map_nil, List.length_cons, List.length_nil, ylr_s, ylr_0, Nat.reduceAdd, Nat.reduceSub, List.cons_append, List.nil_append, List.set_cons_zero, List.set_cons_succ, Option.toList_none, Option.toList_some, Int32.reduceToInt, yu, ya, reduceIte, Nat.reduceEqDiff, Int.toNat_natCast, Int.reduceToNat]
        refine yi_icmpge rfl (by refine ⟨?_, ?_⟩ <;> first | exact yr_t _ | exact yr_b _ | (unfold yr; omega)) (fun c4 => ?_) (fun c4 => ?_)
        · omega
        refine ygo 99999 90 rfl rfl (by first | exact trivial | (simp only [true_and, yu, ya, reduceIte, Nat.reduceEqDiff, Int32.reduceToInt, Int.toNat_natCast, Int.reduceToNat]; omega) | decide | (simp; done)) ?_
        try simp only [List.map_cons, List.map_nil, List.length_cons, List.length_nil, ylr_s, ylr_0, Nat.reduceAdd, Nat.reduceSub, List.cons_append, List.nil_append, List.set_cons_zero, List.set_cons_succ, Option.toList_none, Option.toList_some, Int32.reduceToInt, yu, ya, reduceIte, Nat.reduceEqDiff, Int.toNat_natCast, Int.reduceToNat]
        refine yi_ifle rfl (by first | exact yr_t _ | exact yr_b _ | (unfold yr; omega)) (fun c5 => ?_) (fun c5 => ?_)
        · rw [i1, hgl] at c5
          refine ygo 99999 90 rfl rfl (by first | exact trivial | (simp only [true_and, yu, ya, reduceIte, Nat.reduceEqDiff, Int32.reduceToInt, Int.toNat_natCast, Int.reduceToNat]; omega) | decide | (simp; done)) ?_
          try simp only [List.map_cons, List.map_nil, List.length_cons, List.length_nil, ylr_s, ylr_0, Nat.reduceAdd, Nat.reduceSub, List.cons_append, List.nil_append, List.set_cons_zero, List.set_cons_succ, Option.toList_none, Option.toList_some, Int32.reduceToInt, yu, ya, reduceIte, Nat.reduceEqDiff, Int.toNat_natCast, Int.reduceToNat]
          refine yi_ret_i rfl rfl (ypost.same h rfl (by cases hos : o.isSome with | true => have := hl.1.mp hos; omega | false => rfl))
        · rw [i1, hgl] at c5
          refine ygo 99999 90 rfl rfl (by first | exact trivial | (simp only [true_and, yu, ya, reduceIte, Nat.reduceEqDiff, Int32.reduceToInt, Int.toNat_natCast, Int.reduceToNat]; omega) | decide | (simp; done)) ?_
          try simp only [List.map_cons, List.map_nil, List.length_cons, List.length_nil, ylr_s, ylr_0, Nat.reduceAdd, Nat.reduceSub, List.cons_append, List.nil_append, List.set_cons_zero, List.set_cons_succ, Option.toList_none, Option.toList_some, Int32.reduceToInt, yu, ya, reduceIte, Nat.reduceEqDiff, Int.toNat_natCast, Int.reduceToNat]
          refine yi_ret_i rfl rfl (ypost.same h rfl (by rw [hl.1.mpr (by omega)]; rfl))
      · have hph : phas (Z.2.2.2.2.1 b).2.2 (w - 2) = false := by
          unfold phas
          have e : w = nI w.toInt.toNat := toN (by omega)
          have e2 : w - 2 = nI (w.toInt.toNat - 2) := by
            rw [e]
            rw [i_n (by omega)]
            exact nI_subN (b := 2) (by omega)
          rw [e2, i_n (by omega), decide_eq_false (by omega)]
          rfl
        rw [hph]
        refine ygo 99999 90 rfl rfl (by first | exact trivial | (simp only [true_and, yu, ya, reduceIte, Nat.reduceEqDiff, Int32.reduceToInt, Int.toNat_natCast, Int.reduceToNat]; omega) | decide | (simp; done)) ?_
        try simp only [List.map_cons, List.map_nil, List.length_cons, List.length_nil, ylr_s, ylr_0, Nat.reduceAdd, Nat.reduceSub, List.cons_append, List.nil_append, List.set_cons_zero, List.set_cons_succ, Option.toList_none, Option.toList_some, Int32.reduceToInt, yu, ya, reduceIte, Nat.reduceEqDiff, Int.toNat_natCast, Int.reduceToNat]
        refine yi_icmpge rfl (by refine ⟨?_, ?_⟩ <;> first | exact yr_t _ | exact yr_b _ | (unfold yr; omega)) (fun c4 => ?_) (fun c4 => ?_)
        · refine ygo 99999 90 rfl rfl (by first | exact trivial | (simp only [true_and, yu, ya, reduceIte, Nat.reduceEqDiff, Int32.reduceToInt, Int.toNat_natCast, Int.reduceToNat]; omega) | decide | (simp; done)) ?_
          try simp only [List.map_cons, List.map_nil, List.length_cons, List.length_nil, ylr_s, ylr_0, Nat.reduceAdd, Nat.reduceSub, List.cons_append, List.nil_append, List.set_cons_zero, List.set_cons_succ, Option.toList_none, Option.toList_some, Int32.reduceToInt, yu, ya, reduceIte, Nat.reduceEqDiff, Int.toNat_natCast, Int.reduceToNat]
          refine yi_ret_i rfl rfl (ypost.same h rfl rfl)
        · omega
    · refine ygo 99999 90 rfl rfl (by first | exact trivial | (simp only [true_and, yu, ya, reduceIte, Nat.reduceEqDiff, Int32.reduceToInt, Int.toNat_natCast, Int.reduceToNat]; omega) | decide | (simp; done)) ?_
      try simp only [List.map_cons, List.map_nil, List.length_cons, List.length_nil, ylr_s, ylr_0, Nat.reduceAdd, Nat.reduceSub, List.cons_append, List.nil_append, List.set_cons_zero, List.set_cons_succ, Option.toList_none, Option.toList_some, Int32.reduceToInt, yu, ya, reduceIte, Nat.reduceEqDiff, Int.toNat_natCast, Int.reduceToNat]
      refine yi_ifne rfl (by first | exact yr_t _ | exact yr_b _ | (unfold yr; omega)) (fun c4 => ?_) (fun c4 => ?_)
      · rw [if_neg (by rw [i_eq]; omega), if_pos (by rw [i_eq]; omega)]
        refine ygo 99999 90 rfl rfl (by first | exact trivial | (simp only [true_and, yu, ya, reduceIte, Nat.reduceEqDiff, Int32.reduceToInt, Int.toNat_natCast, Int.reduceToNat]; omega) | decide | (simp; done)) ?_
        try simp only [List.map_cons, List.map_nil, List.length_cons, List.length_nil, ylr_s, ylr_0, Nat.reduceAdd, Nat.reduceSub, List.cons_append, List.nil_append, List.set_cons_zero, List.set_cons_succ, Option.toList_none, Option.toList_some, Int32.reduceToInt, yu, ya, reduceIte, Nat.reduceEqDiff, Int.toNat_natCast, Int.reduceToNat]
        refine yi_ret_i rfl rfl (ypost.same h rfl (by rw [hM.2.1]))
      · rw [if_pos (by rw [i_eq]; omega)]
        refine ygo 99999 90 rfl rfl (by first | exact trivial | (simp only [true_and, yu, ya, reduceIte, Nat.reduceEqDiff, Int32.reduceToInt, Int.toNat_natCast, Int.reduceToNat]; omega) | decide | (simp; done)) ?_
        try simp only [List.map_cons, List.map_nil, List.length_cons, List.length_nil, ylr_s, ylr_0, Nat.reduceAdd, Nat.reduceSub, List.cons_append, List.nil_append, List.set_cons_zero, List.set_cons_succ, Option.toList_none, Option.toList_some, Int32.reduceToInt, yu, ya, reduceIte, Nat.reduceEqDiff, Int.toNat_natCast, Int.reduceToNat]
        refine yi_ret_i rfl rfl (ypost.same h rfl (by rw [hM.1]))
  · refine ygo 99999 90 rfl rfl (by first | exact trivial | (simp only [true_and, yu, ya, reduceIte, Nat.reduceEqDiff, Int32.reduceToInt, Int.toNat_natCast, Int.reduceToNat]; omega) | decide | (simp; done)) ?_
    try simp only [List.map_cons, List.map_nil, List.length_cons, List.length_nil, ylr_s, ylr_0, Nat.reduceAdd, Nat.reduceSub, List.cons_append, List.nil_append, List.set_cons_zero, List.set_cons_succ, Option.toList_none, Option.toList_some, Int32.reduceToInt, yu, ya, reduceIte, Nat.reduceEqDiff, Int.toNat_natCast, Int.reduceToNat]
    refine yi_ret_i rfl rfl (ypost.same h (if_pos (by omega)) rfl)
/-- the parts' bytes up to i -/
theorem pj_take {P : List (Option (List Int32))} {i : Nat} {o : Option (List Int32)} (h : P[i]? = some o) : (pjoin (P.take (i + 1))).length = (pjoin (P.take i)).length + (o.getD []).length := by
  rw [pjoin_snoc P h, List.length_append]
theorem pj_none {P : List (Option (List Int32))} {w : Nat} (h : ∀ i, w ≤ i → i < P.length → P[i]? = some none) : pjoin (P.take w) = pjoin P := by
  have key : ∀ n, w + n ≤ P.length → pjoin (P.take (w + n)) = pjoin (P.take w) := by
    intro n
    induction n with
    | zero => intro _; rfl
    | succ n ih =>
      intro hn
      rw [show w + (n + 1) = (w + n) + 1 by omega, pjoin_snoc P (h (w + n) (by omega) (by omega)), ih (by omega)]
      simp
  by_cases hw : w ≤ P.length
  · have := key (P.length - w) (by omega)
    rw [show w + (P.length - w) = P.length by omega, List.take_length] at this
    exact this.symm
  · rw [List.take_of_length_le (by omega)]
theorem pj_le {V : bB} (h : okBk V) : ∀ i, i ≤ 88 → (pjoin (V.2.2.take i)).length ≤ 100 * i := by
  intro i
  induction i with
  | zero => intro _; simp [pjoin]
  | succ i ih =>
    intro hi
    obtain ⟨o, ho⟩ := lt_get (l := V.2.2) (j := i) (by rw [h.1]; omega)
    rw [pj_take ho]
    have := (h.len ho).2
    have := ih (by omega)
    omega
set_option maxRecDepth 100000 in
set_option maxHeartbeats 2000000 in
theorem l_bookLength {G : xG} {d a b w : Nat} {f : Nat → Int} {A : Nat → List Int32} {B : Nat → bB} (h : mB B (f, A)) (hV : okBk (B b)) (hb : b < 16) (hw : (B b).1.1 = nI w) (hw88 : w ≤ 88) : ∀ (n i : Nat) (iz nz : Int), i + n = w → iz = i → nz = (pjoin ((B b).2.2.take i)).length →
    yw G d a mX9_bookLength 4 [some (.inr 0), some (.inl b), some (.inl nz), some (.inl iz)] [] (f, A) (fun v Y' => v = some (.inl (pjoin ((B b).2.2.take w)).length) ∧ Y' = (f, A)) := by
  have hM := h b hb
  dsimp only at hM
  have hwz : ((A 33).getD b 0).toInt = w := by rw [hM.1, hw, i_n (by omega)]
  intro n
  induction n with
  | zero =>
    intro i iz nz hi hiz hn
    have : i = w := by omega
    subst this
    refine ygo 99999 90 rfl rfl (by first | exact trivial | (simp only [true_and, yu, ya, reduceIte, Nat.reduceEqDiff, Int32.reduceToInt, Int.toNat_natCast, Int.reduceToNat]; omega) | decide | (simp; done)) ?_
    try simp only [List.map_cons, List.map_nil, List.length_cons, List.length_nil, ylr_s, ylr_0, Nat.reduceAdd, Nat.reduceSub, List.cons_append, List.nil_append, List.set_cons_zero, List.set_cons_succ, Option.toList_none, Option.toList_some, Int32.reduceToInt, yu, ya, reduceIte, Nat.reduceEqDiff, Int.toNat_natCast, Int.reduceToNat]
    refine yi_icmpge rfl (by refine ⟨?_, ?_⟩ <;> first | exact yr_t _ | exact yr_b _ | (unfold yr; omega)) (fun c => ?_) (fun c => ?_)
    · refine ygo 99999 90 rfl rfl (by first | exact trivial | (simp only [true_and, yu, ya, reduceIte, Nat.reduceEqDiff, Int32.reduceToInt, Int.toNat_natCast, Int.reduceToNat]; omega) | decide | (simp; done)) ?_
      try simp only [List.map_cons, List.map_nil, List.length_cons, List.length_nil, ylr_s, ylr_0, Nat.reduceAdd, Nat.reduceSub, List.cons_append, List.nil_append, List.set_cons_zero, List.set_cons_succ, Option.toList_none, Option.toList_some, Int32.reduceToInt, yu, ya, reduceIte, Nat.reduceEqDiff, Int.toNat_natCast, Int.reduceToNat]
      refine yi_ret_i rfl rfl ⟨by rw [hn], rfl⟩
    · omega
  | succ n ih =>
    intro i iz nz hi hiz hn
    obtain ⟨o, ho⟩ := lt_get (l := (B b).2.2) (j := i) (by rw [hV.1]; omega)
    have hg := (hM.2.2 i o ho).1
    have hl := hV.len ho
    have i1 : (88 * (b : Int) + iz).toNat = 88 * b + i := by omega
    have hgl : ((A 32).getD (88 * b + i) 0).toInt = (o.getD []).length := by rw [hg, i_n (by omega)]
    have hpt := pj_take ho
    refine ygo 99999 90 rfl rfl (by first | exact trivial | (simp only [true_and, yu, ya, reduceIte, Nat.reduceEqDiff, Int32.reduceToInt, Int.toNat_natCast, Int.reduceToNat]; omega) | decide | (simp; done)) ?_
    try simp only [List.map_cons, List.map_nil, List.length_cons, List.length_nil, ylr_s, ylr_0, Nat.reduceAdd, Nat.reduceSub, List.cons_append, List.nil_append, List.set_cons_zero, List.set_cons_succ, Option.toList_none, Option.toList_some, Int32.reduceToInt, yu, ya, reduceIte, Nat.reduceEqDiff, Int.toNat_natCast, Int.reduceToNat]
    refine yi_icmpge rfl (by refine ⟨?_, ?_⟩ <;> first | exact yr_t _ | exact yr_b _ | (unfold yr; omega)) (fun c => ?_) (fun c => ?_)
    · omega
    refine ygo 4 90 rfl rfl (by first | exact trivial | (simp only [true_and, yu, ya, reduceIte, Nat.reduceEqDiff, Int32.reduceToInt, Int.toNat_natCast, Int.reduceToNat]; omega) | decide | (simp; done)) ?_
    try simp only [List.map_cons, List.map_nil, List.length_cons, List.length_nil, ylr_s, ylr_0, Nat.reduceAdd, Nat.reduceSub, List.cons_append, List.nil_append, List.set_cons_zero, List.set_cons_succ, Option.toList_none, Option.toList_some, Int32.reduceToInt, yu, ya, reduceIte, Nat.reduceEqDiff, Int.toNat_natCast, Int.reduceToNat]
    rw [i1]
    exact ih (i + 1) _ _ (by omega) (by omega) (by omega)
set_option maxRecDepth 100000 in
set_option maxHeartbeats 2000000 in
theorem cm_bookLength {G : xG} {d a b : Nat} {f : Nat → Int} {A : Nat → List Int32} {B : Nat → bB} (h : mB B (f, A)) (hV : okBk (B b)) (hb : b < 16) : ym G d a mX9_bookLength [.inr 0, .inl b] (f, A) (fun v Y' => v = some (.inl (pjoin (B b).2.2).length) ∧ Y' = (f, A)) := by
  obtain ⟨w, hw88, hw, hnone⟩ := hV.2.2.2.2
  rw [← pj_none (w := w) (fun i h1 h2 => hnone i h1 (by rw [hV.1] at h2; exact h2))]
  refine ym_at 4 rfl (by decide) (Nat.le_of_ble_eq_true rfl) tX9_bookLength_ok ?_
  try simp only [List.map_cons, List.map_nil, List.length_cons, List.length_nil, ylr_s, ylr_0, Nat.reduceAdd, Nat.reduceSub, List.cons_append, List.nil_append, List.set_cons_zero, List.set_cons_succ, Option.toList_none, Option.toList_some, Int32.reduceToInt, yu, ya, reduceIte, Nat.reduceEqDiff, Int.toNat_natCast, Int.reduceToNat]
  refine ygo 4 90 rfl rfl (by first | exact trivial | (simp only [true_and, yu, ya, reduceIte, Nat.reduceEqDiff, Int32.reduceToInt, Int.toNat_natCast, Int.reduceToNat]; omega) | decide | (simp; done)) ?_
  try simp only [List.map_cons, List.map_nil, List.length_cons, List.length_nil, ylr_s, ylr_0, Nat.reduceAdd, Nat.reduceSub, List.cons_append, List.nil_append, List.set_cons_zero, List.set_cons_succ, Option.toList_none, Option.toList_some, Int32.reduceToInt, yu, ya, reduceIte, Nat.reduceEqDiff, Int.toNat_natCast, Int.reduceToNat]
  exact l_bookLength h hV hb hw hw88 w 0 0 0 (by omega) rfl (by simp [pjoin])
