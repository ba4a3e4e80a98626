/-! ===== the reference against the class: what its cells say ===== -/
def mD (K : cV) (dr : Bool) (Y : yS) : Prop := Y.1 0 = bInt dr ∧ Y.1 1 = K.1.1.toInt ∧ Y.1 2 = K.1.2.1.toInt ∧ Y.1 3 = K.1.2.2.1.toInt ∧ Y.1 4 = K.2.1.length ∧ (∀ (i : Nat) (e : Int32 × Int32 × Int32), K.2.1[i]? = some e → (Y.2 5).getD i 0 = e.1 ∧ (Y.2 6).getD i 0 = e.2.1 ∧ (Y.2 7).getD i 0 = e.2.2) ∧ Y.1 8 = K.2.2.1.length ∧ (∀ (i : Nat) (e : Int32), K.2.2.1[i]? = some e → (Y.2 9).getD i 0 = e) ∧ Y.1 10 = K.2.2.2.length ∧ ∀ (r : Nat) (e : Int32 × Int32 × List Int32), K.2.2.2[r]? = some e → (Y.2 11).getD r 0 = e.1 ∧ (Y.2 12).getD r 0 = e.2.1 ∧ (Y.2 13).getD r 0 = nI e.2.2.length ∧ ∀ (i : Nat) (x : Int32), e.2.2[i]? = some x → (Y.2 14).getD (120 * r + i) 0 = x
def mP (P : List pP) (Y : yS) : Prop := Y.1 19 = P.length ∧ ∀ (p : Nat) (x : pP), P[p]? = some x → (Y.2 21).getD p 0 = nI x.2.2.length ∧ ∀ (i : Nat) (b : Int32), x.2.2[i]? = some b → (Y.2 20).getD (700 * p + i) 0 = b
def mT (r : List Int32) (Y : yS) : Prop := Y.1 30 = r.length ∧ ∀ (i : Nat) (b : Int32), r[i]? = some b → (Y.2 29).getD i 0 = b
def mB (B : Nat → bB) (Y : yS) : Prop := ∀ b, b < 16 → (Y.2 33).getD b 0 = (B b).1.1 ∧ (Y.2 34).getD b 0 = (B b).1.2.1 ∧ ∀ (i : Nat) (o : Option (List Int32)), (B b).2.2[i]? = some o → (Y.2 32).getD (88 * b + i) 0 = nI (o.getD []).length ∧ ∀ (k : Nat) (x : Int32), (o.getD [])[k]? = some x → (Y.2 31).getD (100 * (88 * b + i) + k) 0 = x.toInt8.toInt32
def mE (e : Nat) (V : eV) (Y : yS) : Prop := (Y.2 36).getD e 0 = V.1.1.1 ∧ (Y.2 37).getD e 0 = V.1.1.2.1 ∧ (Y.2 38).getD e 0 = V.1.1.2.2.1 ∧ (Y.2 39).getD e 0 = V.2.2.2.1 ∧ (Y.2 40).getD e 0 = nI V.2.1.length ∧ (∀ (i : Nat) (m : Int32), V.2.1[i]? = some m → (Y.2 41).getD (4 * e + i) 0 = m) ∧ (Y.2 42).getD e 0 = nI V.1.2.2.1.length ∧ (∀ (i : Nat) (g : Int32), V.1.2.2.1[i]? = some g → (Y.2 43).getD (4 * e + i) 0 = g) ∧ (Y.2 44).getD e 0 = nI V.1.2.2.2.length ∧ (∀ (r : Nat) (w : Int32 × Int32 × List Int32), V.1.2.2.2[r]? = some w → (Y.2 45).getD (8 * e + r) 0 = w.1 ∧ (Y.2 46).getD (8 * e + r) 0 = nI w.2.2.length ∧ ∀ (i : Nat) (x : Int32), w.2.2[i]? = some x → (Y.2 47).getD (120 * (8 * e + r) + i) 0 = x) ∧ (Y.2 48).getD e 0 = nI V.2.2.2.2.length ∧ ∀ (i : Nat) (m : Int32), V.2.2.2.2[i]? = some m → (Y.2 49).getD (4 * e + i) 0 = m
def mS (L : sL) (Y : yS) : Prop := Y.1 35 = L.length ∧ ∀ (e : Nat) (x : Nat × Nat × eV), L[e]? = some x → mE e x.2.2 Y
def mR (Z : pZ) (Y : yS) : Prop := mD Z.1 Z.2.1 Y ∧ mP Z.2.2.1 Y ∧ mT Z.2.2.2.1 Y ∧ mB Z.2.2.2.2.1 Y ∧ mS Z.2.2.2.2.2.1 Y ∧ Y.1 50 = Z.2.2.2.2.2.2.toInt
/-- what the reference's call leaves -/
def ypost (F : Int32 × pZ) : Option yv → yS → Prop := fun v Y' => v = some (.inl F.1.toInt) ∧ mR F.2 Y'
theorem ypost.same {F : Int32 × pZ} {Z : pZ} {Y : yS} {z : Int} {w : Int32} (h : mR Z Y) (e : F = (w, Z)) (hz : z = w.toInt) : ypost F (some (.inl z)) Y := by
  subst e
  exact ⟨by rw [hz], h⟩
/-- the draft's numbers are right -/
def okK (K : cV) : Prop := blw K.1.1 64 ∧ blw K.1.2.1 100 ∧ blw K.1.2.2.1 2 ∧ K.2.1.length ≤ 4 ∧ (∀ e ∈ K.2.1, blw e.1 64 ∧ blw e.2.1 100 ∧ (e.2.2 = 0 ∨ e.2.2 = 1)) ∧ K.2.2.1.length ≤ 4 ∧ (∀ e ∈ K.2.2.1, blw e 16) ∧ K.2.2.2.length ≤ 8 ∧ ∀ e ∈ K.2.2.2, blw e.1 256 ∧ blw e.2.1 3 ∧ e.2.2.length ≤ 120 ∧ ∀ x ∈ e.2.2, blw x 256
theorem tk_map {α : Type} {l : List α} {B : List Int32} {g : α → Int32} (h : ∀ i e, l[i]? = some e → B.getD i 0 = g e) (hl : l.length ≤ B.length) : B.take l.length = l.map g := by
  apply List.ext_getElem?
  intro i
  rw [List.getElem?_take, List.getElem?_map]
  by_cases hi : i < l.length
  · rw [if_pos hi]
    have he := List.getElem?_eq_getElem hi
    have := h i _ he
    rw [he]
    rw [List.getD_eq_getElem?_getD, List.getElem?_eq_getElem (show i < B.length by omega)] at this
    rw [List.getElem?_eq_getElem (show i < B.length by omega)]
    exact congrArg some this
  · rw [if_neg hi, List.getElem?_eq_none (by omega)]
    rfl
set_option maxRecDepth 100000 in
set_option maxHeartbeats 2000000 in
theorem o_draft {G : xG} {d a : Nat} {x y m : Int32} {Z : pZ} {f : Nat → Int} {A : Nat → List Int32} (h : mR Z (f, A)) : ym G (d + 20) a mX9_draft [.inr 0, .inl x.toInt, .inl y.toInt, .inl m.toInt] (f, A) (ypost (F_draft x y m Z)) := by
  unfold F_draft
  refine ym_at 4 rfl (by decide) (Nat.le_of_ble_eq_true rfl) tX9_draft_ok ?_
  try simp only [List.map_cons, List.map_nil, List.length_cons, List.length_nil, ylr_s, ylr_0, Nat.reduceAdd, Nat.reduceSub, List.cons_append, List.nil_append, List.set_cons_zero, List.set_cons_succ, Option.toList_none, Option.toList_some, Int32.reduceToInt, yu, ya, reduceIte, Nat.reduceEqDiff, Int.toNat_natCast, Int.reduceToNat]
  refine ygo 99999 90 rfl rfl (by first | exact trivial | (simp only [true_and, yu, ya, reduceIte, Nat.reduceEqDiff, Int32.reduceToInt, Int.toNat_natCast, Int.reduceToNat]; omega) | decide | (simp; done)) ?_
  try simp only [List.map_cons, List.map_nil, List.length_cons, List.length_nil, ylr_s, ylr_0, Nat.reduceAdd, Nat.reduceSub, List.cons_append, List.nil_append, List.set_cons_zero, List.set_cons_succ, Option.toList_none, Option.toList_some, Int32.reduceToInt, yu, ya, reduceIte, Nat.reduceEqDiff, Int.toNat_natCast, Int.reduceToNat]
  refine ycS rfl rfl rfl (cm_in (yr_t _) (by unfold yr; omega)) rfl kX9_in iX9_in rfl rfl (Nat.le_of_ble_eq_true rfl) (fun v1 Y1 q1 => ?_)
  obtain ⟨rfl, rfl⟩ := q1
  refine ygo 99999 90 rfl rfl (by first | exact trivial | (simp only [true_and, yu, ya, reduceIte, Nat.reduceEqDiff, Int32.reduceToInt, Int.toNat_natCast, Int.reduceToNat]; omega) | decide | (simp; done)) ?_
  try simp only [List.map_cons, List.map_nil, List.length_cons, List.length_nil, ylr_s, ylr_0, Nat.reduceAdd, Nat.reduceSub, List.cons_append, List.nil_append, List.set_cons_zero, List.set_cons_succ, Option.toList_none, Option.toList_some, Int32.reduceToInt, yu, ya, reduceIte, Nat.reduceEqDiff, Int.toNat_natCast, Int.reduceToNat]
  refine yi_ifeq rfl (by first | exact yr_t _ | exact yr_b _ | (unfold yr; omega)) (fun c1 => ?_) (fun c1 => ?_)
  · refine ygo 99999 90 rfl rfl (by first | exact trivial | (simp only [true_and, yu, ya, reduceIte, Nat.reduceEqDiff, Int32.reduceToInt, Int.toNat_natCast, Int.reduceToNat]; omega) | decide | (simp; done)) ?_
    try simp only [List.map_cons, List.map_nil, List.length_cons, List.length_nil, ylr_s, ylr_0, Nat.reduceAdd, Nat.reduceSub, List.cons_append, List.nil_append, List.set_cons_zero, List.set_cons_succ, Option.toList_none, Option.toList_some, Int32.reduceToInt, yu, ya, reduceIte, Nat.reduceEqDiff, Int.toNat_natCast, Int.reduceToNat]
    refine yi_ret_i rfl rfl (ypost.same h (if_neg (by omega)) rfl)
  refine ygo 99999 90 rfl rfl (by first | exact trivial | (simp only [true_and, yu, ya, reduceIte, Nat.reduceEqDiff, Int32.reduceToInt, Int.toNat_natCast, Int.reduceToNat]; omega) | decide | (simp; done)) ?_
  try simp only [List.map_cons, List.map_nil, List.length_cons, List.length_nil, ylr_s, ylr_0, Nat.reduceAdd, Nat.reduceSub, List.cons_append, List.nil_append, List.set_cons_zero, List.set_cons_succ, Option.toList_none, Option.toList_some, Int32.reduceToInt, yu, ya, reduceIte, Nat.reduceEqDiff, Int.toNat_natCast, Int.reduceToNat]
  refine ycS rfl rfl rfl (cm_in (yr_t _) (by unfold yr; omega)) rfl kX9_in iX9_in rfl rfl (Nat.le_of_ble_eq_true rfl) (fun v2 Y2 q2 => ?_)
  obtain ⟨rfl, rfl⟩ := q2
  refine ygo 99999 90 rfl rfl (by first | exact trivial | (simp only [true_and, yu, ya, reduceIte, Nat.reduceEqDiff, Int32.reduceToInt, Int.toNat_natCast, Int.reduceToNat]; omega) | decide | (simp; done)) ?_
  try simp only [List.map_cons, List.map_nil, List.length_cons, List.length_nil, ylr_s, ylr_0, Nat.reduceAdd, Nat.reduceSub, List.cons_append, List.nil_append, List.set_cons_zero, List.set_cons_succ, Option.toList_none, Option.toList_some, Int32.reduceToInt, yu, ya, reduceIte, Nat.reduceEqDiff, Int.toNat_natCast, Int.reduceToNat]
  refine yi_ifeq rfl (by first | exact yr_t _ | exact yr_b _ | (unfold yr; omega)) (fun c2 => ?_) (fun c2 => ?_)
  · refine ygo 99999 90 rfl rfl (by first | exact trivial | (simp only [true_and, yu, ya, reduceIte, Nat.reduceEqDiff, Int32.reduceToInt, Int.toNat_natCast, Int.reduceToNat]; omega) | decide | (simp; done)) ?_
    try simp only [List.map_cons, List.map_nil, List.length_cons, List.length_nil, ylr_s, ylr_0, Nat.reduceAdd, Nat.reduceSub, List.cons_append, List.nil_append, List.set_cons_zero, List.set_cons_succ, Option.toList_none, Option.toList_some, Int32.reduceToInt, yu, ya, reduceIte, Nat.reduceEqDiff, Int.toNat_natCast, Int.reduceToNat]
    refine yi_ret_i rfl rfl (ypost.same h (if_neg (by omega)) rfl)
  refine ygo 99999 90 rfl rfl (by first | exact trivial | (simp only [true_and, yu, ya, reduceIte, Nat.reduceEqDiff, Int32.reduceToInt, Int.toNat_natCast, Int.reduceToNat]; omega) | decide | (simp; done)) ?_
  try simp only [List.map_cons, List.map_nil, List.length_cons, List.length_nil, ylr_s, ylr_0, Nat.reduceAdd, Nat.reduceSub, List.cons_append, List.nil_append, List.set_cons_zero, List.set_cons_succ, Option.toList_none, Option.toList_some, Int32.reduceToInt, yu, ya, reduceIte, Nat.reduceEqDiff, Int.toNat_natCast, Int.reduceToNat]
  refine ycS rfl rfl rfl (cm_in (yr_t _) (by unfold yr; omega)) rfl kX9_in iX9_in rfl rfl (Nat.le_of_ble_eq_true rfl) (fun v3 Y3 q3 => ?_)
  obtain ⟨rfl, rfl⟩ := q3
  refine ygo 99999 90 rfl rfl (by first | exact trivial | (simp only [true_and, yu, ya, reduceIte, Nat.reduceEqDiff, Int32.reduceToInt, Int.toNat_natCast, Int.reduceToNat]; omega) | decide | (simp; done)) ?_
  try simp only [List.map_cons, List.map_nil, List.length_cons, List.length_nil, ylr_s, ylr_0, Nat.reduceAdd, Nat.reduceSub, List.cons_append, List.nil_append, List.set_cons_zero, List.set_cons_succ, Option.toList_none, Option.toList_some, Int32.reduceToInt, yu, ya, reduceIte, Nat.reduceEqDiff, Int.toNat_natCast, Int.reduceToNat]
  refine yi_ifne rfl (by first | exact yr_t _ | exact yr_b _ | (unfold yr; omega)) (fun c3 => ?_) (fun c3 => ?_)
  · rw [if_pos (by omega)]
    refine ygo 99999 90 rfl rfl (by first | exact trivial | (simp only [true_and, yu, ya, reduceIte, Nat.reduceEqDiff, Int32.reduceToInt, Int.toNat_natCast, Int.reduceToNat]; omega) | decide | (simp; done)) ?_
    try simp only [List.map_cons, List.map_nil, List.length_cons, List.length_nil, ylr_s, ylr_0, Nat.reduceAdd, Nat.reduceSub, List.cons_append, List.nil_append, List.set_cons_zero, List.set_cons_succ, Option.toList_none, Option.toList_some, Int32.reduceToInt, yu, ya, reduceIte, Nat.reduceEqDiff, Int.toNat_natCast, Int.reduceToNat]
    refine yi_ret_i rfl rfl ⟨rfl, ⟨rfl, rfl, rfl, rfl, rfl, fun i e he => by simp at he, rfl, fun i e he => by simp at he, rfl, fun i e he => by simp at he⟩, h.2⟩
  · refine ygo 99999 90 rfl rfl (by first | exact trivial | (simp only [true_and, yu, ya, reduceIte, Nat.reduceEqDiff, Int32.reduceToInt, Int.toNat_natCast, Int.reduceToNat]; omega) | decide | (simp; done)) ?_
    try simp only [List.map_cons, List.map_nil, List.length_cons, List.length_nil, ylr_s, ylr_0, Nat.reduceAdd, Nat.reduceSub, List.cons_append, List.nil_append, List.set_cons_zero, List.set_cons_succ, Option.toList_none, Option.toList_some, Int32.reduceToInt, yu, ya, reduceIte, Nat.reduceEqDiff, Int.toNat_natCast, Int.reduceToNat]
    refine yi_ret_i rfl rfl (ypost.same h (if_neg (by omega)) rfl)
set_option maxRecDepth 100000 in
set_option maxHeartbeats 2000000 in
theorem o_need {G : xG} {d a : Nat} {x y z : Int32} {Z : pZ} {f : Nat → Int} {A : Nat → List Int32} (h : mR Z (f, A)) (hk : okK Z.1) (hz : z = 0 ∨ z = 1) : ym G (d + 20) a mX9_need [.inr 0, .inl x.toInt, .inl y.toInt, .inl z.toInt] (f, A) (ypost (F_need x y z Z)) := by
  unfold F_need
  refine ym.len (fun hl => ?_)
  obtain ⟨⟨h0, h1, h2, h3, h4, h5, h6, h7, h8, h9⟩, hr⟩ := id h
  dsimp only at h0 h1 h2 h3 h4 h5 h6 h7 h8 h9
  have l5 : (A 5).length = 4 := hl 5 _ rfl
  have l6 : (A 6).length = 4 := hl 6 _ rfl
  have l7 : (A 7).length = 4 := hl 7 _ rfl
  have hk4 : Z.1.2.1.length ≤ 4 := hk.2.2.2.1
  have hz1 := i_rng z
  have hzz : (if z.toInt = 0 then (0 : Int) else 1) = z.toInt := by rcases hz with e | e <;> subst e <;> decide
  refine ym_at 4 rfl (by decide) (Nat.le_of_ble_eq_true rfl) tX9_need_ok ?_
  try simp only [List.map_cons, List.map_nil, List.length_cons, List.length_nil, ylr_s, ylr_0, Nat.reduceAdd, Nat.reduceSub, List.cons_append, List.nil_append, List.set_cons_zero, List.set_cons_succ, Option.toList_none, Option.toList_some, Int32.reduceToInt, yu, ya, reduceIte, Nat.reduceEqDiff, Int.toNat_natCast, Int.reduceToNat]
  refine ygo 99999 90 rfl rfl (by first | exact trivial | (simp only [true_and, yu, ya, reduceIte, Nat.reduceEqDiff, Int32.reduceToInt, Int.toNat_natCast, Int.reduceToNat]; omega) | decide | (simp; done)) ?_
  try simp only [List.map_cons, List.map_nil, List.length_cons, List.length_nil, ylr_s, ylr_0, Nat.reduceAdd, Nat.reduceSub, List.cons_append, List.nil_append, List.set_cons_zero, List.set_cons_succ, Option.toList_none, Option.toList_some, Int32.reduceToInt, yu, ya, reduceIte, Nat.reduceEqDiff, Int.toNat_natCast, Int.reduceToNat]
  refine ycS rfl rfl rfl (cm_in (yr_t _) (by unfold yr; omega)) rfl kX9_in iX9_in rfl rfl (Nat.le_of_ble_eq_true rfl) (fun v1 Y1 q1 => ?_)
  obtain ⟨rfl, rfl⟩ := q1
  refine ygo 99999 90 rfl rfl (by first | exact trivial | (simp only [true_and, yu, ya, reduceIte, Nat.reduceEqDiff, Int32.reduceToInt, Int.toNat_natCast, Int.reduceToNat]; omega) | decide | (simp; done)) ?_
  try simp only [List.map_cons, List.map_nil, List.length_cons, List.length_nil, ylr_s, ylr_0, Nat.reduceAdd, Nat.reduceSub, List.cons_append, List.nil_append, List.set_cons_zero, List.set_cons_succ, Option.toList_none, Option.toList_some, Int32.reduceToInt, yu, ya, reduceIte, Nat.reduceEqDiff, Int.toNat_natCast, Int.reduceToNat]
  refine yi_ifeq rfl (by first | exact yr_t _ | exact yr_b _ | (unfold yr; omega)) (fun c1 => ?_) (fun c1 => ?_)
  · refine ygo 99999 90 rfl rfl (by first | exact trivial | (simp only [true_and, yu, ya, reduceIte, Nat.reduceEqDiff, Int32.reduceToInt, Int.toNat_natCast, Int.reduceToNat]; omega) | decide | (simp; done)) ?_
    try simp only [List.map_cons, List.map_nil, List.length_cons, List.length_nil, ylr_s, ylr_0, Nat.reduceAdd, Nat.reduceSub, List.cons_append, List.nil_append, List.set_cons_zero, List.set_cons_succ, Option.toList_none, Option.toList_some, Int32.reduceToInt, yu, ya, reduceIte, Nat.reduceEqDiff, Int.toNat_natCast, Int.reduceToNat]
    refine yi_ret_i rfl rfl (ypost.same h (if_pos (by omega)) rfl)
  refine ygo 99999 90 rfl rfl (by first | exact trivial | (simp only [true_and, yu, ya, reduceIte, Nat.reduceEqDiff, Int32.reduceToInt, Int.toNat_natCast, Int.reduceToNat]; omega) | decide | (simp; done)) ?_
  try simp only [List.map_cons, List.map_nil, List.length_cons, List.length_nil, ylr_s, ylr_0, Nat.reduceAdd, Nat.reduceSub, List.cons_append, List.nil_append, List.set_cons_zero, List.set_cons_succ, Option.toList_none, Option.toList_some, Int32.reduceToInt, yu, ya, reduceIte, Nat.reduceEqDiff, Int.toNat_natCast, Int.reduceToNat]
  refine ycS rfl rfl rfl (cm_in (yr_t _) (by unfold yr; omega)) rfl kX9_in iX9_in rfl rfl (Nat.le_of_ble_eq_true rfl) (fun v2 Y2 q2 => ?_)
  obtain ⟨rfl, rfl⟩ := q2
  refine ygo 99999 90 rfl rfl (by first | exact trivial | (simp only [true_and, yu, ya, reduceIte, Nat.reduceEqDiff, Int32.reduceToInt, Int.toNat_natCast, Int.reduceToNat]; omega) | decide | (simp; done)) ?_
  try simp only [List.map_cons, List.map_nil, List.length_cons, List.length_nil, ylr_s, ylr_0, Nat.reduceAdd, Nat.reduceSub, List.cons_append, List.nil_append, List.set_cons_zero, List.set_cons_succ, Option.toList_none, Option.toList_some, Int32.reduceToInt, yu, ya, reduceIte, Nat.reduceEqDiff, Int.toNat_natCast, Int.reduceToNat]
  refine yi_ifne rfl (by first | exact yr_t _ | exact yr_b _ | (unfold yr; omega)) (fun c2 => ?_) (fun c2 => ?_)
  · rw [if_neg (by omega)]
    have hb := bInt_01 Z.2.1
    refine ygo 99999 90 rfl rfl (by first | exact trivial | (simp only [true_and, yu, ya, reduceIte, Nat.reduceEqDiff, Int32.reduceToInt, Int.toNat_natCast, Int.reduceToNat]; omega) | decide | (simp; done)) ?_
    try simp only [List.map_cons, List.map_nil, List.length_cons, List.length_nil, ylr_s, ylr_0, Nat.reduceAdd, Nat.reduceSub, List.cons_append, List.nil_append, List.set_cons_zero, List.set_cons_succ, Option.toList_none, Option.toList_some, Int32.reduceToInt, yu, ya, reduceIte, Nat.reduceEqDiff, Int.toNat_natCast, Int.reduceToNat]
    refine yi_ifne rfl (by first | exact yr_t _ | exact yr_b _ | (unfold yr; omega)) (fun c3 => ?_) (fun c3 => ?_)
    · rw [h0, bInt_z] at c3
      rw [if_neg c3]
      refine ygo 99999 90 rfl rfl (by first | exact trivial | (simp only [true_and, yu, ya, reduceIte, Nat.reduceEqDiff, Int32.reduceToInt, Int.toNat_natCast, Int.reduceToNat]; omega) | decide | (simp; done)) ?_
      try simp only [List.map_cons, List.map_nil, List.length_cons, List.length_nil, ylr_s, ylr_0, Nat.reduceAdd, Nat.reduceSub, List.cons_append, List.nil_append, List.set_cons_zero, List.set_cons_succ, Option.toList_none, Option.toList_some, Int32.reduceToInt, yu, ya, reduceIte, Nat.reduceEqDiff, Int.toNat_natCast, Int.reduceToNat]
      refine ycS rfl rfl rfl (cm_has5 h4 rfl hk4) rfl kX9_has iX9_has rfl rfl (Nat.le_of_ble_eq_true rfl) (fun v3 Y3 q3 => ?_)
      obtain ⟨rfl, rfl⟩ := q3
      have ha : ((A 5).take Z.1.2.1.length).any (fun w => w == x) = Z.1.2.1.any (fun e => e.1 == x) := by
        rw [tk_map (fun i e he => (h5 i e he).1) (by omega), List.any_map]
        rfl
      rw [ha]
      refine ygo 99999 90 rfl rfl (by first | exact trivial | (simp only [true_and, yu, ya, reduceIte, Nat.reduceEqDiff, Int32.reduceToInt, Int.toNat_natCast, Int.reduceToNat]; omega) | decide | (simp; done)) ?_
      try simp only [List.map_cons, List.map_nil, List.length_cons, List.length_nil, ylr_s, ylr_0, Nat.reduceAdd, Nat.reduceSub, List.cons_append, List.nil_append, List.set_cons_zero, List.set_cons_succ, Option.toList_none, Option.toList_some, Int32.reduceToInt, yu, ya, reduceIte, Nat.reduceEqDiff, Int.toNat_natCast, Int.reduceToNat]
      refine yi_ifeq rfl (by first | exact yr_t _ | exact yr_b _ | (unfold yr; omega)) (fun c4 => ?_) (fun c4 => ?_)
      · rw [bInt_z] at c4
        rw [if_neg (by rw [c4]; decide)]
        refine ygo 99999 90 rfl rfl (by first | exact trivial | (simp only [true_and, yu, ya, reduceIte, Nat.reduceEqDiff, Int32.reduceToInt, Int.toNat_natCast, Int.reduceToNat]; omega) | decide | (simp; done)) ?_
        try simp only [List.map_cons, List.map_nil, List.length_cons, List.length_nil, ylr_s, ylr_0, Nat.reduceAdd, Nat.reduceSub, List.cons_append, List.nil_append, List.set_cons_zero, List.set_cons_succ, Option.toList_none, Option.toList_some, Int32.reduceToInt, yu, ya, reduceIte, Nat.reduceEqDiff, Int.toNat_natCast, Int.reduceToNat]
        refine yi_icmpne rfl (by refine ⟨?_, ?_⟩ <;> first | exact yr_t _ | exact yr_b _ | (unfold yr; omega)) (fun c5 => ?_) (fun c5 => ?_)
        · rw [if_neg (by omega)]
          have fin : ∀ w : Int, w = z.toInt → yw G (d + 20) a mX9_need 96 [some (.inr 0), some (.inl x.toInt), some (.inl y.toInt), some (.inl z.toInt)] [.inl w, .inl (f 4), .inr 8] (f, ya (ya A 5 ((A 5).set (f 4).toNat (Int32.ofInt x.toInt))) 6 ((A 6).set (f 4).toNat (Int32.ofInt y.toInt))) (ypost (nI (Z.1.2.1.length + 1), (Z.1.1, Z.1.2.1 ++ [(x, y, z)], Z.1.2.2), Z.2)) := by
            intro w hw
            refine ygo 99999 90 rfl rfl (by first | exact trivial | (simp only [true_and, yu, ya, reduceIte, Nat.reduceEqDiff, Int32.reduceToInt, Int.toNat_natCast, Int.reduceToNat]; omega) | decide | (simp; done)) ?_
            try simp only [List.map_cons, List.map_nil, List.length_cons, List.length_nil, ylr_s, ylr_0, Nat.reduceAdd, Nat.reduceSub, List.cons_append, List.nil_append, List.set_cons_zero, List.set_cons_succ, Option.toList_none, Option.toList_some, Int32.reduceToInt, yu, ya, reduceIte, Nat.reduceEqDiff, Int.toNat_natCast, Int.reduceToNat]
            refine yi_ret_i rfl rfl ⟨by rw [i_n (by omega)]; simp [h4], ⟨h0, h1, h2, h3, by simp [yu, h4], fun i e he => ?_, h6, h7, h8, h9⟩, hr⟩
            have e4 : (f 4).toNat = Z.1.2.1.length := by omega
            simp only [yu, ya, reduceIte, Nat.reduceEqDiff, e4]
            rcases snoc_get (show (Z.1.2.1 ++ [(x, y, z)])[i]? = some e from he) with ⟨hi, he'⟩ | ⟨rfl, rfl⟩
            · rw [gset_ne (by omega), gset_ne (by omega), gset_ne (by omega)]
              exact h5 i e he'
            · rw [gset_eq (by omega), gset_eq (by omega), gset_eq (by omega), hw, iof, iof, iof]
              exact ⟨rfl, rfl, rfl⟩
          refine ygo 99999 90 rfl rfl (by first | exact trivial | (simp only [true_and, yu, ya, reduceIte, Nat.reduceEqDiff, Int32.reduceToInt, Int.toNat_natCast, Int.reduceToNat]; omega) | decide | (simp; done)) ?_
          try simp only [List.map_cons, List.map_nil, List.length_cons, List.length_nil, ylr_s, ylr_0, Nat.reduceAdd, Nat.reduceSub, List.cons_append, List.nil_append, List.set_cons_zero, List.set_cons_succ, Option.toList_none, Option.toList_some, Int32.reduceToInt, yu, ya, reduceIte, Nat.reduceEqDiff, Int.toNat_natCast, Int.reduceToNat]
          refine yi_ifeq rfl (by first | exact yr_t _ | exact yr_b _ | (unfold yr; omega)) (fun c6 => ?_) (fun c6 => ?_)
          · refine ygo 96 90 rfl rfl (by first | exact trivial | (simp only [true_and, yu, ya, reduceIte, Nat.reduceEqDiff, Int32.reduceToInt, Int.toNat_natCast, Int.reduceToNat]; omega) | decide | (simp; done)) ?_
            try simp only [List.map_cons, List.map_nil, List.length_cons, List.length_nil, ylr_s, ylr_0, Nat.reduceAdd, Nat.reduceSub, List.cons_append, List.nil_append, List.set_cons_zero, List.set_cons_succ, Option.toList_none, Option.toList_some, Int32.reduceToInt, yu, ya, reduceIte, Nat.reduceEqDiff, Int.toNat_natCast, Int.reduceToNat]
            exact fin 0 (by omega)
          · refine ygo 96 90 rfl rfl (by first | exact trivial | (simp only [true_and, yu, ya, reduceIte, Nat.reduceEqDiff, Int32.reduceToInt, Int.toNat_natCast, Int.reduceToNat]; omega) | decide | (simp; done)) ?_
            try simp only [List.map_cons, List.map_nil, List.length_cons, List.length_nil, ylr_s, ylr_0, Nat.reduceAdd, Nat.reduceSub, List.cons_append, List.nil_append, List.set_cons_zero, List.set_cons_succ, Option.toList_none, Option.toList_some, Int32.reduceToInt, yu, ya, reduceIte, Nat.reduceEqDiff, Int.toNat_natCast, Int.reduceToNat]
            exact fin 1 (by rw [if_neg c6] at hzz; exact hzz)
        · rw [if_pos (by omega)]
          refine ygo 99999 90 rfl rfl (by first | exact trivial | (simp only [true_and, yu, ya, reduceIte, Nat.reduceEqDiff, Int32.reduceToInt, Int.toNat_natCast, Int.reduceToNat]; omega) | decide | (simp; done)) ?_
          try simp only [List.map_cons, List.map_nil, List.length_cons, List.length_nil, ylr_s, ylr_0, Nat.reduceAdd, Nat.reduceSub, List.cons_append, List.nil_append, List.set_cons_zero, List.set_cons_succ, Option.toList_none, Option.toList_some, Int32.reduceToInt, yu, ya, reduceIte, Nat.reduceEqDiff, Int.toNat_natCast, Int.reduceToNat]
          refine yi_ret_i rfl rfl (ypost.same h rfl rfl)
      · rw [bInt_z, Bool.not_eq_false] at c4
        rw [if_pos c4]
        refine ygo 99999 90 rfl rfl (by first | exact trivial | (simp only [true_and, yu, ya, reduceIte, Nat.reduceEqDiff, Int32.reduceToInt, Int.toNat_natCast, Int.reduceToNat]; omega) | decide | (simp; done)) ?_
        try simp only [List.map_cons, List.map_nil, List.length_cons, List.length_nil, ylr_s, ylr_0, Nat.reduceAdd, Nat.reduceSub, List.cons_append, List.nil_append, List.set_cons_zero, List.set_cons_succ, Option.toList_none, Option.toList_some, Int32.reduceToInt, yu, ya, reduceIte, Nat.reduceEqDiff, Int.toNat_natCast, Int.reduceToNat]
        refine yi_ret_i rfl rfl (ypost.same h rfl rfl)
    · rw [h0, bInt_z] at c3
      rw [if_pos c3]
      refine ygo 99999 90 rfl rfl (by first | exact trivial | (simp only [true_and, yu, ya, reduceIte, Nat.reduceEqDiff, Int32.reduceToInt, Int.toNat_natCast, Int.reduceToNat]; omega) | decide | (simp; done)) ?_
      try simp only [List.map_cons, List.map_nil, List.length_cons, List.length_nil, ylr_s, ylr_0, Nat.reduceAdd, Nat.reduceSub, List.cons_append, List.nil_append, List.set_cons_zero, List.set_cons_succ, Option.toList_none, Option.toList_some, Int32.reduceToInt, yu, ya, reduceIte, Nat.reduceEqDiff, Int.toNat_natCast, Int.reduceToNat]
      refine yi_ret_i rfl rfl (ypost.same h rfl rfl)
  · refine ygo 99999 90 rfl rfl (by first | exact trivial | (simp only [true_and, yu, ya, reduceIte, Nat.reduceEqDiff, Int32.reduceToInt, Int.toNat_natCast, Int.reduceToNat]; omega) | decide | (simp; done)) ?_
    try simp only [List.map_cons, List.map_nil, List.length_cons, List.length_nil, ylr_s, ylr_0, Nat.reduceAdd, Nat.reduceSub, List.cons_append, List.nil_append, List.set_cons_zero, List.set_cons_succ, Option.toList_none, Option.toList_some, Int32.reduceToInt, yu, ya, reduceIte, Nat.reduceEqDiff, Int.toNat_natCast, Int.reduceToNat]
    refine yi_ret_i rfl rfl (ypost.same h (if_pos (by omega)) rfl)
