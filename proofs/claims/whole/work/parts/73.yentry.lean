def keysOk (K : cV) : Prop := ∀ (i j : Nat) (x y : Int32 × Int32 × List Int32), K.2.2.2[i]? = some x → K.2.2.2[j]? = some y → x.1 = y.1 → i = j
def okV (n e : Nat) (V : eV) : Prop := okK V.1 ∧ keysOk V.1 ∧ V.2.1.length = V.1.2.1.length ∧ (∀ m ∈ V.2.1, ∃ k, k < e ∧ m = nI k) ∧ (V.2.2.2.1 = 0 ∨ V.2.2.2.1 = 1) ∧ V.2.2.2.2.length ≤ 4 ∧ ∀ m ∈ V.2.2.2.2, ∃ k, k < n ∧ m = nI k
def okS (L : sL) : Prop := L.length ≤ 12 ∧ ∀ (e : Nat) (x : Nat × Nat × eV), L[e]? = some x → okV L.length e x.2.2
theorem o_why {G : xG} {d a : Nat} {Z : pZ} {f : Nat → Int} {A : Nat → List Int32} (h : mR Z (f, A)) : ym G (d + 20) a mX9_why [.inr 0] (f, A) (ypost (F_why Z)) := by
  unfold F_why
  refine ym_at 1 rfl (by decide) (Nat.le_of_ble_eq_true rfl) tX9_why_ok ?_
  try simp only [List.map_cons, List.map_nil, List.length_cons, List.length_nil, ylr_s, ylr_0, Nat.reduceAdd, Nat.reduceSub, List.cons_append, List.nil_append, List.set_cons_zero, List.set_cons_succ, Option.toList_none, Option.toList_some, Int32.reduceToInt, yu, ya, reduceIte, Nat.reduceEqDiff, Int.toNat_natCast, Int.reduceToNat]
  refine ygo 99999 90 rfl rfl (by first | exact trivial | (simp only [true_and, yu, ya, reduceIte, Nat.reduceEqDiff, Int32.reduceToInt, Int.toNat_natCast, Int.reduceToNat]; omega) | decide | (simp; done) | (simp; omega)) ?_
  try simp only [List.map_cons, List.map_nil, List.length_cons, List.length_nil, ylr_s, ylr_0, Nat.reduceAdd, Nat.reduceSub, List.cons_append, List.nil_append, List.set_cons_zero, List.set_cons_succ, Option.toList_none, Option.toList_some, Int32.reduceToInt, yu, ya, reduceIte, Nat.reduceEqDiff, Int.toNat_natCast, Int.reduceToNat]
  refine yi_ret_i rfl rfl (ypost.same h rfl h.2.2.2.2.2)
theorem mS_r {L : sL} {f : Nat → Int} {A : Nat → List Int32} (h : mS L (f, A)) (hl : L.length ≤ 12) : yr (f 35) := by
  have := h.1
  dsimp only at this
  unfold yr
  omega
set_option maxRecDepth 100000 in
set_option maxHeartbeats 2000000 in
theorem cm_isEntry {G : xG} {d a : Nat} {f : Nat → Int} {A : Nat → List Int32} {pz : Int} (hp : yr pz) (h35 : yr (f 35)) : ym G d a mX9_isEntry [.inr 0, .inl pz] (f, A) (fun w Y' => w = some (.inl (if 0 ≤ pz ∧ pz < f 35 then 1 else 0)) ∧ Y' = (f, A)) := by
  unfold yr at hp h35
  refine ym_at 2 rfl (by decide) (Nat.le_of_ble_eq_true rfl) tX9_isEntry_ok ?_
  try simp only [List.map_cons, List.map_nil, List.length_cons, List.length_nil, ylr_s, ylr_0, Nat.reduceAdd, Nat.reduceSub, List.cons_append, List.nil_append, List.set_cons_zero, List.set_cons_succ, Option.toList_none, Option.toList_some, Int32.reduceToInt, yu, ya, reduceIte, Nat.reduceEqDiff, Int.toNat_natCast, Int.reduceToNat]
  refine ygo 99999 90 rfl rfl (by first | exact trivial | (simp only [true_and, yu, ya, reduceIte, Nat.reduceEqDiff, Int32.reduceToInt, Int.toNat_natCast, Int.reduceToNat]; omega) | decide | (simp; done) | (simp; omega)) ?_
  try simp only [List.map_cons, List.map_nil, List.length_cons, List.length_nil, ylr_s, ylr_0, Nat.reduceAdd, Nat.reduceSub, List.cons_append, List.nil_append, List.set_cons_zero, List.set_cons_succ, Option.toList_none, Option.toList_some, Int32.reduceToInt, yu, ya, reduceIte, Nat.reduceEqDiff, Int.toNat_natCast, Int.reduceToNat]
  refine yi_iflt rfl (by first | exact yr_t _ | exact yr_b _ | (unfold yr; omega)) (fun c1 => ?_) (fun c1 => ?_)
  · refine ygo 99999 90 rfl rfl (by first | exact trivial | (simp only [true_and, yu, ya, reduceIte, Nat.reduceEqDiff, Int32.reduceToInt, Int.toNat_natCast, Int.reduceToNat]; omega) | decide | (simp; done) | (simp; omega)) ?_
    try simp only [List.map_cons, List.map_nil, List.length_cons, List.length_nil, ylr_s, ylr_0, Nat.reduceAdd, Nat.reduceSub, List.cons_append, List.nil_append, List.set_cons_zero, List.set_cons_succ, Option.toList_none, Option.toList_some, Int32.reduceToInt, yu, ya, reduceIte, Nat.reduceEqDiff, Int.toNat_natCast, Int.reduceToNat]
    refine yi_ret_z rfl rfl (by omega) ⟨by rw [if_neg (by omega)], rfl⟩
  refine ygo 99999 90 rfl rfl (by first | exact trivial | (simp only [true_and, yu, ya, reduceIte, Nat.reduceEqDiff, Int32.reduceToInt, Int.toNat_natCast, Int.reduceToNat]; omega) | decide | (simp; done) | (simp; omega)) ?_
  try simp only [List.map_cons, List.map_nil, List.length_cons, List.length_nil, ylr_s, ylr_0, Nat.reduceAdd, Nat.reduceSub, List.cons_append, List.nil_append, List.set_cons_zero, List.set_cons_succ, Option.toList_none, Option.toList_some, Int32.reduceToInt, yu, ya, reduceIte, Nat.reduceEqDiff, Int.toNat_natCast, Int.reduceToNat]
  refine yi_icmpge rfl (by refine ⟨?_, ?_⟩ <;> first | exact yr_t _ | exact yr_b _ | (unfold yr; omega)) (fun c2 => ?_) (fun c2 => ?_)
  · refine ygo 99999 90 rfl rfl (by first | exact trivial | (simp only [true_and, yu, ya, reduceIte, Nat.reduceEqDiff, Int32.reduceToInt, Int.toNat_natCast, Int.reduceToNat]; omega) | decide | (simp; done) | (simp; omega)) ?_
    try simp only [List.map_cons, List.map_nil, List.length_cons, List.length_nil, ylr_s, ylr_0, Nat.reduceAdd, Nat.reduceSub, List.cons_append, List.nil_append, List.set_cons_zero, List.set_cons_succ, Option.toList_none, Option.toList_some, Int32.reduceToInt, yu, ya, reduceIte, Nat.reduceEqDiff, Int.toNat_natCast, Int.reduceToNat]
    refine yi_ret_z rfl rfl (by omega) ⟨by rw [if_neg (by omega)], rfl⟩
  · refine ygo 99999 90 rfl rfl (by first | exact trivial | (simp only [true_and, yu, ya, reduceIte, Nat.reduceEqDiff, Int32.reduceToInt, Int.toNat_natCast, Int.reduceToNat]; omega) | decide | (simp; done) | (simp; omega)) ?_
    try simp only [List.map_cons, List.map_nil, List.length_cons, List.length_nil, ylr_s, ylr_0, Nat.reduceAdd, Nat.reduceSub, List.cons_append, List.nil_append, List.set_cons_zero, List.set_cons_succ, Option.toList_none, Option.toList_some, Int32.reduceToInt, yu, ya, reduceIte, Nat.reduceEqDiff, Int.toNat_natCast, Int.reduceToNat]
    refine yi_ret_z rfl rfl (by omega) ⟨by rw [if_pos (by omega)], rfl⟩
set_option maxRecDepth 100000 in
set_option maxHeartbeats 2000000 in
theorem o_entry {G : xG} {d a : Nat} {e w : Int32} {Z : pZ} {f : Nat → Int} {A : Nat → List Int32} (h : mR Z (f, A)) (hk : okS Z.2.2.2.2.2.1) : ym G (d + 20) a mX9_entry [.inr 0, .inl e.toInt, .inl w.toInt] (f, A) (ypost (F_entry e w Z)) := by
  have hS := h.2.2.2.2.1
  have h35 : f 35 = Z.2.2.2.2.2.1.length := hS.1
  have hl := hk.1
  have hwr := i_rng w
  unfold F_entry
  cases he : sget Z.2.2.2.2.2.1 e with
  | none =>
    have hn := sget_n he
    refine ym_at 3 rfl (by decide) (Nat.le_of_ble_eq_true rfl) tX9_entry_ok ?_
    try simp only [List.map_cons, List.map_nil, List.length_cons, List.length_nil, ylr_s, ylr_0, Nat.reduceAdd, Nat.reduceSub, List.cons_append, List.nil_append, List.set_cons_zero, List.set_cons_succ, Option.toList_none, Option.toList_some, Int32.reduceToInt, yu, ya, reduceIte, Nat.reduceEqDiff, Int.toNat_natCast, Int.reduceToNat]
    refine ygo 99999 90 rfl rfl (by first | exact trivial | (simp only [true_and, yu, ya, reduceIte, Nat.reduceEqDiff, Int32.reduceToInt, Int.toNat_natCast, Int.reduceToNat]; omega) | decide | (simp; done) | (simp; omega)) ?_
    try simp only [List.map_cons, List.map_nil, List.length_cons, List.length_nil, ylr_s, ylr_0, Nat.reduceAdd, Nat.reduceSub, List.cons_append, List.nil_append, List.set_cons_zero, List.set_cons_succ, Option.toList_none, Option.toList_some, Int32.reduceToInt, yu, ya, reduceIte, Nat.reduceEqDiff, Int.toNat_natCast, Int.reduceToNat]
    refine ycV rfl rfl rfl (cm_isEntry (yr_t _) (mS_r hS hl)) rfl kX9_isEntry iX9_isEntry rfl rfl rfl (Nat.le_of_ble_eq_true rfl) (fun v1 Y1 q1 => ?_)
    obtain ⟨rfl, rfl⟩ := q1
    refine ygo 99999 90 rfl rfl (by first | exact trivial | (simp only [true_and, yu, ya, reduceIte, Nat.reduceEqDiff, Int32.reduceToInt, Int.toNat_natCast, Int.reduceToNat]; omega) | decide | (simp; done) | (simp; omega)) ?_
    try simp only [List.map_cons, List.map_nil, List.length_cons, List.length_nil, ylr_s, ylr_0, Nat.reduceAdd, Nat.reduceSub, List.cons_append, List.nil_append, List.set_cons_zero, List.set_cons_succ, Option.toList_none, Option.toList_some, Int32.reduceToInt, yu, ya, reduceIte, Nat.reduceEqDiff, Int.toNat_natCast, Int.reduceToNat]
    refine yi_ifeq rfl (by first | exact yr_t _ | exact yr_b _ | (unfold yr; omega)) (fun c1 => ?_) (fun c1 => ?_)
    · refine ygo 99999 90 rfl rfl (by first | exact trivial | (simp only [true_and, yu, ya, reduceIte, Nat.reduceEqDiff, Int32.reduceToInt, Int.toNat_natCast, Int.reduceToNat]; omega) | decide | (simp; done) | (simp; omega)) ?_
      try simp only [List.map_cons, List.map_nil, List.length_cons, List.length_nil, ylr_s, ylr_0, Nat.reduceAdd, Nat.reduceSub, List.cons_append, List.nil_append, List.set_cons_zero, List.set_cons_succ, Option.toList_none, Option.toList_some, Int32.reduceToInt, yu, ya, reduceIte, Nat.reduceEqDiff, Int.toNat_natCast, Int.reduceToNat]
      refine yi_ret_i rfl rfl (ypost.same h rfl rfl)
    · omega
  | some x =>
    obtain ⟨j, rfl, hj, hj12⟩ := sget_s he hl
    have hjl := (List.getElem?_eq_some_iff.mp hj).1
    obtain ⟨m1, m2, m3, m4, m5, m6, m7, m8, m9, m10, m11, m12⟩ := hS.2 j x hj
    dsimp only at m1 m2 m3 m4 m5 m6 m7 m8 m9 m10 m11 m12
    have hV := hk.2 j x hj
    have hn4 : x.2.2.1.2.1.length ≤ 4 := hV.1.2.2.2.1
    have hvl := hV.2.2.1
    rw [i_n (by omega)]
    dsimp only
    refine ym_at 3 rfl (by decide) (Nat.le_of_ble_eq_true rfl) tX9_entry_ok ?_
    try simp only [List.map_cons, List.map_nil, List.length_cons, List.length_nil, ylr_s, ylr_0, Nat.reduceAdd, Nat.reduceSub, List.cons_append, List.nil_append, List.set_cons_zero, List.set_cons_succ, Option.toList_none, Option.toList_some, Int32.reduceToInt, yu, ya, reduceIte, Nat.reduceEqDiff, Int.toNat_natCast, Int.reduceToNat]
    refine ygo 99999 90 rfl rfl (by first | exact trivial | (simp only [true_and, yu, ya, reduceIte, Nat.reduceEqDiff, Int32.reduceToInt, Int.toNat_natCast, Int.reduceToNat]; omega) | decide | (simp; done) | (simp; omega)) ?_
    try simp only [List.map_cons, List.map_nil, List.length_cons, List.length_nil, ylr_s, ylr_0, Nat.reduceAdd, Nat.reduceSub, List.cons_append, List.nil_append, List.set_cons_zero, List.set_cons_succ, Option.toList_none, Option.toList_some, Int32.reduceToInt, yu, ya, reduceIte, Nat.reduceEqDiff, Int.toNat_natCast, Int.reduceToNat]
    refine ycV rfl rfl rfl (cm_isEntry (by unfold yr; omega) (mS_r hS hl)) rfl kX9_isEntry iX9_isEntry rfl rfl rfl (Nat.le_of_ble_eq_true rfl) (fun v1 Y1 q1 => ?_)
    obtain ⟨rfl, rfl⟩ := q1
    refine ygo 99999 90 rfl rfl (by first | exact trivial | (simp only [true_and, yu, ya, reduceIte, Nat.reduceEqDiff, Int32.reduceToInt, Int.toNat_natCast, Int.reduceToNat]; omega) | decide | (simp; done) | (simp; omega)) ?_
    try simp only [List.map_cons, List.map_nil, List.length_cons, List.length_nil, ylr_s, ylr_0, Nat.reduceAdd, Nat.reduceSub, List.cons_append, List.nil_append, List.set_cons_zero, List.set_cons_succ, Option.toList_none, Option.toList_some, Int32.reduceToInt, yu, ya, reduceIte, Nat.reduceEqDiff, Int.toNat_natCast, Int.reduceToNat]
    refine yi_ifeq rfl (by first | exact yr_t _ | exact yr_b _ | (unfold yr; omega)) (fun c1 => ?_) (fun c1 => ?_)
    · omega
    refine ygo 99999 90 rfl rfl (by first | exact trivial | (simp only [true_and, yu, ya, reduceIte, Nat.reduceEqDiff, Int32.reduceToInt, Int.toNat_natCast, Int.reduceToNat]; omega) | decide | (simp; done) | (simp; omega)) ?_
    try simp only [List.map_cons, List.map_nil, List.length_cons, List.length_nil, ylr_s, ylr_0, Nat.reduceAdd, Nat.reduceSub, List.cons_append, List.nil_append, List.set_cons_zero, List.set_cons_succ, Option.toList_none, Option.toList_some, Int32.reduceToInt, yu, ya, reduceIte, Nat.reduceEqDiff, Int.toNat_natCast, Int.reduceToNat]
    refine yi_ifge rfl (by first | exact yr_t _ | exact yr_b _ | (unfold yr; omega)) (fun c2 => ?_) (fun c2 => ?_)
    · rw [if_neg (by omega)]
      refine ygo 99999 90 rfl rfl (by first | exact trivial | (simp only [true_and, yu, ya, reduceIte, Nat.reduceEqDiff, Int32.reduceToInt, Int.toNat_natCast, Int.reduceToNat]; omega) | decide | (simp; done) | (simp; omega)) ?_
      try simp only [List.map_cons, List.map_nil, List.length_cons, List.length_nil, ylr_s, ylr_0, Nat.reduceAdd, Nat.reduceSub, List.cons_append, List.nil_append, List.set_cons_zero, List.set_cons_succ, Option.toList_none, Option.toList_some, Int32.reduceToInt, yu, ya, reduceIte, Nat.reduceEqDiff, Int.toNat_natCast, Int.reduceToNat]
      by_cases w0 : w = 0
      · subst w0
        refine yi_tableIn (off := 48) (tgt := 64) dX9_entry_16 (yr_t _) (by decide) (by decide) (by decide) (by decide) ?_
        refine ygo 99999 90 rfl rfl (by first | exact trivial | (simp only [true_and, yu, ya, reduceIte, Nat.reduceEqDiff, Int32.reduceToInt, Int.toNat_natCast, Int.reduceToNat]; omega) | decide | (simp; done) | (simp; omega)) ?_
        try simp only [List.map_cons, List.map_nil, List.length_cons, List.length_nil, ylr_s, ylr_0, Nat.reduceAdd, Nat.reduceSub, List.cons_append, List.nil_append, List.set_cons_zero, List.set_cons_succ, Option.toList_none, Option.toList_some, Int32.reduceToInt, yu, ya, reduceIte, Nat.reduceEqDiff, Int.toNat_natCast, Int.reduceToNat]
        refine yi_ret_i rfl rfl (ypost.same h rfl (by rw [m1]; rfl))
      by_cases w1 : w = 1
      · subst w1
        refine yi_tableIn (off := 55) (tgt := 71) dX9_entry_16 (yr_t _) (by decide) (by decide) (by decide) (by decide) ?_
        refine ygo 99999 90 rfl rfl (by first | exact trivial | (simp only [true_and, yu, ya, reduceIte, Nat.reduceEqDiff, Int32.reduceToInt, Int.toNat_natCast, Int.reduceToNat]; omega) | decide | (simp; done) | (simp; omega)) ?_
        try simp only [List.map_cons, List.map_nil, List.length_cons, List.length_nil, ylr_s, ylr_0, Nat.reduceAdd, Nat.reduceSub, List.cons_append, List.nil_append, List.set_cons_zero, List.set_cons_succ, Option.toList_none, Option.toList_some, Int32.reduceToInt, yu, ya, reduceIte, Nat.reduceEqDiff, Int.toNat_natCast, Int.reduceToNat]
        refine yi_ret_i rfl rfl (ypost.same h rfl (by rw [m2]; rfl))
      by_cases w2 : w = 2
      · subst w2
        refine yi_tableIn (off := 62) (tgt := 78) dX9_entry_16 (yr_t _) (by decide) (by decide) (by decide) (by decide) ?_
        refine ygo 99999 90 rfl rfl (by first | exact trivial | (simp only [true_and, yu, ya, reduceIte, Nat.reduceEqDiff, Int32.reduceToInt, Int.toNat_natCast, Int.reduceToNat]; omega) | decide | (simp; done) | (simp; omega)) ?_
        try simp only [List.map_cons, List.map_nil, List.length_cons, List.length_nil, ylr_s, ylr_0, Nat.reduceAdd, Nat.reduceSub, List.cons_append, List.nil_append, List.set_cons_zero, List.set_cons_succ, Option.toList_none, Option.toList_some, Int32.reduceToInt, yu, ya, reduceIte, Nat.reduceEqDiff, Int.toNat_natCast, Int.reduceToNat]
        refine yi_ret_i rfl rfl (ypost.same h rfl (by rw [m3]; rfl))
      by_cases w3 : w = 3
      · subst w3
        refine yi_tableIn (off := 69) (tgt := 85) dX9_entry_16 (yr_t _) (by decide) (by decide) (by decide) (by decide) ?_
        refine ygo 99999 90 rfl rfl (by first | exact trivial | (simp only [true_and, yu, ya, reduceIte, Nat.reduceEqDiff, Int32.reduceToInt, Int.toNat_natCast, Int.reduceToNat]; omega) | decide | (simp; done) | (simp; omega)) ?_
        try simp only [List.map_cons, List.map_nil, List.length_cons, List.length_nil, ylr_s, ylr_0, Nat.reduceAdd, Nat.reduceSub, List.cons_append, List.nil_append, List.set_cons_zero, List.set_cons_succ, Option.toList_none, Option.toList_some, Int32.reduceToInt, yu, ya, reduceIte, Nat.reduceEqDiff, Int.toNat_natCast, Int.reduceToNat]
        refine yi_ret_i rfl rfl (ypost.same h rfl (by rw [m9]; rfl))
      by_cases w4 : w = 4
      · subst w4
        refine yi_tableIn (off := 76) (tgt := 92) dX9_entry_16 (yr_t _) (by decide) (by decide) (by decide) (by decide) ?_
        refine ygo 99999 90 rfl rfl (by first | exact trivial | (simp only [true_and, yu, ya, reduceIte, Nat.reduceEqDiff, Int32.reduceToInt, Int.toNat_natCast, Int.reduceToNat]; omega) | decide | (simp; done) | (simp; omega)) ?_
        try simp only [List.map_cons, List.map_nil, List.length_cons, List.length_nil, ylr_s, ylr_0, Nat.reduceAdd, Nat.reduceSub, List.cons_append, List.nil_append, List.set_cons_zero, List.set_cons_succ, Option.toList_none, Option.toList_some, Int32.reduceToInt, yu, ya, reduceIte, Nat.reduceEqDiff, Int.toNat_natCast, Int.reduceToNat]
        refine yi_ret_i rfl rfl (ypost.same h rfl (by rw [m5, hvl]; rfl))
      by_cases w5 : w = 5
      · subst w5
        refine yi_tableIn (off := 83) (tgt := 99) dX9_entry_16 (yr_t _) (by decide) (by decide) (by decide) (by decide) ?_
        refine ygo 99999 90 rfl rfl (by first | exact trivial | (simp only [true_and, yu, ya, reduceIte, Nat.reduceEqDiff, Int32.reduceToInt, Int.toNat_natCast, Int.reduceToNat]; omega) | decide | (simp; done) | (simp; omega)) ?_
        try simp only [List.map_cons, List.map_nil, List.length_cons, List.length_nil, ylr_s, ylr_0, Nat.reduceAdd, Nat.reduceSub, List.cons_append, List.nil_append, List.set_cons_zero, List.set_cons_succ, Option.toList_none, Option.toList_some, Int32.reduceToInt, yu, ya, reduceIte, Nat.reduceEqDiff, Int.toNat_natCast, Int.reduceToNat]
        refine yi_ret_i rfl rfl (ypost.same h rfl (by rw [m7]; rfl))
      by_cases w6 : w = 6
      · subst w6
        have hE : entA x.2.2 6 = if x.2.2.2.2.2.1 = 0 then 0 else 1 := rfl
        rw [hE]
        refine yi_tableIn (off := 90) (tgt := 106) dX9_entry_16 (yr_t _) (by decide) (by decide) (by decide) (by decide) ?_
        refine ygo 99999 90 rfl rfl (by first | exact trivial | (simp only [true_and, yu, ya, reduceIte, Nat.reduceEqDiff, Int32.reduceToInt, Int.toNat_natCast, Int.reduceToNat]; omega) | decide | (simp; done) | (simp; omega)) ?_
        try simp only [List.map_cons, List.map_nil, List.length_cons, List.length_nil, ylr_s, ylr_0, Nat.reduceAdd, Nat.reduceSub, List.cons_append, List.nil_append, List.set_cons_zero, List.set_cons_succ, Option.toList_none, Option.toList_some, Int32.reduceToInt, yu, ya, reduceIte, Nat.reduceEqDiff, Int.toNat_natCast, Int.reduceToNat]
        refine yi_ifeq rfl (by first | exact yr_t _ | exact yr_b _ | (unfold yr; omega)) (fun c3 => ?_) (fun c3 => ?_)
        · rw [m4, ← y0, ti] at c3
          refine ygo 99999 90 rfl rfl (by first | exact trivial | (simp only [true_and, yu, ya, reduceIte, Nat.reduceEqDiff, Int32.reduceToInt, Int.toNat_natCast, Int.reduceToNat]; omega) | decide | (simp; done) | (simp; omega)) ?_
          try simp only [List.map_cons, List.map_nil, List.length_cons, List.length_nil, ylr_s, ylr_0, Nat.reduceAdd, Nat.reduceSub, List.cons_append, List.nil_append, List.set_cons_zero, List.set_cons_succ, Option.toList_none, Option.toList_some, Int32.reduceToInt, yu, ya, reduceIte, Nat.reduceEqDiff, Int.toNat_natCast, Int.reduceToNat]
          refine yi_ret_i rfl rfl (ypost.same h (by rw [if_pos c3]) rfl)
        · rw [m4, ← y0, ti] at c3
          refine ygo 99999 90 rfl rfl (by first | exact trivial | (simp only [true_and, yu, ya, reduceIte, Nat.reduceEqDiff, Int32.reduceToInt, Int.toNat_natCast, Int.reduceToNat]; omega) | decide | (simp; done) | (simp; omega)) ?_
          try simp only [List.map_cons, List.map_nil, List.length_cons, List.length_nil, ylr_s, ylr_0, Nat.reduceAdd, Nat.reduceSub, List.cons_append, List.nil_append, List.set_cons_zero, List.set_cons_succ, Option.toList_none, Option.toList_some, Int32.reduceToInt, yu, ya, reduceIte, Nat.reduceEqDiff, Int.toNat_natCast, Int.reduceToNat]
          refine yi_ret_i rfl rfl (ypost.same h (by rw [if_neg c3]) rfl)
      by_cases w7 : w = 7
      · subst w7
        refine yi_tableIn (off := 105) (tgt := 121) dX9_entry_16 (yr_t _) (by decide) (by decide) (by decide) (by decide) ?_
        refine ygo 99999 90 rfl rfl (by first | exact trivial | (simp only [true_and, yu, ya, reduceIte, Nat.reduceEqDiff, Int32.reduceToInt, Int.toNat_natCast, Int.reduceToNat]; omega) | decide | (simp; done) | (simp; omega)) ?_
        try simp only [List.map_cons, List.map_nil, List.length_cons, List.length_nil, ylr_s, ylr_0, Nat.reduceAdd, Nat.reduceSub, List.cons_append, List.nil_append, List.set_cons_zero, List.set_cons_succ, Option.toList_none, Option.toList_some, Int32.reduceToInt, yu, ya, reduceIte, Nat.reduceEqDiff, Int.toNat_natCast, Int.reduceToNat]
        refine yi_ret_i rfl rfl (ypost.same h rfl (by rw [m11]; rfl))
      have hw : 7 < w.toInt := by
        rw [i_eq] at w0 w1 w2 w3 w4 w5 w6 w7
        have : (0 : Int32).toInt = 0 := rfl
        have : (1 : Int32).toInt = 1 := rfl
        have : (2 : Int32).toInt = 2 := rfl
        have : (3 : Int32).toInt = 3 := rfl
        have : (4 : Int32).toInt = 4 := rfl
        have : (5 : Int32).toInt = 5 := rfl
        have : (6 : Int32).toInt = 6 := rfl
        have : (7 : Int32).toInt = 7 := rfl
        omega
      have hE : entA x.2.2 w = bat x.2.2.2.1 (w - 8) := by
        unfold entA
        rw [if_neg w0, if_neg w1, if_neg w2, if_neg w3, if_neg w4, if_neg w5, if_neg w6, if_neg w7]
      have hw8 : w - 8 = nI (w.toInt.toNat - 8) := by
        have e : w = nI w.toInt.toNat := toN (by omega)
        rw [e]
        rw [i_n (by omega)]
        exact nI_subN (b := 8) (by omega)
      rw [hE, hw8]
      have h40 : ((A 40).getD j 0).toInt = x.2.2.2.1.length := by rw [m5, i_n (by omega)]
      refine yi_tableOut (tgt := 128) dX9_entry_16 (yr_t _) (Or.inr hw) (by decide) ?_
      refine ygo 99999 90 rfl rfl (by first | exact trivial | (simp only [true_and, yu, ya, reduceIte, Nat.reduceEqDiff, Int32.reduceToInt, Int.toNat_natCast, Int.reduceToNat]; omega) | decide | (simp; done) | (simp; omega)) ?_
      try simp only [List.map_cons, List.map_nil, List.length_cons, List.length_nil, ylr_s, ylr_0, Nat.reduceAdd, Nat.reduceSub, List.cons_append, List.nil_append, List.set_cons_zero, List.set_cons_succ, Option.toList_none, Option.toList_some, Int32.reduceToInt, yu, ya, reduceIte, Nat.reduceEqDiff, Int.toNat_natCast, Int.reduceToNat]
      refine yi_icmpge rfl (by refine ⟨?_, ?_⟩ <;> first | exact yr_t _ | exact yr_b _ | (unfold yr; omega)) (fun c3 => ?_) (fun c3 => ?_)
      · rw [h40] at c3
        refine ygo 99999 90 rfl rfl (by first | exact trivial | (simp only [true_and, yu, ya, reduceIte, Nat.reduceEqDiff, Int32.reduceToInt, Int.toNat_natCast, Int.reduceToNat]; omega) | decide | (simp; done) | (simp; omega)) ?_
        try simp only [List.map_cons, List.map_nil, List.length_cons, List.length_nil, ylr_s, ylr_0, Nat.reduceAdd, Nat.reduceSub, List.cons_append, List.nil_append, List.set_cons_zero, List.set_cons_succ, Option.toList_none, Option.toList_some, Int32.reduceToInt, yu, ya, reduceIte, Nat.reduceEqDiff, Int.toNat_natCast, Int.reduceToNat]
        refine yi_ret_i rfl rfl (ypost.same h rfl (by rw [bat_n (by omega), List.getD_eq_getElem?_getD, List.getElem?_eq_none (by omega)]; rfl))
      · rw [h40] at c3
        obtain ⟨m, hm⟩ := lt_get (l := x.2.2.2.1) (j := w.toInt.toNat - 8) (by omega)
        have i1 : (4 * (j : Int) + w.toInt - 8).toNat = 4 * j + (w.toInt.toNat - 8) := by omega
        refine ygo 99999 90 rfl rfl (by first | exact trivial | (simp only [true_and, yu, ya, reduceIte, Nat.reduceEqDiff, Int32.reduceToInt, Int.toNat_natCast, Int.reduceToNat]; omega) | decide | (simp; done) | (simp; omega)) ?_
        try simp only [List.map_cons, List.map_nil, List.length_cons, List.length_nil, ylr_s, ylr_0, Nat.reduceAdd, Nat.reduceSub, List.cons_append, List.nil_append, List.set_cons_zero, List.set_cons_succ, Option.toList_none, Option.toList_some, Int32.reduceToInt, yu, ya, reduceIte, Nat.reduceEqDiff, Int.toNat_natCast, Int.reduceToNat]
        refine yi_ret_i rfl rfl (ypost.same h rfl (by rw [i1, m6 _ m hm, bat_n (by omega), getD_s hm]))
    · rw [if_pos (by omega)]
      refine ygo 99999 90 rfl rfl (by first | exact trivial | (simp only [true_and, yu, ya, reduceIte, Nat.reduceEqDiff, Int32.reduceToInt, Int.toNat_natCast, Int.reduceToNat]; omega) | decide | (simp; done) | (simp; omega)) ?_
      try simp only [List.map_cons, List.map_nil, List.length_cons, List.length_nil, ylr_s, ylr_0, Nat.reduceAdd, Nat.reduceSub, List.cons_append, List.nil_append, List.set_cons_zero, List.set_cons_succ, Option.toList_none, Option.toList_some, Int32.reduceToInt, yu, ya, reduceIte, Nat.reduceEqDiff, Int.toNat_natCast, Int.reduceToNat]
      refine yi_ret_i rfl rfl (ypost.same h rfl rfl)
theorem mS_set {L : sL} {f : Nat → Int} {A A' : Nat → List Int32} {j : Nat} {x : Nat × Nat × eV} {V : eV} (h : mS L (f, A)) (hj : L[j]? = some x) (h1 : mE j V (f, A')) (h2 : ∀ (e : Nat) (y : Nat × Nat × eV), e ≠ j → L[e]? = some y → mE e y.2.2 (f, A')) : mS (L.set j (x.1, x.2.1, V)) (f, A') := by
  have hjl := (List.getElem?_eq_some_iff.mp hj).1
  refine ⟨by rw [List.length_set]; exact h.1, fun e y hy => ?_⟩
  by_cases hej : e = j
  · subst hej
    rw [List.getElem?_set_self hjl] at hy
    cases hy
    exact h1
  · rw [List.getElem?_set_ne (by omega)] at hy
    exact h2 e y hej hy
set_option maxRecDepth 100000 in
set_option maxHeartbeats 2000000 in
theorem o_close {G : xG} {d a : Nat} {e : Int32} {Z : pZ} {f : Nat → Int} {A : Nat → List Int32} (h : mR Z (f, A)) (hk : okS Z.2.2.2.2.2.1) : ym G (d + 20) a mX9_close [.inr 0, .inl e.toInt] (f, A) (ypost (F_closed e 1 Z)) := by
  have hS := h.2.2.2.2.1
  have h35 : f 35 = Z.2.2.2.2.2.1.length := hS.1
  have hl := hk.1
  refine ym.len (fun hlen => ?_)
  have l39 : (A 39).length = 12 := hlen 39 _ rfl
  unfold F_closed
  cases he : sget Z.2.2.2.2.2.1 e with
  | none =>
    have hn := sget_n he
    refine ym_at 2 rfl (by decide) (Nat.le_of_ble_eq_true rfl) tX9_close_ok ?_
    try simp only [List.map_cons, List.map_nil, List.length_cons, List.length_nil, ylr_s, ylr_0, Nat.reduceAdd, Nat.reduceSub, List.cons_append, List.nil_append, List.set_cons_zero, List.set_cons_succ, Option.toList_none, Option.toList_some, Int32.reduceToInt, yu, ya, reduceIte, Nat.reduceEqDiff, Int.toNat_natCast, Int.reduceToNat]
    refine ygo 99999 90 rfl rfl (by first | exact trivial | (simp only [true_and, yu, ya, reduceIte, Nat.reduceEqDiff, Int32.reduceToInt, Int.toNat_natCast, Int.reduceToNat]; omega) | decide | (simp; done) | (simp; omega)) ?_
    try simp only [List.map_cons, List.map_nil, List.length_cons, List.length_nil, ylr_s, ylr_0, Nat.reduceAdd, Nat.reduceSub, List.cons_append, List.nil_append, List.set_cons_zero, List.set_cons_succ, Option.toList_none, Option.toList_some, Int32.reduceToInt, yu, ya, reduceIte, Nat.reduceEqDiff, Int.toNat_natCast, Int.reduceToNat]
    refine ycV rfl rfl rfl (cm_isEntry (yr_t _) (mS_r hS hl)) rfl kX9_isEntry iX9_isEntry rfl rfl rfl (Nat.le_of_ble_eq_true rfl) (fun v1 Y1 q1 => ?_)
    obtain ⟨rfl, rfl⟩ := q1
    refine ygo 99999 90 rfl rfl (by first | exact trivial | (simp only [true_and, yu, ya, reduceIte, Nat.reduceEqDiff, Int32.reduceToInt, Int.toNat_natCast, Int.reduceToNat]; omega) | decide | (simp; done) | (simp; omega)) ?_
    try simp only [List.map_cons, List.map_nil, List.length_cons, List.length_nil, ylr_s, ylr_0, Nat.reduceAdd, Nat.reduceSub, List.cons_append, List.nil_append, List.set_cons_zero, List.set_cons_succ, Option.toList_none, Option.toList_some, Int32.reduceToInt, yu, ya, reduceIte, Nat.reduceEqDiff, Int.toNat_natCast, Int.reduceToNat]
    refine yi_ifne rfl (by first | exact yr_t _ | exact yr_b _ | (unfold yr; omega)) (fun c1 => ?_) (fun c1 => ?_)
    · omega
    · refine ygo 99999 90 rfl rfl (by first | exact trivial | (simp only [true_and, yu, ya, reduceIte, Nat.reduceEqDiff, Int32.reduceToInt, Int.toNat_natCast, Int.reduceToNat]; omega) | decide | (simp; done) | (simp; omega)) ?_
      try simp only [List.map_cons, List.map_nil, List.length_cons, List.length_nil, ylr_s, ylr_0, Nat.reduceAdd, Nat.reduceSub, List.cons_append, List.nil_append, List.set_cons_zero, List.set_cons_succ, Option.toList_none, Option.toList_some, Int32.reduceToInt, yu, ya, reduceIte, Nat.reduceEqDiff, Int.toNat_natCast, Int.reduceToNat]
      refine yi_ret_i rfl rfl (ypost.same h rfl rfl)
  | some x =>
    obtain ⟨j, rfl, hj, hj12⟩ := sget_s he hl
    have hjl := (List.getElem?_eq_some_iff.mp hj).1
    have hjj : (nI j).toInt.toNat = j := by rw [i_n (by omega)]; rfl
    have hM := hS.2 j x hj
    have m4 : (A 39).getD j 0 = x.2.2.2.2.2.1 := hM.2.2.2.1
    have hV := hk.2 j x hj
    have hc01 := hV.2.2.2.2.1
    dsimp only
    rw [hjj, i_n (by omega)]
    refine ym_at 2 rfl (by decide) (Nat.le_of_ble_eq_true rfl) tX9_close_ok ?_
    try simp only [List.map_cons, List.map_nil, List.length_cons, List.length_nil, ylr_s, ylr_0, Nat.reduceAdd, Nat.reduceSub, List.cons_append, List.nil_append, List.set_cons_zero, List.set_cons_succ, Option.toList_none, Option.toList_some, Int32.reduceToInt, yu, ya, reduceIte, Nat.reduceEqDiff, Int.toNat_natCast, Int.reduceToNat]
    refine ygo 99999 90 rfl rfl (by first | exact trivial | (simp only [true_and, yu, ya, reduceIte, Nat.reduceEqDiff, Int32.reduceToInt, Int.toNat_natCast, Int.reduceToNat]; omega) | decide | (simp; done) | (simp; omega)) ?_
    try simp only [List.map_cons, List.map_nil, List.length_cons, List.length_nil, ylr_s, ylr_0, Nat.reduceAdd, Nat.reduceSub, List.cons_append, List.nil_append, List.set_cons_zero, List.set_cons_succ, Option.toList_none, Option.toList_some, Int32.reduceToInt, yu, ya, reduceIte, Nat.reduceEqDiff, Int.toNat_natCast, Int.reduceToNat]
    refine ycV rfl rfl rfl (cm_isEntry (by unfold yr; omega) (mS_r hS hl)) rfl kX9_isEntry iX9_isEntry rfl rfl rfl (Nat.le_of_ble_eq_true rfl) (fun v1 Y1 q1 => ?_)
    obtain ⟨rfl, rfl⟩ := q1
    refine ygo 99999 90 rfl rfl (by first | exact trivial | (simp only [true_and, yu, ya, reduceIte, Nat.reduceEqDiff, Int32.reduceToInt, Int.toNat_natCast, Int.reduceToNat]; omega) | decide | (simp; done) | (simp; omega)) ?_
    try simp only [List.map_cons, List.map_nil, List.length_cons, List.length_nil, ylr_s, ylr_0, Nat.reduceAdd, Nat.reduceSub, List.cons_append, List.nil_append, List.set_cons_zero, List.set_cons_succ, Option.toList_none, Option.toList_some, Int32.reduceToInt, yu, ya, reduceIte, Nat.reduceEqDiff, Int.toNat_natCast, Int.reduceToNat]
    refine yi_ifne rfl (by first | exact yr_t _ | exact yr_b _ | (unfold yr; omega)) (fun c1 => ?_) (fun c1 => ?_)
    · refine ygo 99999 90 rfl rfl (by first | exact trivial | (simp only [true_and, yu, ya, reduceIte, Nat.reduceEqDiff, Int32.reduceToInt, Int.toNat_natCast, Int.reduceToNat]; omega) | decide | (simp; done) | (simp; omega)) ?_
      try simp only [List.map_cons, List.map_nil, List.length_cons, List.length_nil, ylr_s, ylr_0, Nat.reduceAdd, Nat.reduceSub, List.cons_append, List.nil_append, List.set_cons_zero, List.set_cons_succ, Option.toList_none, Option.toList_some, Int32.reduceToInt, yu, ya, reduceIte, Nat.reduceEqDiff, Int.toNat_natCast, Int.reduceToNat]
      refine yi_ifeq rfl (by first | exact yr_t _ | exact yr_b _ | (unfold yr; omega)) (fun c2 => ?_) (fun c2 => ?_)
      · rw [m4, ← y0, ti] at c2
        rw [if_neg (by rw [c2]; decide)]
        refine ygo 99999 90 rfl rfl (by first | exact trivial | (simp only [true_and, yu, ya, reduceIte, Nat.reduceEqDiff, Int32.reduceToInt, Int.toNat_natCast, Int.reduceToNat]; omega) | decide | (simp; done) | (simp; omega)) ?_
        try simp only [List.map_cons, List.map_nil, List.length_cons, List.length_nil, ylr_s, ylr_0, Nat.reduceAdd, Nat.reduceSub, List.cons_append, List.nil_append, List.set_cons_zero, List.set_cons_succ, Option.toList_none, Option.toList_some, Int32.reduceToInt, yu, ya, reduceIte, Nat.reduceEqDiff, Int.toNat_natCast, Int.reduceToNat]
        refine yi_ret_i rfl rfl ⟨rfl, h.1, h.2.1, h.2.2.1, h.2.2.2.1, mS_set hS hj ?_ (fun e y hne hy => ?_), h.2.2.2.2.2⟩
        · obtain ⟨m1, m2, m3, -, m5⟩ := hM
          refine ⟨m1, m2, m3, ?_, m5⟩
          simp only [ya, reduceIte]
          rw [gset_eq (by omega)]
          rfl
        · obtain ⟨m1, m2, m3, m4, m5⟩ := hS.2 e y hy
          refine ⟨m1, m2, m3, ?_, m5⟩
          simp only [ya, reduceIte]
          rw [gset_ne hne]
          exact m4
      · rw [m4, ← y0, ti] at c2
        rw [if_pos (by rcases hc01 with e | e; exact absurd e c2; exact e)]
        refine ygo 99999 90 rfl rfl (by first | exact trivial | (simp only [true_and, yu, ya, reduceIte, Nat.reduceEqDiff, Int32.reduceToInt, Int.toNat_natCast, Int.reduceToNat]; omega) | decide | (simp; done) | (simp; omega)) ?_
        try simp only [List.map_cons, List.map_nil, List.length_cons, List.length_nil, ylr_s, ylr_0, Nat.reduceAdd, Nat.reduceSub, List.cons_append, List.nil_append, List.set_cons_zero, List.set_cons_succ, Option.toList_none, Option.toList_some, Int32.reduceToInt, yu, ya, reduceIte, Nat.reduceEqDiff, Int.toNat_natCast, Int.reduceToNat]
        refine yi_ret_i rfl rfl (ypost.same h rfl rfl)
    · omega
set_option maxRecDepth 100000 in
set_option maxHeartbeats 2000000 in
theorem o_reopen {G : xG} {d a : Nat} {e : Int32} {Z : pZ} {f : Nat → Int} {A : Nat → List Int32} (h : mR Z (f, A)) (hk : okS Z.2.2.2.2.2.1) : ym G (d + 20) a mX9_reopen [.inr 0, .inl e.toInt] (f, A) (ypost (F_closed e 0 Z)) := by
  have hS := h.2.2.2.2.1
  have h35 : f 35 = Z.2.2.2.2.2.1.length := hS.1
  have hl := hk.1
  refine ym.len (fun hlen => ?_)
  have l39 : (A 39).length = 12 := hlen 39 _ rfl
  unfold F_closed
  cases he : sget Z.2.2.2.2.2.1 e with
  | none =>
    have hn := sget_n he
    refine ym_at 2 rfl (by decide) (Nat.le_of_ble_eq_true rfl) tX9_reopen_ok ?_
    try simp only [List.map_cons, List.map_nil, List.length_cons, List.length_nil, ylr_s, ylr_0, Nat.reduceAdd, Nat.reduceSub, List.cons_append, List.nil_append, List.set_cons_zero, List.set_cons_succ, Option.toList_none, Option.toList_some, Int32.reduceToInt, yu, ya, reduceIte, Nat.reduceEqDiff, Int.toNat_natCast, Int.reduceToNat]
    refine ygo 99999 90 rfl rfl (by first | exact trivial | (simp only [true_and, yu, ya, reduceIte, Nat.reduceEqDiff, Int32.reduceToInt, Int.toNat_natCast, Int.reduceToNat]; omega) | decide | (simp; done) | (simp; omega)) ?_
    try simp only [List.map_cons, List.map_nil, List.length_cons, List.length_nil, ylr_s, ylr_0, Nat.reduceAdd, Nat.reduceSub, List.cons_append, List.nil_append, List.set_cons_zero, List.set_cons_succ, Option.toList_none, Option.toList_some, Int32.reduceToInt, yu, ya, reduceIte, Nat.reduceEqDiff, Int.toNat_natCast, Int.reduceToNat]
    refine ycV rfl rfl rfl (cm_isEntry (yr_t _) (mS_r hS hl)) rfl kX9_isEntry iX9_isEntry rfl rfl rfl (Nat.le_of_ble_eq_true rfl) (fun v1 Y1 q1 => ?_)
    obtain ⟨rfl, rfl⟩ := q1
    refine ygo 99999 90 rfl rfl (by first | exact trivial | (simp only [true_and, yu, ya, reduceIte, Nat.reduceEqDiff, Int32.reduceToInt, Int.toNat_natCast, Int.reduceToNat]; omega) | decide | (simp; done) | (simp; omega)) ?_
    try simp only [List.map_cons, List.map_nil, List.length_cons, List.length_nil, ylr_s, ylr_0, Nat.reduceAdd, Nat.reduceSub, List.cons_append, List.nil_append, List.set_cons_zero, List.set_cons_succ, Option.toList_none, Option.toList_some, Int32.reduceToInt, yu, ya, reduceIte, Nat.reduceEqDiff, Int.toNat_natCast, Int.reduceToNat]
    refine yi_ifne rfl (by first | exact yr_t _ | exact yr_b _ | (unfold yr; omega)) (fun c1 => ?_) (fun c1 => ?_)
    · omega
    · refine ygo 99999 90 rfl rfl (by first | exact trivial | (simp only [true_and, yu, ya, reduceIte, Nat.reduceEqDiff, Int32.reduceToInt, Int.toNat_natCast, Int.reduceToNat]; omega) | decide | (simp; done) | (simp; omega)) ?_
      try simp only [List.map_cons, List.map_nil, List.length_cons, List.length_nil, ylr_s, ylr_0, Nat.reduceAdd, Nat.reduceSub, List.cons_append, List.nil_append, List.set_cons_zero, List.set_cons_succ, Option.toList_none, Option.toList_some, Int32.reduceToInt, yu, ya, reduceIte, Nat.reduceEqDiff, Int.toNat_natCast, Int.reduceToNat]
      refine yi_ret_i rfl rfl (ypost.same h rfl rfl)
  | some x =>
    obtain ⟨j, rfl, hj, hj12⟩ := sget_s he hl
    have hjl := (List.getElem?_eq_some_iff.mp hj).1
    have hjj : (nI j).toInt.toNat = j := by rw [i_n (by omega)]; rfl
    have hM := hS.2 j x hj
    have m4 : (A 39).getD j 0 = x.2.2.2.2.2.1 := hM.2.2.2.1
    have hV := hk.2 j x hj
    have hc01 := hV.2.2.2.2.1
    dsimp only
    rw [hjj, i_n (by omega)]
    refine ym_at 2 rfl (by decide) (Nat.le_of_ble_eq_true rfl) tX9_reopen_ok ?_
    try simp only [List.map_cons, List.map_nil, List.length_cons, List.length_nil, ylr_s, ylr_0, Nat.reduceAdd, Nat.reduceSub, List.cons_append, List.nil_append, List.set_cons_zero, List.set_cons_succ, Option.toList_none, Option.toList_some, Int32.reduceToInt, yu, ya, reduceIte, Nat.reduceEqDiff, Int.toNat_natCast, Int.reduceToNat]
    refine ygo 99999 90 rfl rfl (by first | exact trivial | (simp only [true_and, yu, ya, reduceIte, Nat.reduceEqDiff, Int32.reduceToInt, Int.toNat_natCast, Int.reduceToNat]; omega) | decide | (simp; done) | (simp; omega)) ?_
    try simp only [List.map_cons, List.map_nil, List.length_cons, List.length_nil, ylr_s, ylr_0, Nat.reduceAdd, Nat.reduceSub, List.cons_append, List.nil_append, List.set_cons_zero, List.set_cons_succ, Option.toList_none, Option.toList_some, Int32.reduceToInt, yu, ya, reduceIte, Nat.reduceEqDiff, Int.toNat_natCast, Int.reduceToNat]
    refine ycV rfl rfl rfl (cm_isEntry (by unfold yr; omega) (mS_r hS hl)) rfl kX9_isEntry iX9_isEntry rfl rfl rfl (Nat.le_of_ble_eq_true rfl) (fun v1 Y1 q1 => ?_)
    obtain ⟨rfl, rfl⟩ := q1
    refine ygo 99999 90 rfl rfl (by first | exact trivial | (simp only [true_and, yu, ya, reduceIte, Nat.reduceEqDiff, Int32.reduceToInt, Int.toNat_natCast, Int.reduceToNat]; omega) | decide | (simp; done) | (simp; omega)) ?_
    try simp only [List.map_cons, List.map_nil, List.length_cons, List.length_nil, ylr_s, ylr_0, Nat.reduceAdd, Nat.reduceSub, List.cons_append, List.nil_append, List.set_cons_zero, List.set_cons_succ, Option.toList_none, Option.toList_some, Int32.reduceToInt, yu, ya, reduceIte, Nat.reduceEqDiff, Int.toNat_natCast, Int.reduceToNat]
    refine yi_ifne rfl (by first | exact yr_t _ | exact yr_b _ | (unfold yr; omega)) (fun c1 => ?_) (fun c1 => ?_)
    · refine ygo 99999 90 rfl rfl (by first | exact trivial | (simp only [true_and, yu, ya, reduceIte, Nat.reduceEqDiff, Int32.reduceToInt, Int.toNat_natCast, Int.reduceToNat]; omega) | decide | (simp; done) | (simp; omega)) ?_
      try simp only [List.map_cons, List.map_nil, List.length_cons, List.length_nil, ylr_s, ylr_0, Nat.reduceAdd, Nat.reduceSub, List.cons_append, List.nil_append, List.set_cons_zero, List.set_cons_succ, Option.toList_none, Option.toList_some, Int32.reduceToInt, yu, ya, reduceIte, Nat.reduceEqDiff, Int.toNat_natCast, Int.reduceToNat]
      refine yi_ifne rfl (by first | exact yr_t _ | exact yr_b _ | (unfold yr; omega)) (fun c2 => ?_) (fun c2 => ?_)
      · rw [m4, ← y0, ti] at c2
        rw [if_neg (by exact c2)]
        refine ygo 99999 90 rfl rfl (by first | exact trivial | (simp only [true_and, yu, ya, reduceIte, Nat.reduceEqDiff, Int32.reduceToInt, Int.toNat_natCast, Int.reduceToNat]; omega) | decide | (simp; done) | (simp; omega)) ?_
        try simp only [List.map_cons, List.map_nil, List.length_cons, List.length_nil, ylr_s, ylr_0, Nat.reduceAdd, Nat.reduceSub, List.cons_append, List.nil_append, List.set_cons_zero, List.set_cons_succ, Option.toList_none, Option.toList_some, Int32.reduceToInt, yu, ya, reduceIte, Nat.reduceEqDiff, Int.toNat_natCast, Int.reduceToNat]
        refine yi_ret_i rfl rfl ⟨rfl, h.1, h.2.1, h.2.2.1, h.2.2.2.1, mS_set hS hj ?_ (fun e y hne hy => ?_), h.2.2.2.2.2⟩
        · obtain ⟨m1, m2, m3, -, m5⟩ := hM
          refine ⟨m1, m2, m3, ?_, m5⟩
          simp only [ya, reduceIte]
          rw [gset_eq (by omega)]
          rfl
        · obtain ⟨m1, m2, m3, m4, m5⟩ := hS.2 e y hy
          refine ⟨m1, m2, m3, ?_, m5⟩
          simp only [ya, reduceIte]
          rw [gset_ne hne]
          exact m4
      · rw [m4, ← y0, ti] at c2
        rw [if_pos (by exact c2)]
        refine ygo 99999 90 rfl rfl (by first | exact trivial | (simp only [true_and, yu, ya, reduceIte, Nat.reduceEqDiff, Int32.reduceToInt, Int.toNat_natCast, Int.reduceToNat]; omega) | decide | (simp; done) | (simp; omega)) ?_
        try simp only [List.map_cons, List.map_nil, List.length_cons, List.length_nil, ylr_s, ylr_0, Nat.reduceAdd, Nat.reduceSub, List.cons_append, List.nil_append, List.set_cons_zero, List.set_cons_succ, Option.toList_none, Option.toList_some, Int32.reduceToInt, yu, ya, reduceIte, Nat.reduceEqDiff, Int.toNat_natCast, Int.reduceToNat]
        refine yi_ret_i rfl rfl (ypost.same h rfl rfl)
    · omega
