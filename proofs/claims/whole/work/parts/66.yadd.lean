set_option maxRecDepth 100000 in
set_option maxHeartbeats 2000000 in
theorem l_add1 {G : xG} {d a : Nat} {x1 x2 x3 x4 x5 : Int32} {Z : pZ} {f : Nat → Int} {A : Nat → List Int32} (h : mR Z (f, A)) (hk : okK Z.1) (g : List Int32) (hg : g = [x1, x2, x3, x4, x5]) : ∀ (n j : Nat) (jz : Int), j + n = 5 → jz = j → (∀ i x, i < j → g[i]? = some x → (!(x == -1)) = true ∧ blw x 256) →
    yw G (d + 20) a mX9_add 3 [some (.inr 0), some (.inl x1.toInt), some (.inl x2.toInt), some (.inl x3.toInt), some (.inl x4.toInt), some (.inl x5.toInt), some (.inl jz), none] [] (f, A) (ypost (F_add g Z)) := by
  obtain ⟨⟨h0, h1, h2, h3, h4, h5, h6, h7, h8, h9⟩, hrr⟩ := id h
  dsimp only at h0 h1 h2 h3 h4 h5 h6 h7 h8 h9
  have hk8 : Z.1.2.2.2.length ≤ 8 := hk.2.2.2.2.2.2.2.1
  have hg5 : g.length = 5 := by rw [hg]; rfl
  have hneg : (-1 : Int32).toInt = -1 := rfl
  have go : ∀ (j : Nat) (jz : Int), jz = j → j ≤ 5 → (∀ i x, i < j → g[i]? = some x → (!(x == -1)) = true ∧ blw x 256) → (j = g.length ∨ ∃ x, g[j]? = some x ∧ (!(x == -1)) = false) → yw G (d + 20) a mX9_add 54 [some (.inr 0), some (.inl x1.toInt), some (.inl x2.toInt), some (.inl x3.toInt), some (.inl x4.toInt), some (.inl x5.toInt), some (.inl jz), none] [] (f, A) (ypost (F_add g Z)) := by
    intro j jz hjz hj5 hall hend
    have hgv : gvn g = g.take j := tw_take g j (fun i x hi hx => (hall i x hi hx).1) hend
    have hany : (g.take j).any (fun x => !decide (blw x 256)) = false := by
      apply any_f
      intro i x hi hx
      rw [List.getElem?_take] at hx
      split at hx
      next hij => have := (hall i x hij hx).2; simpa using this
      next => cases hx
    have hF : F_add g Z = if ¬ (Z.2.1 = true ∧ 0 < Z.1.2.2.2.length) then (-2, Z) else if 120 < (lastB Z.1).length + j then (-3, Z) else (nI ((lastB Z.1).length + j), setB Z.1 (lastB Z.1 ++ g.take j), Z.2) := by
      unfold F_add
      rw [hgv, hany, List.length_take, Nat.min_eq_left (by omega)]
      rfl
    rw [hF]
    have hb := bInt_01 Z.2.1
    refine ygo 99999 90 rfl rfl (by first | exact trivial | (simp only [true_and, yu, ya, reduceIte, Nat.reduceEqDiff, Int32.reduceToInt, Int.toNat_natCast, Int.reduceToNat]; omega) | decide | (simp; done)) ?_
    try simp only [List.map_cons, List.map_nil, List.length_cons, List.length_nil, ylr_s, ylr_0, Nat.reduceAdd, Nat.reduceSub, List.cons_append, List.nil_append, List.set_cons_zero, List.set_cons_succ, Option.toList_none, Option.toList_some, Int32.reduceToInt, yu, ya, reduceIte, Nat.reduceEqDiff, Int.toNat_natCast, Int.reduceToNat]
    refine yi_ifeq rfl (by first | exact yr_t _ | exact yr_b _ | (unfold yr; omega)) (fun c1 => ?_) (fun c1 => ?_)
    · rw [h0, bInt_z] at c1
      refine ygo 99999 90 rfl rfl (by first | exact trivial | (simp only [true_and, yu, ya, reduceIte, Nat.reduceEqDiff, Int32.reduceToInt, Int.toNat_natCast, Int.reduceToNat]; omega) | decide | (simp; done)) ?_
      try simp only [List.map_cons, List.map_nil, List.length_cons, List.length_nil, ylr_s, ylr_0, Nat.reduceAdd, Nat.reduceSub, List.cons_append, List.nil_append, List.set_cons_zero, List.set_cons_succ, Option.toList_none, Option.toList_some, Int32.reduceToInt, yu, ya, reduceIte, Nat.reduceEqDiff, Int.toNat_natCast, Int.reduceToNat]
      refine yi_ret_i rfl rfl (ypost.same h (if_pos (fun hc => by rw [c1] at hc; exact absurd hc.1 (by decide))) rfl)
    rw [h0, bInt_z, Bool.not_eq_false] at c1
    refine ygo 99999 90 rfl rfl (by first | exact trivial | (simp only [true_and, yu, ya, reduceIte, Nat.reduceEqDiff, Int32.reduceToInt, Int.toNat_natCast, Int.reduceToNat]; omega) | decide | (simp; done)) ?_
    try simp only [List.map_cons, List.map_nil, List.length_cons, List.length_nil, ylr_s, ylr_0, Nat.reduceAdd, Nat.reduceSub, List.cons_append, List.nil_append, List.set_cons_zero, List.set_cons_succ, Option.toList_none, Option.toList_some, Int32.reduceToInt, yu, ya, reduceIte, Nat.reduceEqDiff, Int.toNat_natCast, Int.reduceToNat]
    refine yi_ifne rfl (by first | exact yr_t _ | exact yr_b _ | (unfold yr; omega)) (fun c2 => ?_) (fun c2 => ?_)
    · rw [if_neg (fun hc => hc ⟨c1, by omega⟩)]
      obtain ⟨e, he⟩ := lt_get (l := Z.1.2.2.2) (j := Z.1.2.2.2.length - 1) (by omega)
      have hlast : lastB Z.1 = e.2.2 := rby_n he (by omega)
      have hel : e.2.2.length ≤ 120 := (hk.2.2.2.2.2.2.2.2 e (List.mem_of_getElem? he)).2.2.1
      have hgg := (h9 _ e he).2.2.1
      have e1 : (f 10 - 1).toNat = Z.1.2.2.2.length - 1 := by omega
      have hq : ((A 13).getD (f 10 - 1).toNat 0).toInt = e.2.2.length := by rw [e1, hgg, i_n (by omega)]
      rw [hlast]
      refine ygo 99999 90 rfl rfl (by first | exact trivial | (simp only [true_and, yu, ya, reduceIte, Nat.reduceEqDiff, Int32.reduceToInt, Int.toNat_natCast, Int.reduceToNat]; omega) | decide | (simp; done)) ?_
      try simp only [List.map_cons, List.map_nil, List.length_cons, List.length_nil, ylr_s, ylr_0, Nat.reduceAdd, Nat.reduceSub, List.cons_append, List.nil_append, List.set_cons_zero, List.set_cons_succ, Option.toList_none, Option.toList_some, Int32.reduceToInt, yu, ya, reduceIte, Nat.reduceEqDiff, Int.toNat_natCast, Int.reduceToNat]
      refine yi_icmple rfl (by refine ⟨?_, ?_⟩ <;> first | exact yr_t _ | exact yr_b _ | (unfold yr; omega)) (fun c3 => ?_) (fun c3 => ?_)
      · rw [if_neg (by omega)]
        refine ygo 96 90 rfl rfl (by first | exact trivial | (simp only [true_and, yu, ya, reduceIte, Nat.reduceEqDiff, Int32.reduceToInt, Int.toNat_natCast, Int.reduceToNat]; omega) | decide | (simp; done)) ?_
        try simp only [List.map_cons, List.map_nil, List.length_cons, List.length_nil, ylr_s, ylr_0, Nat.reduceAdd, Nat.reduceSub, List.cons_append, List.nil_append, List.set_cons_zero, List.set_cons_succ, Option.toList_none, Option.toList_some, Int32.reduceToInt, yu, ya, reduceIte, Nat.reduceEqDiff, Int.toNat_natCast, Int.reduceToNat]
        have hA := l_add2 (G := G) (d := d) (a := a) (m := j) (x1 := x1) (x2 := x2) (x3 := x3) (x4 := x4) (x5 := x5) hjz hj5 rfl hk8 he (fun e he => (hk.2.2.2.2.2.2.2.2 e he).2.2.1) (by omega) j 0 0 f A (by omega) rfl (by rw [List.take_zero, List.append_nil, rset_self he]; exact h)
        rw [hg]
        exact hA
      · rw [if_pos (by omega)]
        refine ygo 99999 90 rfl rfl (by first | exact trivial | (simp only [true_and, yu, ya, reduceIte, Nat.reduceEqDiff, Int32.reduceToInt, Int.toNat_natCast, Int.reduceToNat]; omega) | decide | (simp; done)) ?_
        try simp only [List.map_cons, List.map_nil, List.length_cons, List.length_nil, ylr_s, ylr_0, Nat.reduceAdd, Nat.reduceSub, List.cons_append, List.nil_append, List.set_cons_zero, List.set_cons_succ, Option.toList_none, Option.toList_some, Int32.reduceToInt, yu, ya, reduceIte, Nat.reduceEqDiff, Int.toNat_natCast, Int.reduceToNat]
        refine yi_ret_i rfl rfl (ypost.same h rfl rfl)
    · refine ygo 99999 90 rfl rfl (by first | exact trivial | (simp only [true_and, yu, ya, reduceIte, Nat.reduceEqDiff, Int32.reduceToInt, Int.toNat_natCast, Int.reduceToNat]; omega) | decide | (simp; done)) ?_
      try simp only [List.map_cons, List.map_nil, List.length_cons, List.length_nil, ylr_s, ylr_0, Nat.reduceAdd, Nat.reduceSub, List.cons_append, List.nil_append, List.set_cons_zero, List.set_cons_succ, Option.toList_none, Option.toList_some, Int32.reduceToInt, yu, ya, reduceIte, Nat.reduceEqDiff, Int.toNat_natCast, Int.reduceToNat]
      refine yi_ret_i rfl rfl (ypost.same h (if_pos (fun hc => by omega)) rfl)
  intro n
  induction n with
  | zero =>
    intro j jz hj hjz hall
    refine ygo 99999 90 rfl rfl (by first | exact trivial | (simp only [true_and, yu, ya, reduceIte, Nat.reduceEqDiff, Int32.reduceToInt, Int.toNat_natCast, Int.reduceToNat]; omega) | decide | (simp; done)) ?_
    try simp only [List.map_cons, List.map_nil, List.length_cons, List.length_nil, ylr_s, ylr_0, Nat.reduceAdd, Nat.reduceSub, List.cons_append, List.nil_append, List.set_cons_zero, List.set_cons_succ, Option.toList_none, Option.toList_some, Int32.reduceToInt, yu, ya, reduceIte, Nat.reduceEqDiff, Int.toNat_natCast, Int.reduceToNat]
    refine yi_icmpge rfl (by refine ⟨?_, ?_⟩ <;> first | exact yr_t _ | exact yr_b _ | (unfold yr; omega)) (fun c => ?_) (fun c => ?_)
    · exact go j _ hjz (by omega) hall (Or.inl (by omega))
    · omega
  | succ n ih =>
    intro j jz hj hjz hall
    obtain ⟨b, hbj⟩ := lt_get (l := g) (j := j) (by omega)
    have hgd : ([x1, x2, x3, x4, x5] : List Int32).getD j 0 = b := by rw [← hg, List.getD_eq_getElem?_getD, hbj]; rfl
    refine ygo 99999 90 rfl rfl (by first | exact trivial | (simp only [true_and, yu, ya, reduceIte, Nat.reduceEqDiff, Int32.reduceToInt, Int.toNat_natCast, Int.reduceToNat]; omega) | decide | (simp; done)) ?_
    try simp only [List.map_cons, List.map_nil, List.length_cons, List.length_nil, ylr_s, ylr_0, Nat.reduceAdd, Nat.reduceSub, List.cons_append, List.nil_append, List.set_cons_zero, List.set_cons_succ, Option.toList_none, Option.toList_some, Int32.reduceToInt, yu, ya, reduceIte, Nat.reduceEqDiff, Int.toNat_natCast, Int.reduceToNat]
    refine yi_icmpge rfl (by refine ⟨?_, ?_⟩ <;> first | exact yr_t _ | exact yr_b _ | (unfold yr; omega)) (fun c => ?_) (fun c => ?_)
    · omega
    refine ygo 99999 90 rfl rfl (by first | exact trivial | (simp only [true_and, yu, ya, reduceIte, Nat.reduceEqDiff, Int32.reduceToInt, Int.toNat_natCast, Int.reduceToNat]; omega) | decide | (simp; done)) ?_
    try simp only [List.map_cons, List.map_nil, List.length_cons, List.length_nil, ylr_s, ylr_0, Nat.reduceAdd, Nat.reduceSub, List.cons_append, List.nil_append, List.set_cons_zero, List.set_cons_succ, Option.toList_none, Option.toList_some, Int32.reduceToInt, yu, ya, reduceIte, Nat.reduceEqDiff, Int.toNat_natCast, Int.reduceToNat]
    refine ycS rfl rfl rfl (cm_one (k := j) hjz (by omega)) rfl kX9_one iX9_one rfl rfl (Nat.le_of_ble_eq_true rfl) (fun v1 Y1 q1 => ?_)
    obtain ⟨rfl, rfl⟩ := q1
    rw [hgd]
    refine ygo 99999 90 rfl rfl (by first | exact trivial | (simp only [true_and, yu, ya, reduceIte, Nat.reduceEqDiff, Int32.reduceToInt, Int.toNat_natCast, Int.reduceToNat]; omega) | decide | (simp; done)) ?_
    try simp only [List.map_cons, List.map_nil, List.length_cons, List.length_nil, ylr_s, ylr_0, Nat.reduceAdd, Nat.reduceSub, List.cons_append, List.nil_append, List.set_cons_zero, List.set_cons_succ, Option.toList_none, Option.toList_some, Int32.reduceToInt, yu, ya, reduceIte, Nat.reduceEqDiff, Int.toNat_natCast, Int.reduceToNat]
    refine yi_icmpeq rfl (by refine ⟨?_, ?_⟩ <;> first | exact yr_t _ | exact yr_b _ | (unfold yr; omega)) (fun c2 => ?_) (fun c2 => ?_)
    · rw [← hneg, ti] at c2
      exact go j _ hjz (by omega) hall (Or.inr ⟨b, hbj, by rw [c2]; decide⟩)
    rw [← hneg, ti] at c2
    refine ygo 99999 90 rfl rfl (by first | exact trivial | (simp only [true_and, yu, ya, reduceIte, Nat.reduceEqDiff, Int32.reduceToInt, Int.toNat_natCast, Int.reduceToNat]; omega) | decide | (simp; done)) ?_
    try simp only [List.map_cons, List.map_nil, List.length_cons, List.length_nil, ylr_s, ylr_0, Nat.reduceAdd, Nat.reduceSub, List.cons_append, List.nil_append, List.set_cons_zero, List.set_cons_succ, Option.toList_none, Option.toList_some, Int32.reduceToInt, yu, ya, reduceIte, Nat.reduceEqDiff, Int.toNat_natCast, Int.reduceToNat]
    refine ycS rfl rfl rfl (cm_one (k := j) hjz (by omega)) rfl kX9_one iX9_one rfl rfl (Nat.le_of_ble_eq_true rfl) (fun v2 Y2 q2 => ?_)
    obtain ⟨rfl, rfl⟩ := q2
    rw [hgd]
    refine ygo 99999 90 rfl rfl (by first | exact trivial | (simp only [true_and, yu, ya, reduceIte, Nat.reduceEqDiff, Int32.reduceToInt, Int.toNat_natCast, Int.reduceToNat]; omega) | decide | (simp; done)) ?_
    try simp only [List.map_cons, List.map_nil, List.length_cons, List.length_nil, ylr_s, ylr_0, Nat.reduceAdd, Nat.reduceSub, List.cons_append, List.nil_append, List.set_cons_zero, List.set_cons_succ, Option.toList_none, Option.toList_some, Int32.reduceToInt, yu, ya, reduceIte, Nat.reduceEqDiff, Int.toNat_natCast, Int.reduceToNat]
    refine ycS rfl rfl rfl (cm_in (yr_t _) (by unfold yr; omega)) rfl kX9_in iX9_in rfl rfl (Nat.le_of_ble_eq_true rfl) (fun v3 Y3 q3 => ?_)
    obtain ⟨rfl, rfl⟩ := q3
    refine ygo 99999 90 rfl rfl (by first | exact trivial | (simp only [true_and, yu, ya, reduceIte, Nat.reduceEqDiff, Int32.reduceToInt, Int.toNat_natCast, Int.reduceToNat]; omega) | decide | (simp; done)) ?_
    try simp only [List.map_cons, List.map_nil, List.length_cons, List.length_nil, ylr_s, ylr_0, Nat.reduceAdd, Nat.reduceSub, List.cons_append, List.nil_append, List.set_cons_zero, List.set_cons_succ, Option.toList_none, Option.toList_some, Int32.reduceToInt, yu, ya, reduceIte, Nat.reduceEqDiff, Int.toNat_natCast, Int.reduceToNat]
    refine yi_ifne rfl (by first | exact yr_t _ | exact yr_b _ | (unfold yr; omega)) (fun c3 => ?_) (fun c3 => ?_)
    · refine ygo 3 90 rfl rfl (by first | exact trivial | (simp only [true_and, yu, ya, reduceIte, Nat.reduceEqDiff, Int32.reduceToInt, Int.toNat_natCast, Int.reduceToNat]; omega) | decide | (simp; done)) ?_
      try simp only [List.map_cons, List.map_nil, List.length_cons, List.length_nil, ylr_s, ylr_0, Nat.reduceAdd, Nat.reduceSub, List.cons_append, List.nil_append, List.set_cons_zero, List.set_cons_succ, Option.toList_none, Option.toList_some, Int32.reduceToInt, yu, ya, reduceIte, Nat.reduceEqDiff, Int.toNat_natCast, Int.reduceToNat]
      refine ih (j + 1) _ (by omega) (by omega) (fun i x hi hx => ?_)
      by_cases hij : i = j
      · subst hij
        rw [hbj] at hx
        cases hx
        exact ⟨by simpa using c2, by omega⟩
      · exact hall i x (by omega) hx
    · have hF : F_add g Z = (-1, Z) := by
        refine if_pos (List.any_eq_true.mpr ⟨b, tw_mem g j b (fun i x hi hx => (hall i x hi hx).1) hbj (by simpa using c2), ?_⟩)
        simp only [Bool.not_eq_true', decide_eq_false_iff_not]
        omega
      refine ygo 99999 90 rfl rfl (by first | exact trivial | (simp only [true_and, yu, ya, reduceIte, Nat.reduceEqDiff, Int32.reduceToInt, Int.toNat_natCast, Int.reduceToNat]; omega) | decide | (simp; done)) ?_
      try simp only [List.map_cons, List.map_nil, List.length_cons, List.length_nil, ylr_s, ylr_0, Nat.reduceAdd, Nat.reduceSub, List.cons_append, List.nil_append, List.set_cons_zero, List.set_cons_succ, Option.toList_none, Option.toList_some, Int32.reduceToInt, yu, ya, reduceIte, Nat.reduceEqDiff, Int.toNat_natCast, Int.reduceToNat]
      refine yi_ret_i rfl rfl (ypost.same h hF rfl)
set_option maxRecDepth 100000 in
set_option maxHeartbeats 2000000 in
theorem o_add {G : xG} {d a : Nat} {x1 x2 x3 x4 x5 : Int32} {Z : pZ} {f : Nat → Int} {A : Nat → List Int32} (h : mR Z (f, A)) (hk : okK Z.1) : ym G (d + 20) a mX9_add [.inr 0, .inl x1.toInt, .inl x2.toInt, .inl x3.toInt, .inl x4.toInt, .inl x5.toInt] (f, A) (ypost (F_add [x1, x2, x3, x4, x5] Z)) := by
  refine ym_at 8 rfl (by decide) (Nat.le_of_ble_eq_true rfl) tX9_add_ok ?_
  try simp only [List.map_cons, List.map_nil, List.length_cons, List.length_nil, ylr_s, ylr_0, Nat.reduceAdd, Nat.reduceSub, List.cons_append, List.nil_append, List.set_cons_zero, List.set_cons_succ, Option.toList_none, Option.toList_some, Int32.reduceToInt, yu, ya, reduceIte, Nat.reduceEqDiff, Int.toNat_natCast, Int.reduceToNat]
  refine ygo 3 90 rfl rfl (by first | exact trivial | (simp only [true_and, yu, ya, reduceIte, Nat.reduceEqDiff, Int32.reduceToInt, Int.toNat_natCast, Int.reduceToNat]; omega) | decide | (simp; done)) ?_
  try simp only [List.map_cons, List.map_nil, List.length_cons, List.length_nil, ylr_s, ylr_0, Nat.reduceAdd, Nat.reduceSub, List.cons_append, List.nil_append, List.set_cons_zero, List.set_cons_succ, Option.toList_none, Option.toList_some, Int32.reduceToInt, yu, ya, reduceIte, Nat.reduceEqDiff, Int.toNat_natCast, Int.reduceToNat]
  exact l_add1 h hk [x1, x2, x3, x4, x5] rfl 5 0 0 (by omega) rfl (fun i x hi => absurd hi (by omega))
set_option maxRecDepth 100000 in
set_option maxHeartbeats 2000000 in
theorem l_again {G : xG} {d a r m b : Nat} {bz mz : Int} {Z : pZ} {e : Int32 × Int32 × List Int32} (hm : mz = m) (hb : bz = b) (hb1 : 1 ≤ b) (hbl : b ≤ e.2.2.length) (hr : r = Z.1.2.2.2.length - 1) (hr8 : Z.1.2.2.2.length ≤ 8) (he : Z.1.2.2.2[r]? = some e) (hall : ∀ e ∈ Z.1.2.2.2, e.2.2.length ≤ 120) (hlm : e.2.2.length + m ≤ 120) : ∀ (n j : Nat) (jz : Int) (bs : List Int32) (f : Nat → Int) (A : Nat → List Int32), j + n = m → jz = j → e.2.2.length ≤ bs.length → bs.length + n = e.2.2.length + m → rep b n bs = rep b m e.2.2 → mR (((Z.1.1, Z.1.2.1, Z.1.2.2.1, rset Z.1.2.2.2 r bs) : cV), Z.2) (f, A) →
    yw G (d + 20) a mX9_again 77 [some (.inr 0), some (.inl bz), some (.inl mz), some (.inl jz)] [] (f, A) (ypost (nI (e.2.2.length + m), setB Z.1 (rep b m e.2.2), Z.2)) := by
  have hrl := (List.getElem?_eq_some_iff.mp he).1
  intro n
  induction n with
  | zero =>
    intro j jz bs f A hj hjz hbs hbn hrep h
    have hjm : j = m := by omega
    have hrb : bs = rep b m e.2.2 := hrep
    obtain ⟨⟨h0, h1, h2, h3, h4, h5, h6, h7, h8, h9⟩, hrr⟩ := id h
    dsimp only at h0 h1 h2 h3 h4 h5 h6 h7 h8 h9
    rw [rset_len] at h8
    have hg := (h9 r _ (rset_get he _)).2.2.1
    have e1 : (f 10 - 1).toNat = r := by omega
    refine ygo 99999 90 rfl rfl (by first | exact trivial | (simp only [true_and, yu, ya, reduceIte, Nat.reduceEqDiff, Int32.reduceToInt, Int.toNat_natCast, Int.reduceToNat]; omega) | decide | (simp; done)) ?_
    try simp only [List.map_cons, List.map_nil, List.length_cons, List.length_nil, ylr_s, ylr_0, Nat.reduceAdd, Nat.reduceSub, List.cons_append, List.nil_append, List.set_cons_zero, List.set_cons_succ, Option.toList_none, Option.toList_some, Int32.reduceToInt, yu, ya, reduceIte, Nat.reduceEqDiff, Int.toNat_natCast, Int.reduceToNat]
    refine yi_icmpge rfl (by refine ⟨?_, ?_⟩ <;> first | exact yr_t _ | exact yr_b _ | (unfold yr; omega)) (fun c => ?_) (fun c => ?_)
    · refine ygo 99999 90 rfl rfl (by first | exact trivial | (simp only [true_and, yu, ya, reduceIte, Nat.reduceEqDiff, Int32.reduceToInt, Int.toNat_natCast, Int.reduceToNat]; omega) | decide | (simp; done)) ?_
      try simp only [List.map_cons, List.map_nil, List.length_cons, List.length_nil, ylr_s, ylr_0, Nat.reduceAdd, Nat.reduceSub, List.cons_append, List.nil_append, List.set_cons_zero, List.set_cons_succ, Option.toList_none, Option.toList_some, Int32.reduceToInt, yu, ya, reduceIte, Nat.reduceEqDiff, Int.toNat_natCast, Int.reduceToNat]
      refine yi_ret_i rfl rfl ⟨by rw [e1, hg]; dsimp only; rw [show bs.length = e.2.2.length + m by omega], by rw [hr, hrb] at h; exact h⟩
    · omega
  | succ n ih =>
    intro j jz bs f A hj hjz hbs hbn hrep h
    refine yw.len (fun hl => ?_)
    obtain ⟨⟨h0, h1, h2, h3, h4, h5, h6, h7, h8, h9⟩, hrr⟩ := id h
    dsimp only at h0 h1 h2 h3 h4 h5 h6 h7 h8 h9
    rw [rset_len] at h8
    have hg := (h9 r _ (rset_get he _)).2.2.1
    have e1 : (f 10 - 1).toNat = r := by omega
    have hq : ((A 13).getD (f 10 - 1).toNat 0).toInt = bs.length := by rw [e1, hg, i_n (by dsimp only; omega)]
    obtain ⟨x, hx⟩ := lt_get (l := bs) (j := bs.length - b) (by omega)
    have hxx := (h9 r _ (rset_get he _)).2.2.2 (bs.length - b) x hx
    have i1 : (120 * (f 10 - 1) + ((A 13).getD (f 10 - 1).toNat 0).toInt - bz).toNat = 120 * r + (bs.length - b) := by omega
    refine ygo 99999 90 rfl rfl (by first | exact trivial | (simp only [true_and, yu, ya, reduceIte, Nat.reduceEqDiff, Int32.reduceToInt, Int.toNat_natCast, Int.reduceToNat]; omega) | decide | (simp; done)) ?_
    try simp only [List.map_cons, List.map_nil, List.length_cons, List.length_nil, ylr_s, ylr_0, Nat.reduceAdd, Nat.reduceSub, List.cons_append, List.nil_append, List.set_cons_zero, List.set_cons_succ, Option.toList_none, Option.toList_some, Int32.reduceToInt, yu, ya, reduceIte, Nat.reduceEqDiff, Int.toNat_natCast, Int.reduceToNat]
    refine yi_icmpge rfl (by refine ⟨?_, ?_⟩ <;> first | exact yr_t _ | exact yr_b _ | (unfold yr; omega)) (fun c => ?_) (fun c => ?_)
    · omega
    refine ygo 99999 90 rfl rfl (by first | exact trivial | (simp only [true_and, yu, ya, reduceIte, Nat.reduceEqDiff, Int32.reduceToInt, Int.toNat_natCast, Int.reduceToNat]; omega) | decide | (simp; done)) ?_
    try simp only [List.map_cons, List.map_nil, List.length_cons, List.length_nil, ylr_s, ylr_0, Nat.reduceAdd, Nat.reduceSub, List.cons_append, List.nil_append, List.set_cons_zero, List.set_cons_succ, Option.toList_none, Option.toList_some, Int32.reduceToInt, yu, ya, reduceIte, Nat.reduceEqDiff, Int.toNat_natCast, Int.reduceToNat]
    refine ycV rfl rfl rfl (cm_addByte (r := r) (l := bs.length) (v := x) (by omega) (by omega) hg (by omega) (by rw [i1, hxx])) rfl kX9_addByte iX9_addByte rfl rfl rfl (Nat.le_of_ble_eq_true rfl) (fun v2 Y2 q2 => ?_)
    obtain ⟨rfl, rfl⟩ := q2
    refine ygo 77 90 rfl rfl (by first | exact trivial | (simp only [true_and, yu, ya, reduceIte, Nat.reduceEqDiff, Int32.reduceToInt, Int.toNat_natCast, Int.reduceToNat]; omega) | decide | (simp; done)) ?_
    try simp only [List.map_cons, List.map_nil, List.length_cons, List.length_nil, ylr_s, ylr_0, Nat.reduceAdd, Nat.reduceSub, List.cons_append, List.nil_append, List.set_cons_zero, List.set_cons_succ, Option.toList_none, Option.toList_some, Int32.reduceToInt, yu, ya, reduceIte, Nat.reduceEqDiff, Int.toNat_natCast, Int.reduceToNat]
    have hgx : bs.getD (bs.length - b) (-1) = x := by rw [List.getD_eq_getElem?_getD, hx]; rfl
    refine ih (j + 1) _ (bs ++ [x]) _ _ (by omega) (by omega) (by simp; omega) (by simp; omega) (by rw [← hrep, ← hgx]; rfl) ⟨?_, hrr⟩
    have hp := mD_push (v := x) h.1 hl (rset_get he _) (by omega) (by dsimp only; omega) (set_all he (by omega) hall)
    dsimp only at hp
    rw [rset_set] at hp
    exact hp
set_option maxRecDepth 100000 in
set_option maxHeartbeats 2000000 in
theorem o_again {G : xG} {d a : Nat} {b n : Int32} {Z : pZ} {f : Nat → Int} {A : Nat → List Int32} (h : mR Z (f, A)) (hk : okK Z.1) : ym G (d + 20) a mX9_again [.inr 0, .inl b.toInt, .inl n.toInt] (f, A) (ypost (F_again b n Z)) := by
  unfold F_again
  obtain ⟨⟨h0, h1, h2, h3, h4, h5, h6, h7, h8, h9⟩, hrr⟩ := id h
  dsimp only at h0 h1 h2 h3 h4 h5 h6 h7 h8 h9
  have hk8 : Z.1.2.2.2.length ≤ 8 := hk.2.2.2.2.2.2.2.1
  have hbr := i_rng b
  have hnr := i_rng n
  have hbb := bInt_01 Z.2.1
  refine ym_at 4 rfl (by decide) (Nat.le_of_ble_eq_true rfl) tX9_again_ok ?_
  try simp only [List.map_cons, List.map_nil, List.length_cons, List.length_nil, ylr_s, ylr_0, Nat.reduceAdd, Nat.reduceSub, List.cons_append, List.nil_append, List.set_cons_zero, List.set_cons_succ, Option.toList_none, Option.toList_some, Int32.reduceToInt, yu, ya, reduceIte, Nat.reduceEqDiff, Int.toNat_natCast, Int.reduceToNat]
  refine ygo 99999 90 rfl rfl (by first | exact trivial | (simp only [true_and, yu, ya, reduceIte, Nat.reduceEqDiff, Int32.reduceToInt, Int.toNat_natCast, Int.reduceToNat]; omega) | decide | (simp; done)) ?_
  try simp only [List.map_cons, List.map_nil, List.length_cons, List.length_nil, ylr_s, ylr_0, Nat.reduceAdd, Nat.reduceSub, List.cons_append, List.nil_append, List.set_cons_zero, List.set_cons_succ, Option.toList_none, Option.toList_some, Int32.reduceToInt, yu, ya, reduceIte, Nat.reduceEqDiff, Int.toNat_natCast, Int.reduceToNat]
  refine ycS rfl rfl rfl (cm_in (yr_t _) (by unfold yr; omega)) rfl kX9_in iX9_in rfl rfl (Nat.le_of_ble_eq_true rfl) (fun v1 Y1 q1 => ?_)
  obtain ⟨rfl, rfl⟩ := q1
  refine ygo 99999 90 rfl rfl (by first | exact trivial | (simp only [true_and, yu, ya, reduceIte, Nat.reduceEqDiff, Int32.reduceToInt, Int.toNat_natCast, Int.reduceToNat]; omega) | decide | (simp; done)) ?_
  try simp only [List.map_cons, List.map_nil, List.length_cons, List.length_nil, ylr_s, ylr_0, Nat.reduceAdd, Nat.reduceSub, List.cons_append, List.nil_append, List.set_cons_zero, List.set_cons_succ, Option.toList_none, Option.toList_some, Int32.reduceToInt, yu, ya, reduceIte, Nat.reduceEqDiff, Int.toNat_natCast, Int.reduceToNat]
  refine yi_ifeq rfl (by first | exact yr_t _ | exact yr_b _ | (unfold yr; omega)) (fun c1 => ?_) (fun c1 => ?_)
  · refine ygo 99999 90 rfl rfl (by first | exact trivial | (simp only [true_and, yu, ya, reduceIte, Nat.reduceEqDiff, Int32.reduceToInt, Int.toNat_natCast, Int.reduceToNat]; omega) | decide | (simp; done)) ?_
    try simp only [List.map_cons, List.map_nil, List.length_cons, List.length_nil, ylr_s, ylr_0, Nat.reduceAdd, Nat.reduceSub, List.cons_append, List.nil_append, List.set_cons_zero, List.set_cons_succ, Option.toList_none, Option.toList_some, Int32.reduceToInt, yu, ya, reduceIte, Nat.reduceEqDiff, Int.toNat_natCast, Int.reduceToNat]
    refine yi_ret_i rfl rfl (ypost.same h (if_pos (by omega)) rfl)
  refine ygo 99999 90 rfl rfl (by first | exact trivial | (simp only [true_and, yu, ya, reduceIte, Nat.reduceEqDiff, Int32.reduceToInt, Int.toNat_natCast, Int.reduceToNat]; omega) | decide | (simp; done)) ?_
  try simp only [List.map_cons, List.map_nil, List.length_cons, List.length_nil, ylr_s, ylr_0, Nat.reduceAdd, Nat.reduceSub, List.cons_append, List.nil_append, List.set_cons_zero, List.set_cons_succ, Option.toList_none, Option.toList_some, Int32.reduceToInt, yu, ya, reduceIte, Nat.reduceEqDiff, Int.toNat_natCast, Int.reduceToNat]
  refine yi_icmplt rfl (by refine ⟨?_, ?_⟩ <;> first | exact yr_t _ | exact yr_b _ | (unfold yr; omega)) (fun c2 => ?_) (fun c2 => ?_)
  · refine ygo 99999 90 rfl rfl (by first | exact trivial | (simp only [true_and, yu, ya, reduceIte, Nat.reduceEqDiff, Int32.reduceToInt, Int.toNat_natCast, Int.reduceToNat]; omega) | decide | (simp; done)) ?_
    try simp only [List.map_cons, List.map_nil, List.length_cons, List.length_nil, ylr_s, ylr_0, Nat.reduceAdd, Nat.reduceSub, List.cons_append, List.nil_append, List.set_cons_zero, List.set_cons_succ, Option.toList_none, Option.toList_some, Int32.reduceToInt, yu, ya, reduceIte, Nat.reduceEqDiff, Int.toNat_natCast, Int.reduceToNat]
    refine yi_ret_i rfl rfl (ypost.same h (if_pos (by omega)) rfl)
  refine ygo 99999 90 rfl rfl (by first | exact trivial | (simp only [true_and, yu, ya, reduceIte, Nat.reduceEqDiff, Int32.reduceToInt, Int.toNat_natCast, Int.reduceToNat]; omega) | decide | (simp; done)) ?_
  try simp only [List.map_cons, List.map_nil, List.length_cons, List.length_nil, ylr_s, ylr_0, Nat.reduceAdd, Nat.reduceSub, List.cons_append, List.nil_append, List.set_cons_zero, List.set_cons_succ, Option.toList_none, Option.toList_some, Int32.reduceToInt, yu, ya, reduceIte, Nat.reduceEqDiff, Int.toNat_natCast, Int.reduceToNat]
  refine yi_icmple rfl (by refine ⟨?_, ?_⟩ <;> first | exact yr_t _ | exact yr_b _ | (unfold yr; omega)) (fun c3 => ?_) (fun c3 => ?_)
  · rw [if_neg (by omega)]
    refine ygo 99999 90 rfl rfl (by first | exact trivial | (simp only [true_and, yu, ya, reduceIte, Nat.reduceEqDiff, Int32.reduceToInt, Int.toNat_natCast, Int.reduceToNat]; omega) | decide | (simp; done)) ?_
    try simp only [List.map_cons, List.map_nil, List.length_cons, List.length_nil, ylr_s, ylr_0, Nat.reduceAdd, Nat.reduceSub, List.cons_append, List.nil_append, List.set_cons_zero, List.set_cons_succ, Option.toList_none, Option.toList_some, Int32.reduceToInt, yu, ya, reduceIte, Nat.reduceEqDiff, Int.toNat_natCast, Int.reduceToNat]
    refine yi_ifeq rfl (by first | exact yr_t _ | exact yr_b _ | (unfold yr; omega)) (fun c4 => ?_) (fun c4 => ?_)
    · rw [h0, bInt_z] at c4
      refine ygo 99999 90 rfl rfl (by first | exact trivial | (simp only [true_and, yu, ya, reduceIte, Nat.reduceEqDiff, Int32.reduceToInt, Int.toNat_natCast, Int.reduceToNat]; omega) | decide | (simp; done)) ?_
      try simp only [List.map_cons, List.map_nil, List.length_cons, List.length_nil, ylr_s, ylr_0, Nat.reduceAdd, Nat.reduceSub, List.cons_append, List.nil_append, List.set_cons_zero, List.set_cons_succ, Option.toList_none, Option.toList_some, Int32.reduceToInt, yu, ya, reduceIte, Nat.reduceEqDiff, Int.toNat_natCast, Int.reduceToNat]
      refine yi_ret_i rfl rfl (ypost.same h (if_pos (fun hc => by rw [c4] at hc; exact absurd hc.1 (by decide))) rfl)
    rw [h0, bInt_z, Bool.not_eq_false] at c4
    refine ygo 99999 90 rfl rfl (by first | exact trivial | (simp only [true_and, yu, ya, reduceIte, Nat.reduceEqDiff, Int32.reduceToInt, Int.toNat_natCast, Int.reduceToNat]; omega) | decide | (simp; done)) ?_
    try simp only [List.map_cons, List.map_nil, List.length_cons, List.length_nil, ylr_s, ylr_0, Nat.reduceAdd, Nat.reduceSub, List.cons_append, List.nil_append, List.set_cons_zero, List.set_cons_succ, Option.toList_none, Option.toList_some, Int32.reduceToInt, yu, ya, reduceIte, Nat.reduceEqDiff, Int.toNat_natCast, Int.reduceToNat]
    refine yi_ifeq rfl (by first | exact yr_t _ | exact yr_b _ | (unfold yr; omega)) (fun c5 => ?_) (fun c5 => ?_)
    · refine ygo 99999 90 rfl rfl (by first | exact trivial | (simp only [true_and, yu, ya, reduceIte, Nat.reduceEqDiff, Int32.reduceToInt, Int.toNat_natCast, Int.reduceToNat]; omega) | decide | (simp; done)) ?_
      try simp only [List.map_cons, List.map_nil, List.length_cons, List.length_nil, ylr_s, ylr_0, Nat.reduceAdd, Nat.reduceSub, List.cons_append, List.nil_append, List.set_cons_zero, List.set_cons_succ, Option.toList_none, Option.toList_some, Int32.reduceToInt, yu, ya, reduceIte, Nat.reduceEqDiff, Int.toNat_natCast, Int.reduceToNat]
      refine yi_ret_i rfl rfl (ypost.same h (if_pos (fun hc => by omega)) rfl)
    rw [if_neg (fun hc => hc ⟨c4, by omega⟩)]
    obtain ⟨e, he⟩ := lt_get (l := Z.1.2.2.2) (j := Z.1.2.2.2.length - 1) (by omega)
    have hlast : lastB Z.1 = e.2.2 := rby_n he (by omega)
    have hel : e.2.2.length ≤ 120 := (hk.2.2.2.2.2.2.2.2 e (List.mem_of_getElem? he)).2.2.1
    have hgg := (h9 _ e he).2.2.1
    have e1 : (f 10 - 1).toNat = Z.1.2.2.2.length - 1 := by omega
    have hq : ((A 13).getD (f 10 - 1).toNat 0).toInt = e.2.2.length := by rw [e1, hgg, i_n (by omega)]
    rw [hlast]
    refine ygo 99999 90 rfl rfl (by first | exact trivial | (simp only [true_and, yu, ya, reduceIte, Nat.reduceEqDiff, Int32.reduceToInt, Int.toNat_natCast, Int.reduceToNat]; omega) | decide | (simp; done)) ?_
    try simp only [List.map_cons, List.map_nil, List.length_cons, List.length_nil, ylr_s, ylr_0, Nat.reduceAdd, Nat.reduceSub, List.cons_append, List.nil_append, List.set_cons_zero, List.set_cons_succ, Option.toList_none, Option.toList_some, Int32.reduceToInt, yu, ya, reduceIte, Nat.reduceEqDiff, Int.toNat_natCast, Int.reduceToNat]
    refine yi_icmpge rfl (by refine ⟨?_, ?_⟩ <;> first | exact yr_t _ | exact yr_b _ | (unfold yr; omega)) (fun c6 => ?_) (fun c6 => ?_)
    · rw [if_neg (by omega)]
      refine ygo 99999 90 rfl rfl (by first | exact trivial | (simp only [true_and, yu, ya, reduceIte, Nat.reduceEqDiff, Int32.reduceToInt, Int.toNat_natCast, Int.reduceToNat]; omega) | decide | (simp; done)) ?_
      try simp only [List.map_cons, List.map_nil, List.length_cons, List.length_nil, ylr_s, ylr_0, Nat.reduceAdd, Nat.reduceSub, List.cons_append, List.nil_append, List.set_cons_zero, List.set_cons_succ, Option.toList_none, Option.toList_some, Int32.reduceToInt, yu, ya, reduceIte, Nat.reduceEqDiff, Int.toNat_natCast, Int.reduceToNat]
      refine yi_icmple rfl (by refine ⟨?_, ?_⟩ <;> first | exact yr_t _ | exact yr_b _ | (unfold yr; omega)) (fun c7 => ?_) (fun c7 => ?_)
      · rw [if_neg (by omega)]
        refine ygo 77 90 rfl rfl (by first | exact trivial | (simp only [true_and, yu, ya, reduceIte, Nat.reduceEqDiff, Int32.reduceToInt, Int.toNat_natCast, Int.reduceToNat]; omega) | decide | (simp; done)) ?_
        try simp only [List.map_cons, List.map_nil, List.length_cons, List.length_nil, ylr_s, ylr_0, Nat.reduceAdd, Nat.reduceSub, List.cons_append, List.nil_append, List.set_cons_zero, List.set_cons_succ, Option.toList_none, Option.toList_some, Int32.reduceToInt, yu, ya, reduceIte, Nat.reduceEqDiff, Int.toNat_natCast, Int.reduceToNat]
        exact l_again (m := n.toInt.toNat) (b := b.toInt.toNat) (by omega) (by omega) (by omega) (by omega) rfl hk8 he (fun e he => (hk.2.2.2.2.2.2.2.2 e he).2.2.1) (by omega) n.toInt.toNat 0 0 e.2.2 f A (by omega) rfl (Nat.le_refl _) (by omega) rfl (by rw [rset_self he]; exact h)
      · rw [if_pos (by omega)]
        refine ygo 99999 90 rfl rfl (by first | exact trivial | (simp only [true_and, yu, ya, reduceIte, Nat.reduceEqDiff, Int32.reduceToInt, Int.toNat_natCast, Int.reduceToNat]; omega) | decide | (simp; done)) ?_
        try simp only [List.map_cons, List.map_nil, List.length_cons, List.length_nil, ylr_s, ylr_0, Nat.reduceAdd, Nat.reduceSub, List.cons_append, List.nil_append, List.set_cons_zero, List.set_cons_succ, Option.toList_none, Option.toList_some, Int32.reduceToInt, yu, ya, reduceIte, Nat.reduceEqDiff, Int.toNat_natCast, Int.reduceToNat]
        refine yi_ret_i rfl rfl (ypost.same h rfl rfl)
    · rw [if_pos (by omega)]
      refine ygo 99999 90 rfl rfl (by first | exact trivial | (simp only [true_and, yu, ya, reduceIte, Nat.reduceEqDiff, Int32.reduceToInt, Int.toNat_natCast, Int.reduceToNat]; omega) | decide | (simp; done)) ?_
      try simp only [List.map_cons, List.map_nil, List.length_cons, List.length_nil, ylr_s, ylr_0, Nat.reduceAdd, Nat.reduceSub, List.cons_append, List.nil_append, List.set_cons_zero, List.set_cons_succ, Option.toList_none, Option.toList_some, Int32.reduceToInt, yu, ya, reduceIte, Nat.reduceEqDiff, Int.toNat_natCast, Int.reduceToNat]
      refine yi_ret_i rfl rfl (ypost.same h rfl rfl)
  · refine ygo 99999 90 rfl rfl (by first | exact trivial | (simp only [true_and, yu, ya, reduceIte, Nat.reduceEqDiff, Int32.reduceToInt, Int.toNat_natCast, Int.reduceToNat]; omega) | decide | (simp; done)) ?_
    try simp only [List.map_cons, List.map_nil, List.length_cons, List.length_nil, ylr_s, ylr_0, Nat.reduceAdd, Nat.reduceSub, List.cons_append, List.nil_append, List.set_cons_zero, List.set_cons_succ, Option.toList_none, Option.toList_some, Int32.reduceToInt, yu, ya, reduceIte, Nat.reduceEqDiff, Int.toNat_natCast, Int.reduceToNat]
    refine yi_ret_i rfl rfl (ypost.same h (if_pos (by omega)) rfl)
