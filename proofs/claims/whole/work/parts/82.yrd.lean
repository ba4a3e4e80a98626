/-! ===== the reference reads ===== -/
/-- pack pk of the packs has the bytes bs -/
def pkd (Z : pZ) (pk : Nat) (bs : List Int32) : Prop := ∃ x : pP, Z.2.2.1[pk]? = some x ∧ x.2.2 = bs ∧ pk < 16 ∧ bs.length ≤ 700 ∧ ∀ b ∈ bs, blw b 256
def mRd (Z : pZ) (pk : Nat) (bs : List Int32) (s : pS) (Y : yS) : Prop := mR Z Y ∧ Y.1 23 = pk ∧ Y.1 24 = oZ s.2.1 ∧ 0 ≤ Y.1 22 ∧ Y.1 22 ≤ bs.length ∧ (s.2.1 = none → Y.1 22 = s.1) ∧ ∀ w, s.2.1 = some w → w ≤ bs.length
/-- only the two places have changed -/
def fkp (Y Y' : yS) : Prop := Y'.2 = Y.2 ∧ ∀ k, k ≠ 22 → k ≠ 24 → Y'.1 k = Y.1 k
theorem fkp.rf {Y : yS} : fkp Y Y := ⟨rfl, fun _ _ _ => rfl⟩
theorem fkp.tr {Y Y1 Y2 : yS} (h : fkp Y Y1) (g : fkp Y1 Y2) : fkp Y Y2 := ⟨g.1.trans h.1, fun k a b => (g.2 k a b).trans (h.2 k a b)⟩
theorem fkp.f22 {f : Nat → Int} {A : Nat → List Int32} {z : Int} : fkp (f, A) (yu f 22 z, A) := ⟨rfl, fun k a _ => if_neg a⟩
theorem fkp.f24 {f : Nat → Int} {A : Nat → List Int32} {z : Int} : fkp (f, A) (yu f 24 z, A) := ⟨rfl, fun k _ b => if_neg b⟩
set_option maxRecDepth 100000 in
set_option maxHeartbeats 2000000 in
theorem cm_here {G : xG} {d a pk i : Nat} {iz : Int} {b : Int32} {Z : pZ} {bs : List Int32} {f : Nat → Int} {A : Nat → List Int32} (hR : mR Z (f, A)) (h23 : f 23 = pk) (hp : pkd Z pk bs) (hiz : iz = i) (hb : bs[i]? = some b) : ym G d a mX9_here [.inr 0, .inl iz] (f, A) (fun w Y' => w = some (.inl b.toInt) ∧ Y' = (f, A)) := by
  obtain ⟨x, hx, hxb, hp16, hl, hbb⟩ := hp
  have hi := (List.getElem?_eq_some_iff.mp hb).1
  have hg : (A 20).getD (700 * pk + i) 0 = b := (hR.2.1.2 pk x hx).2 i b (by rw [hxb]; exact hb)
  have i1 : (700 * f 23 + iz).toNat = 700 * pk + i := by omega
  refine ym_at 2 rfl (by decide) (Nat.le_of_ble_eq_true rfl) tX9_here_ok ?_
  try simp only [List.map_cons, List.map_nil, List.length_cons, List.length_nil, ylr_s, ylr_0, Nat.reduceAdd, Nat.reduceSub, List.cons_append, List.nil_append, List.set_cons_zero, List.set_cons_succ, Option.toList_none, Option.toList_some, Int32.reduceToInt, yu, ya, reduceIte, Nat.reduceEqDiff, Int.toNat_natCast, Int.reduceToNat]
  refine ygo 99999 90 rfl rfl (by first | exact trivial | (simp only [true_and, eq_self, or_true, true_or, and_true, yu, ya, reduceIte, Nat.reduceEqDiff, Int32.reduceToInt, Int.toNat_natCast, Int.reduceToNat]; omega) | decide | (simp; done) | (simp; omega)) ?_
  try simp only [List.map_cons, List.map_nil, List.length_cons, List.length_nil, ylr_s, ylr_0, Nat.reduceAdd, Nat.reduceSub, List.cons_append, List.nil_append, List.set_cons_zero, List.set_cons_succ, Option.toList_none, Option.toList_some, Int32.reduceToInt, yu, ya, reduceIte, Nat.reduceEqDiff, Int.toNat_natCast, Int.reduceToNat]
  refine yi_ret_i rfl rfl ⟨by rw [i1, hg], rfl⟩
theorem nxt_cases {bs : List Int32} {lo hi : Int32} {s : pS} : (s.2.1.isSome = true ∧ nxt bs lo hi s = (lo, s)) ∨ (s.2.1 = none ∧ (bs.getD s.1 (-1) = -1 ∨ bs.getD s.1 (-1) < lo ∨ hi < bs.getD s.1 (-1)) ∧ nxt bs lo hi s = (lo, s.1, some s.1, s.2.2)) ∨ (s.2.1 = none ∧ ¬ (bs.getD s.1 (-1) = -1 ∨ bs.getD s.1 (-1) < lo ∨ hi < bs.getD s.1 (-1)) ∧ nxt bs lo hi s = (bs.getD s.1 (-1), s.1 + 1, s.2.1, s.2.2)) := by
  unfold nxt
  by_cases h1 : s.2.1.isSome = true
  · left; exact ⟨h1, by rw [if_pos h1]⟩
  · have hn : s.2.1 = none := isN (by simpa using h1)
    right
    rw [if_neg h1]
    by_cases h2 : bs.getD s.1 (-1) = -1 ∨ bs.getD s.1 (-1) < lo ∨ hi < bs.getD s.1 (-1)
    · left; exact ⟨hn, h2, by rw [if_pos h2]⟩
    · right; exact ⟨hn, h2, by rw [if_neg h2]⟩
/-- what want answers -/
def wv (r : Int32 × pS) : Int := if r.2.2.1.isSome then -1 else r.1.toInt
set_option maxRecDepth 100000 in
set_option maxHeartbeats 2000000 in
theorem cm_want {G : xG} {d a pk : Nat} {most : Int32} {mz : Int} {Z : pZ} {bs : List Int32} {s : pS} {f : Nat → Int} {A : Nat → List Int32} (h : mRd Z pk bs s (f, A)) (hp : pkd Z pk bs) (hm : mz = most.toInt) (hm0 : 0 ≤ mz) : ym G (d + 1) a mX9_want [.inr 0, .inl mz] (f, A) (fun w Y' => w = some (.inl (wv (nxt bs 0 most s))) ∧ mRd Z pk bs (nxt bs 0 most s).2 Y' ∧ fkp (f, A) Y') := by
  obtain ⟨hR, h23, h24, h22a, h22b, hat, hw⟩ := id h
  dsimp only at h23 h24 h22a h22b hat
  obtain ⟨x, hx, hxb, hp16, hl, hbb⟩ := id hp
  have h21 : (A 21).getD pk 0 = nI bs.length := by rw [← hxb]; exact (hR.2.1.2 pk x hx).1
  have hlen : ((A 21).getD pk 0).toInt = bs.length := by rw [h21, i_n (by omega)]
  have hpt : (f 23).toNat = pk := by omega
  have z0 : (0 : Int32).toInt = 0 := rfl
  have hmr := i_rng most
  rcases nxt_cases (bs := bs) (lo := 0) (hi := most) (s := s) with ⟨h1, h2⟩ | ⟨hn, hc, h2⟩ | ⟨hn, hc, h2⟩
  · rw [h2]
    obtain ⟨w, hww⟩ := Option.isSome_iff_exists.mp h1
    have hz : f 24 = w := by rw [h24, hww]; rfl
    have hwl := hw w hww
    have hv : wv ((0 : Int32), s) = -1 := by unfold wv; rw [if_pos h1]
    rw [hv]
    refine ym_at 2 rfl (by decide) (Nat.le_of_ble_eq_true rfl) tX9_want_ok ?_
    try simp only [List.map_cons, List.map_nil, List.length_cons, List.length_nil, ylr_s, ylr_0, Nat.reduceAdd, Nat.reduceSub, List.cons_append, List.nil_append, List.set_cons_zero, List.set_cons_succ, Option.toList_none, Option.toList_some, Int32.reduceToInt, yu, ya, reduceIte, Nat.reduceEqDiff, Int.toNat_natCast, Int.reduceToNat]
    refine ygo 99999 90 rfl rfl (by first | exact trivial | (simp only [true_and, eq_self, or_true, true_or, and_true, yu, ya, reduceIte, Nat.reduceEqDiff, Int32.reduceToInt, Int.toNat_natCast, Int.reduceToNat]; omega) | decide | (simp; done) | (simp; omega)) ?_
    try simp only [List.map_cons, List.map_nil, List.length_cons, List.length_nil, ylr_s, ylr_0, Nat.reduceAdd, Nat.reduceSub, List.cons_append, List.nil_append, List.set_cons_zero, List.set_cons_succ, Option.toList_none, Option.toList_some, Int32.reduceToInt, yu, ya, reduceIte, Nat.reduceEqDiff, Int.toNat_natCast, Int.reduceToNat]
    refine yi_iflt rfl (by first | exact yr_t _ | exact yr_b _ | (unfold yr; omega)) (fun c => ?_) (fun c => ?_)
    · omega
    · refine ygo 99999 90 rfl rfl (by first | exact trivial | (simp only [true_and, eq_self, or_true, true_or, and_true, yu, ya, reduceIte, Nat.reduceEqDiff, Int32.reduceToInt, Int.toNat_natCast, Int.reduceToNat]; omega) | decide | (simp; done) | (simp; omega)) ?_
      try simp only [List.map_cons, List.map_nil, List.length_cons, List.length_nil, ylr_s, ylr_0, Nat.reduceAdd, Nat.reduceSub, List.cons_append, List.nil_append, List.set_cons_zero, List.set_cons_succ, Option.toList_none, Option.toList_some, Int32.reduceToInt, yu, ya, reduceIte, Nat.reduceEqDiff, Int.toNat_natCast, Int.reduceToNat]
      refine yi_ret_i rfl rfl ⟨rfl, h, fkp.rf⟩
  · have hz : f 24 = -1 := by rw [h24, hn]; rfl
    have h22 := hat hn
    have hv : wv (nxt bs 0 most s) = -1 := by rw [h2]; rfl
    have hfin : mRd Z pk bs (nxt bs 0 most s).2 (yu f 24 (f 22), A) := by
      rw [h2]
      exact ⟨hR, h23, by simp only [yu, reduceIte]; exact h22, h22a, h22b, (fun hc => by cases hc), (fun w hw => by cases hw; omega)⟩
    rw [hv]
    refine ym_at 2 rfl (by decide) (Nat.le_of_ble_eq_true rfl) tX9_want_ok ?_
    try simp only [List.map_cons, List.map_nil, List.length_cons, List.length_nil, ylr_s, ylr_0, Nat.reduceAdd, Nat.reduceSub, List.cons_append, List.nil_append, List.set_cons_zero, List.set_cons_succ, Option.toList_none, Option.toList_some, Int32.reduceToInt, yu, ya, reduceIte, Nat.reduceEqDiff, Int.toNat_natCast, Int.reduceToNat]
    refine ygo 99999 90 rfl rfl (by first | exact trivial | (simp only [true_and, eq_self, or_true, true_or, and_true, yu, ya, reduceIte, Nat.reduceEqDiff, Int32.reduceToInt, Int.toNat_natCast, Int.reduceToNat]; omega) | decide | (simp; done) | (simp; omega)) ?_
    try simp only [List.map_cons, List.map_nil, List.length_cons, List.length_nil, ylr_s, ylr_0, Nat.reduceAdd, Nat.reduceSub, List.cons_append, List.nil_append, List.set_cons_zero, List.set_cons_succ, Option.toList_none, Option.toList_some, Int32.reduceToInt, yu, ya, reduceIte, Nat.reduceEqDiff, Int.toNat_natCast, Int.reduceToNat]
    refine yi_iflt rfl (by first | exact yr_t _ | exact yr_b _ | (unfold yr; omega)) (fun c => ?_) (fun c => ?_)
    · refine ygo 99999 90 rfl rfl (by (simp only [true_and, yu, ya, reduceIte, Nat.reduceEqDiff, Int32.reduceToInt, Int.toNat_natCast, Int.reduceToNat]; omega)) ?_
      try simp only [List.map_cons, List.map_nil, List.length_cons, List.length_nil, ylr_s, ylr_0, Nat.reduceAdd, Nat.reduceSub, List.cons_append, List.nil_append, List.set_cons_zero, List.set_cons_succ, Option.toList_none, Option.toList_some, Int32.reduceToInt, yu, ya, reduceIte, Nat.reduceEqDiff, Int.toNat_natCast, Int.reduceToNat]
      refine yi_icmpge rfl (by refine ⟨?_, ?_⟩ <;> first | exact yr_t _ | exact yr_b _ | (unfold yr; omega)) (fun c2 => ?_) (fun c2 => ?_)
      · refine ygo 99999 90 rfl rfl (by first | exact trivial | (simp only [true_and, eq_self, or_true, true_or, and_true, yu, ya, reduceIte, Nat.reduceEqDiff, Int32.reduceToInt, Int.toNat_natCast, Int.reduceToNat]; omega) | decide | (simp; done) | (simp; omega)) ?_
        try simp only [List.map_cons, List.map_nil, List.length_cons, List.length_nil, ylr_s, ylr_0, Nat.reduceAdd, Nat.reduceSub, List.cons_append, List.nil_append, List.set_cons_zero, List.set_cons_succ, Option.toList_none, Option.toList_some, Int32.reduceToInt, yu, ya, reduceIte, Nat.reduceEqDiff, Int.toNat_natCast, Int.reduceToNat]
        refine yi_ret_i rfl rfl ⟨rfl, hfin, fkp.f24⟩
      · rw [hpt, hlen] at c2
        obtain ⟨b, hb⟩ := lt_get (l := bs) (j := s.1) (by omega)
        have hbl := hbb b (List.mem_of_getElem? hb)
        rw [getD_s hb] at hc
        have hmb : most.toInt < b.toInt := by
          rcases hc with hc | hc | hc
          · rw [hc] at hbl
            have : (-1 : Int32).toInt = -1 := rfl
            omega
          · rw [i_lt] at hc; omega
          · rw [i_lt] at hc; exact hc
        refine ygo 99999 90 rfl rfl (by first | exact trivial | (simp only [true_and, eq_self, or_true, true_or, and_true, yu, ya, reduceIte, Nat.reduceEqDiff, Int32.reduceToInt, Int.toNat_natCast, Int.reduceToNat]; omega) | decide | (simp; done) | (simp; omega)) ?_
        try simp only [List.map_cons, List.map_nil, List.length_cons, List.length_nil, ylr_s, ylr_0, Nat.reduceAdd, Nat.reduceSub, List.cons_append, List.nil_append, List.set_cons_zero, List.set_cons_succ, Option.toList_none, Option.toList_some, Int32.reduceToInt, yu, ya, reduceIte, Nat.reduceEqDiff, Int.toNat_natCast, Int.reduceToNat]
        refine ycV rfl rfl rfl (cm_here (i := s.1) (b := b) hR h23 hp h22 hb) rfl kX9_here iX9_here rfl rfl rfl (Nat.le_of_ble_eq_true rfl) (fun v1 Y1 q1 => ?_)
        obtain ⟨rfl, rfl⟩ := q1
        refine ygo 99999 90 rfl rfl (by first | exact trivial | (simp only [true_and, eq_self, or_true, true_or, and_true, yu, ya, reduceIte, Nat.reduceEqDiff, Int32.reduceToInt, Int.toNat_natCast, Int.reduceToNat]; omega) | decide | (simp; done) | (simp; omega)) ?_
        try simp only [List.map_cons, List.map_nil, List.length_cons, List.length_nil, ylr_s, ylr_0, Nat.reduceAdd, Nat.reduceSub, List.cons_append, List.nil_append, List.set_cons_zero, List.set_cons_succ, Option.toList_none, Option.toList_some, Int32.reduceToInt, yu, ya, reduceIte, Nat.reduceEqDiff, Int.toNat_natCast, Int.reduceToNat]
        refine yi_icmple rfl (by refine ⟨?_, ?_⟩ <;> first | exact yr_t _ | exact yr_b _ | (unfold yr; omega)) (fun c3 => ?_) (fun c3 => ?_)
        · omega
        · refine ygo 99999 90 rfl rfl (by first | exact trivial | (simp only [true_and, eq_self, or_true, true_or, and_true, yu, ya, reduceIte, Nat.reduceEqDiff, Int32.reduceToInt, Int.toNat_natCast, Int.reduceToNat]; omega) | decide | (simp; done) | (simp; omega)) ?_
          try simp only [List.map_cons, List.map_nil, List.length_cons, List.length_nil, ylr_s, ylr_0, Nat.reduceAdd, Nat.reduceSub, List.cons_append, List.nil_append, List.set_cons_zero, List.set_cons_succ, Option.toList_none, Option.toList_some, Int32.reduceToInt, yu, ya, reduceIte, Nat.reduceEqDiff, Int.toNat_natCast, Int.reduceToNat]
          refine yi_ret_i rfl rfl ⟨rfl, hfin, fkp.f24⟩
    · omega
  · have hz : f 24 = -1 := by rw [h24, hn]; rfl
    have h22 := hat hn
    have hlt : s.1 < bs.length := by
      by_cases hq : s.1 < bs.length
      · exact hq
      · exfalso
        apply hc
        left
        rw [List.getD_eq_getElem?_getD, List.getElem?_eq_none (by omega)]
        rfl
    obtain ⟨b, hb⟩ := lt_get (l := bs) (j := s.1) hlt
    have hbl := hbb b (List.mem_of_getElem? hb)
    rw [getD_s hb] at hc h2
    have hmb : b.toInt ≤ most.toInt := by
      have : ¬ most < b := fun hq => hc (Or.inr (Or.inr hq))
      rw [i_lt] at this
      omega
    have hv : wv (nxt bs 0 most s) = b.toInt := by rw [h2]; unfold wv; rw [hn]; rfl
    have hfin : mRd Z pk bs (nxt bs 0 most s).2 (yu f 22 (f 22 + 1), A) := by
      rw [h2]
      exact ⟨hR, h23, h24, by simp only [yu, reduceIte]; omega, by simp only [yu, reduceIte]; omega, fun _ => by simp only [yu, reduceIte]; omega, hw⟩
    rw [hv]
    refine ym_at 2 rfl (by decide) (Nat.le_of_ble_eq_true rfl) tX9_want_ok ?_
    try simp only [List.map_cons, List.map_nil, List.length_cons, List.length_nil, ylr_s, ylr_0, Nat.reduceAdd, Nat.reduceSub, List.cons_append, List.nil_append, List.set_cons_zero, List.set_cons_succ, Option.toList_none, Option.toList_some, Int32.reduceToInt, yu, ya, reduceIte, Nat.reduceEqDiff, Int.toNat_natCast, Int.reduceToNat]
    refine ygo 99999 90 rfl rfl (by first | exact trivial | (simp only [true_and, eq_self, or_true, true_or, and_true, yu, ya, reduceIte, Nat.reduceEqDiff, Int32.reduceToInt, Int.toNat_natCast, Int.reduceToNat]; omega) | decide | (simp; done) | (simp; omega)) ?_
    try simp only [List.map_cons, List.map_nil, List.length_cons, List.length_nil, ylr_s, ylr_0, Nat.reduceAdd, Nat.reduceSub, List.cons_append, List.nil_append, List.set_cons_zero, List.set_cons_succ, Option.toList_none, Option.toList_some, Int32.reduceToInt, yu, ya, reduceIte, Nat.reduceEqDiff, Int.toNat_natCast, Int.reduceToNat]
    refine yi_iflt rfl (by first | exact yr_t _ | exact yr_b _ | (unfold yr; omega)) (fun c => ?_) (fun c => ?_)
    · refine ygo 99999 90 rfl rfl (by (simp only [true_and, yu, ya, reduceIte, Nat.reduceEqDiff, Int32.reduceToInt, Int.toNat_natCast, Int.reduceToNat]; omega)) ?_
      try simp only [List.map_cons, List.map_nil, List.length_cons, List.length_nil, ylr_s, ylr_0, Nat.reduceAdd, Nat.reduceSub, List.cons_append, List.nil_append, List.set_cons_zero, List.set_cons_succ, Option.toList_none, Option.toList_some, Int32.reduceToInt, yu, ya, reduceIte, Nat.reduceEqDiff, Int.toNat_natCast, Int.reduceToNat]
      refine yi_icmpge rfl (by refine ⟨?_, ?_⟩ <;> first | exact yr_t _ | exact yr_b _ | (unfold yr; omega)) (fun c2 => ?_) (fun c2 => ?_)
      · rw [hpt, hlen] at c2; omega
      · refine ygo 99999 90 rfl rfl (by first | exact trivial | (simp only [true_and, eq_self, or_true, true_or, and_true, yu, ya, reduceIte, Nat.reduceEqDiff, Int32.reduceToInt, Int.toNat_natCast, Int.reduceToNat]; omega) | decide | (simp; done) | (simp; omega)) ?_
        try simp only [List.map_cons, List.map_nil, List.length_cons, List.length_nil, ylr_s, ylr_0, Nat.reduceAdd, Nat.reduceSub, List.cons_append, List.nil_append, List.set_cons_zero, List.set_cons_succ, Option.toList_none, Option.toList_some, Int32.reduceToInt, yu, ya, reduceIte, Nat.reduceEqDiff, Int.toNat_natCast, Int.reduceToNat]
        refine ycV rfl rfl rfl (cm_here (i := s.1) (b := b) hR h23 hp h22 hb) rfl kX9_here iX9_here rfl rfl rfl (Nat.le_of_ble_eq_true rfl) (fun v1 Y1 q1 => ?_)
        obtain ⟨rfl, rfl⟩ := q1
        refine ygo 99999 90 rfl rfl (by first | exact trivial | (simp only [true_and, eq_self, or_true, true_or, and_true, yu, ya, reduceIte, Nat.reduceEqDiff, Int32.reduceToInt, Int.toNat_natCast, Int.reduceToNat]; omega) | decide | (simp; done) | (simp; omega)) ?_
        try simp only [List.map_cons, List.map_nil, List.length_cons, List.length_nil, ylr_s, ylr_0, Nat.reduceAdd, Nat.reduceSub, List.cons_append, List.nil_append, List.set_cons_zero, List.set_cons_succ, Option.toList_none, Option.toList_some, Int32.reduceToInt, yu, ya, reduceIte, Nat.reduceEqDiff, Int.toNat_natCast, Int.reduceToNat]
        refine yi_icmple rfl (by refine ⟨?_, ?_⟩ <;> first | exact yr_t _ | exact yr_b _ | (unfold yr; omega)) (fun c3 => ?_) (fun c3 => ?_)
        · refine ygo 99999 90 rfl rfl (by first | exact trivial | (simp only [true_and, eq_self, or_true, true_or, and_true, yu, ya, reduceIte, Nat.reduceEqDiff, Int32.reduceToInt, Int.toNat_natCast, Int.reduceToNat]; omega) | decide | (simp; done) | (simp; omega)) ?_
          try simp only [List.map_cons, List.map_nil, List.length_cons, List.length_nil, ylr_s, ylr_0, Nat.reduceAdd, Nat.reduceSub, List.cons_append, List.nil_append, List.set_cons_zero, List.set_cons_succ, Option.toList_none, Option.toList_some, Int32.reduceToInt, yu, ya, reduceIte, Nat.reduceEqDiff, Int.toNat_natCast, Int.reduceToNat]
          refine ycV rfl rfl rfl (cm_here (f := yu f 22 (f 22 + 1)) (i := s.1) (b := b) hfin.1 h23 hp (by omega) hb) rfl kX9_here iX9_here rfl rfl rfl (Nat.le_of_ble_eq_true rfl) (fun v2 Y2 q2 => ?_)
          obtain ⟨rfl, rfl⟩ := q2
          refine ygo 99999 90 rfl rfl (by first | exact trivial | (simp only [true_and, eq_self, or_true, true_or, and_true, yu, ya, reduceIte, Nat.reduceEqDiff, Int32.reduceToInt, Int.toNat_natCast, Int.reduceToNat]; omega) | decide | (simp; done) | (simp; omega)) ?_
          try simp only [List.map_cons, List.map_nil, List.length_cons, List.length_nil, ylr_s, ylr_0, Nat.reduceAdd, Nat.reduceSub, List.cons_append, List.nil_append, List.set_cons_zero, List.set_cons_succ, Option.toList_none, Option.toList_some, Int32.reduceToInt, yu, ya, reduceIte, Nat.reduceEqDiff, Int.toNat_natCast, Int.reduceToNat]
          refine yi_ret_i rfl rfl ⟨rfl, hfin, fkp.f22⟩
        · omega
    · omega
theorem wv_lt {bs : List Int32} {most : Int32} {s : pS} (hm : 0 ≤ most.toInt) : (wv (nxt bs 0 most s) < 0 ↔ (nxt bs 0 most s).2.2.1.isSome = true) ∧ yr (wv (nxt bs 0 most s)) := by
  have hr := nxt_rng (bs := bs) (lo := 0) (hi := most) (s := s) (by rw [i_le]; exact hm)
  rw [i_le] at hr
  have z0 : (0 : Int32).toInt = 0 := rfl
  unfold wv
  split
  next h => exact ⟨⟨fun _ => h, fun _ => by omega⟩, by unfold yr; omega⟩
  next h => exact ⟨⟨fun hc => by omega, fun hc => absurd hc h⟩, yr_t _⟩
set_option maxRecDepth 100000 in
set_option maxHeartbeats 2000000 in
theorem cm_exactly {G : xG} {d a pk : Nat} {v : Int32} {vz : Int} {Z : pZ} {bs : List Int32} {s : pS} {f : Nat → Int} {A : Nat → List Int32} (h : mRd Z pk bs s (f, A)) (hp : pkd Z pk bs) (hv : vz = v.toInt) (hv0 : blw v 256) : ym G (d + 2) a mX9_exactly [.inr 0, .inl vz] (f, A) (fun w Y' => w = none ∧ mRd Z pk bs (nxt bs v v s).2 Y' ∧ fkp (f, A) Y') := by
  have hvr := i_rng v
  obtain ⟨x, hx, hxb, hp16, hl, hbb⟩ := id hp
  have hw := cm_want (G := G) (d := d) (a := a) (most := 255) (mz := 255) h hp rfl (by omega)
  have hwl := wv_lt (bs := bs) (most := 255) (s := s) (by decide)
  refine ym_at 2 rfl (by decide) (Nat.le_of_ble_eq_true rfl) tX9_exactly_ok ?_
  try simp only [List.map_cons, List.map_nil, List.length_cons, List.length_nil, ylr_s, ylr_0, Nat.reduceAdd, Nat.reduceSub, List.cons_append, List.nil_append, List.set_cons_zero, List.set_cons_succ, Option.toList_none, Option.toList_some, Int32.reduceToInt, yu, ya, reduceIte, Nat.reduceEqDiff, Int.toNat_natCast, Int.reduceToNat]
  refine ygo 99999 90 rfl rfl (by first | exact trivial | (simp only [true_and, eq_self, or_true, true_or, and_true, yu, ya, reduceIte, Nat.reduceEqDiff, Int32.reduceToInt, Int.toNat_natCast, Int.reduceToNat]; omega) | decide | (simp; done) | (simp; omega)) ?_
  try simp only [List.map_cons, List.map_nil, List.length_cons, List.length_nil, ylr_s, ylr_0, Nat.reduceAdd, Nat.reduceSub, List.cons_append, List.nil_append, List.set_cons_zero, List.set_cons_succ, Option.toList_none, Option.toList_some, Int32.reduceToInt, yu, ya, reduceIte, Nat.reduceEqDiff, Int.toNat_natCast, Int.reduceToNat]
  refine ycV rfl rfl rfl hw rfl kX9_want iX9_want rfl rfl rfl (Nat.le_of_ble_eq_true rfl) (fun v1 Y1 q1 => ?_)
  obtain ⟨rfl, h1, k1⟩ := q1
  obtain ⟨f1, A1⟩ := Y1
  refine yi_iflt rfl hwl.2 (fun c => ?_) (fun c => ?_)
  · have c := hwl.1.mp c
    have hs : (nxt bs v v s).2 = (nxt bs 0 255 s).2 ∨ False := by
      left
      rcases nxt_cases (bs := bs) (lo := 0) (hi := 255) (s := s) with ⟨q1, q2⟩ | ⟨hn, hc, q2⟩ | ⟨hn, hc, q2⟩
      · unfold nxt; rw [if_pos q1, if_pos q1]
      · rw [q2]
        unfold nxt
        rw [if_neg (by rw [hn]; decide)]
        have hb1 : bs.getD s.1 (-1) = -1 := by
          cases hx : bs[s.1]? with
          | none => rw [List.getD_eq_getElem?_getD, hx]; rfl
          | some b =>
            have hbl := hbb b (List.mem_of_getElem? hx)
            rw [getD_s hx] at hc ⊢
            have z0 : (0 : Int32).toInt = 0 := rfl
            have z255 : (255 : Int32).toInt = 255 := rfl
            rw [i_lt, i_lt] at hc
            rcases hc with hc | hc | hc
            · exact hc
            · omega
            · omega
        rw [if_pos (Or.inl hb1)]
      · rw [q2, hn] at c; cases c
    rcases hs with hs | hs
    · rw [hs]
      refine ygo 99999 90 rfl rfl (by first | exact trivial | (simp only [true_and, eq_self, or_true, true_or, and_true, yu, ya, reduceIte, Nat.reduceEqDiff, Int32.reduceToInt, Int.toNat_natCast, Int.reduceToNat]; omega) | decide | (simp; done) | (simp; omega)) ?_
      try simp only [List.map_cons, List.map_nil, List.length_cons, List.length_nil, ylr_s, ylr_0, Nat.reduceAdd, Nat.reduceSub, List.cons_append, List.nil_append, List.set_cons_zero, List.set_cons_succ, Option.toList_none, Option.toList_some, Int32.reduceToInt, yu, ya, reduceIte, Nat.reduceEqDiff, Int.toNat_natCast, Int.reduceToNat]
      refine yi_ret_v rfl rfl ⟨rfl, h1, k1⟩
    · exact hs.elim
  · have hn1 : (nxt bs 0 255 s).2.2.1 = none := by
      have : ¬ (nxt bs 0 255 s).2.2.1.isSome = true := fun hc => c (hwl.1.mpr hc)
      exact isN (by simpa using this)
    have hfn := nxt_fine hn1
    obtain ⟨b, hb⟩ : ∃ b, bs[s.1]? = some b := by
      rcases nxt_cases (bs := bs) (lo := 0) (hi := 255) (s := s) with ⟨q1, q2⟩ | ⟨hn, hc, q2⟩ | ⟨hn, hc, q2⟩
      · rw [hfn.1] at q1; cases q1
      · rw [q2] at hn1; cases hn1
      · cases hx : bs[s.1]? with
        | some b => exact ⟨b, rfl⟩
        | none => exfalso; apply hc; left; rw [List.getD_eq_getElem?_getD, hx]; rfl
    have hbl := hbb b (List.mem_of_getElem? hb)
    have hi := (List.getElem?_eq_some_iff.mp hb).1
    have e22 : f1 22 = (s.1 : Int) + 1 := by
      have := h1.2.2.2.2.2.1 hn1
      dsimp only at this
      rw [this, hfn.2.2.2]
      rfl
    refine ygo 99999 90 rfl rfl (by first | exact trivial | (simp only [true_and, eq_self, or_true, true_or, and_true, yu, ya, reduceIte, Nat.reduceEqDiff, Int32.reduceToInt, Int.toNat_natCast, Int.reduceToNat]; omega) | decide | (simp; done) | (simp; omega)) ?_
    try simp only [List.map_cons, List.map_nil, List.length_cons, List.length_nil, ylr_s, ylr_0, Nat.reduceAdd, Nat.reduceSub, List.cons_append, List.nil_append, List.set_cons_zero, List.set_cons_succ, Option.toList_none, Option.toList_some, Int32.reduceToInt, yu, ya, reduceIte, Nat.reduceEqDiff, Int.toNat_natCast, Int.reduceToNat]
    refine ycV rfl rfl rfl (cm_here (i := s.1) (b := b) h1.1 h1.2.1 hp (by omega) hb) rfl kX9_here iX9_here rfl rfl rfl (Nat.le_of_ble_eq_true rfl) (fun v2 Y2 q2 => ?_)
    obtain ⟨rfl, rfl⟩ := q2
    have hbne : ¬ b = -1 := by
      intro hc
      rw [hc] at hbl
      have : (-1 : Int32).toInt = -1 := rfl
      omega
    refine ygo 99999 90 rfl rfl (by first | exact trivial | (simp only [true_and, eq_self, or_true, true_or, and_true, yu, ya, reduceIte, Nat.reduceEqDiff, Int32.reduceToInt, Int.toNat_natCast, Int.reduceToNat]; omega) | decide | (simp; done) | (simp; omega)) ?_
    try simp only [List.map_cons, List.map_nil, List.length_cons, List.length_nil, ylr_s, ylr_0, Nat.reduceAdd, Nat.reduceSub, List.cons_append, List.nil_append, List.set_cons_zero, List.set_cons_succ, Option.toList_none, Option.toList_some, Int32.reduceToInt, yu, ya, reduceIte, Nat.reduceEqDiff, Int.toNat_natCast, Int.reduceToNat]
    refine yi_icmpeq rfl (by refine ⟨?_, ?_⟩ <;> first | exact yr_t _ | exact yr_b _ | (unfold yr; omega)) (fun c2 => ?_) (fun c2 => ?_)
    · rw [hv, ti] at c2
      have hs : (nxt bs v v s).2 = (nxt bs 0 255 s).2 := by
        rcases nxt_cases (bs := bs) (lo := 0) (hi := 255) (s := s) with ⟨q1, q2⟩ | ⟨hn, hc, q2⟩ | ⟨hn, hc, q2⟩
        · rw [hfn.1] at q1; cases q1
        · rw [q2] at hn1; cases hn1
        · rw [q2]
          unfold nxt
          rw [if_neg (by rw [hn]; decide), getD_s hb, if_neg (by rw [c2, i_lt]; intro hq; rcases hq with hq | hq | hq; exact hbne (c2.trans hq); omega; omega)]
      rw [hs]
      refine ygo 99999 90 rfl rfl (by first | exact trivial | (simp only [true_and, eq_self, or_true, true_or, and_true, yu, ya, reduceIte, Nat.reduceEqDiff, Int32.reduceToInt, Int.toNat_natCast, Int.reduceToNat]; omega) | decide | (simp; done) | (simp; omega)) ?_
      try simp only [List.map_cons, List.map_nil, List.length_cons, List.length_nil, ylr_s, ylr_0, Nat.reduceAdd, Nat.reduceSub, List.cons_append, List.nil_append, List.set_cons_zero, List.set_cons_succ, Option.toList_none, Option.toList_some, Int32.reduceToInt, yu, ya, reduceIte, Nat.reduceEqDiff, Int.toNat_natCast, Int.reduceToNat]
      refine yi_ret_v rfl rfl ⟨rfl, h1, k1⟩
    · rw [hv, ti] at c2
      have hs : (nxt bs v v s).2 = (s.1, some s.1, s.2.2) := by
        unfold nxt
        rw [if_neg (by rw [hfn.1]; decide), getD_s hb, if_pos (by
          right
          rw [i_lt, i_lt]
          rw [i_eq] at c2
          omega)]
      rw [hs]
      refine ygo 99999 90 rfl rfl (by first | exact trivial | (simp only [true_and, eq_self, or_true, true_or, and_true, yu, ya, reduceIte, Nat.reduceEqDiff, Int32.reduceToInt, Int.toNat_natCast, Int.reduceToNat]; omega) | decide | (simp; done) | (simp; omega)) ?_
      try simp only [List.map_cons, List.map_nil, List.length_cons, List.length_nil, ylr_s, ylr_0, Nat.reduceAdd, Nat.reduceSub, List.cons_append, List.nil_append, List.set_cons_zero, List.set_cons_succ, Option.toList_none, Option.toList_some, Int32.reduceToInt, yu, ya, reduceIte, Nat.reduceEqDiff, Int.toNat_natCast, Int.reduceToNat]
      refine yi_ret_v rfl rfl ⟨rfl, ⟨h1.1, h1.2.1, by simp only [yu, reduceIte]; rw [e22]; simp [oZ], h1.2.2.2.1, h1.2.2.2.2.1, (fun hc => by cases hc), (fun w hw => by cases hw; omega)⟩, k1.tr fkp.f24⟩
