/-! ===== the reference's finding ===== -/
def mAsk (st : fS) (Y : yS) : Prop := Y.2 52 = st.1 ∧ st.1.length = 12 ∧ Y.1 56 = st.2.length ∧ ∀ (i : Nat) (x : Int32), st.2[i]? = some x → (Y.2 55).getD i 0 = x
def stk (D : List (Nat × Nat)) (Y : yS) : Prop := ∀ (i : Nat) (q : Nat × Nat), D[i]? = some q → (Y.2 53).getD i 0 = nI q.1 ∧ (Y.2 54).getD i 0 = nI q.2
def IV (Z : pZ) (st : fS) (D : List (Nat × Nat)) (Y : yS) : Prop := mR Z Y ∧ mAsk st Y ∧ stk D Y
def ones (l : List Int32) : Nat := l.countP (fun x => !(x == 0))
theorem ones_le {l : List Int32} : ones l ≤ l.length := List.countP_le_length
theorem ones_set : ∀ (l : List Int32) (i : Nat), i < l.length → l.getD i 0 = 0 → ones (l.set i 1) = ones l + 1
  | [], i, h, _ => by simp at h
  | a :: l, 0, _, h => by
    have e : a = 0 := by simpa using h
    subst e
    unfold ones
    simp
  | a :: l, i + 1, h, h0 => by
    have := ones_set l i (by simpa using h) (by simpa using h0)
    unfold ones at this ⊢
    simp only [List.set_cons_succ, List.countP_cons, this]
    omega
theorem tp_len {tr : List Int32} {e : Int32} : (tpush tr e).length ≤ tr.length + 1 := by
  unfold tpush
  split
  · simp
  · omega
/-- the path grows by no more than who was asked -/
def slk (st st' : fS) : Prop := st'.2.length + ones st.1 ≤ st.2.length + ones st'.1 ∧ st'.1.length = st.1.length
theorem slk_LF {g : Int32 → fS → Int32 × fS} (hg : ∀ m st, slk st (g m st).2) : ∀ (ms : List Int32) (st : fS), slk st (askLF g ms st).2
  | [], st => ⟨Nat.le_refl _, rfl⟩
  | m :: ms, st => by
    unfold askLF
    have h1 := hg m st
    split
    · have h2 := slk_LF hg ms (g m st).2
      unfold slk at h1 h2 ⊢
      omega
    · exact h1
theorem slk_S {L : sL} {key : Int32} (hl : L.length ≤ 12) : ∀ (n : Nat) (d0 : Bool) (e : Int32) (st : fS), st.1.length = 12 → slk st (askS L key n d0 e st).2
  | 0, d0, e, st, _ => ⟨Nat.le_refl _, rfl⟩
  | n + 1, d0, e, st, h12 => by
    unfold askS
    split
    · exact ⟨Nat.le_refl _, rfl⟩
    next x hx =>
      obtain ⟨j, rfl, hj, hj12⟩ := sget_s hx hl
      have hjj : (nI j).toInt.toNat = j := by rw [i_n (by omega)]; rfl
      rw [hjj]
      split
      · exact ⟨Nat.le_refl _, rfl⟩
      next hz =>
        have hz : st.1.getD j 0 = 0 := Classical.not_not.mp hz
        split
        · exact ⟨Nat.le_refl _, rfl⟩
        · have hs := ones_set st.1 j (by omega) hz
          have key2 : ∀ (ms : List Int32) (st2 : fS), st2.1.length = 12 → slk st2 (askLF (askS L key n false) ms st2).2 := by
            intro ms
            induction ms with
            | nil => intro st2 _; exact ⟨Nat.le_refl _, rfl⟩
            | cons m ms ih =>
              intro st2 h2
              unfold askLF
              have h1 := slk_S (key := key) hl n false m st2 h2
              split
              · have h3 := ih _ (by rw [h1.2]; exact h2)
                unfold slk at h1 h3 ⊢
                omega
              · exact h1
          split
          · have hk := key2 x.2.2.2.1 (st.1.set j 1, st.2) (by simpa using h12)
            dsimp only at hk ⊢
            generalize askLF (askS L key n false) x.2.2.2.1 (st.1.set j 1, st.2) = r at hk ⊢
            have ht := tp_len (tr := r.2.2) (e := nI j)
            unfold slk at hk ⊢
            simp only [List.length_set] at hk ⊢
            split
            · split <;> (dsimp only; omega)
            · omega
          · split
            · have ht := tp_len (tr := st.2) (e := nI j)
              refine ⟨?_, by simp⟩
              show (tpush st.2 (nI j)).length + ones st.1 ≤ st.2.length + ones (st.1.set j 1)
              omega
            · have hk := key2 x.2.2.2.1 (st.1.set j 1, tpush st.2 (nI j)) (by simpa using h12)
              have ht := tp_len (tr := st.2) (e := nI j)
              unfold slk at hk ⊢
              simp only [List.length_set] at hk ⊢
              omega
set_option maxRecDepth 100000 in
set_option maxHeartbeats 2000000 in
theorem cm_looks {G : xG} {d a j : Nat} {key : Int32} {x : Nat × Nat × eV} {Z : pZ} {st : fS} {D : List (Nat × Nat)} {f : Nat → Int} {A : Nat → List Int32} (h : IV Z st D (f, A)) (hk : okS Z.2.2.2.2.2.1) (hj : Z.2.2.2.2.2.1[j]? = some x) (hl : st.2.length < 12) : ym G (d + 1) a mX9_looks [.inr 0, .inl j, .inl key.toInt] (f, A) (fun w Y' => w = some (.inl (bInt (hasR x.2.2 key))) ∧ IV Z (st.1, tpush st.2 (nI j)) D Y') := by
  obtain ⟨hR, ⟨a1, a2, a3, a4⟩, hD⟩ := h
  dsimp only at a1 a3
  refine ym.len (fun hlen => ?_)
  have l55 : (A 55).length = 12 := hlen 55 _ rfl
  have hl12 := hk.1
  have hjl := (List.getElem?_eq_some_iff.mp hj).1
  have hV := hk.2 j x hj
  have e : (f 56).toNat = st.2.length := by omega
  have htp : tpush st.2 (nI j) = st.2 ++ [nI j] := if_pos hl
  rw [htp]
  unfold hasR
  have post : IV Z (st.1, st.2 ++ [nI j]) D (yu f 56 (f 56 + 1), ya A 55 ((A 55).set (f 56).toNat (Int32.ofInt j))) := by
    refine ⟨hR, ⟨a1, a2, by simp [yu, a3], fun i y hy => ?_⟩, hD⟩
    simp only [ya, reduceIte, e]
    rcases snoc_get (show (st.2 ++ [nI j])[i]? = some y from hy) with ⟨hi, hy'⟩ | ⟨rfl, rfl⟩
    · rw [gset_ne (by omega)]; exact a4 i y hy'
    · rw [gset_eq (by omega)]; exact iofn j
  have hME := post.1.2.2.2.2.1.2 j x hj
  refine ym_at 3 rfl (by decide) (Nat.le_of_ble_eq_true rfl) tX9_looks_ok ?_
  try simp only [List.map_cons, List.map_nil, List.length_cons, List.length_nil, ylr_s, ylr_0, Nat.reduceAdd, Nat.reduceSub, List.cons_append, List.nil_append, List.set_cons_zero, List.set_cons_succ, Option.toList_none, Option.toList_some, Int32.reduceToInt, yu, ya, reduceIte, Nat.reduceEqDiff, Int.toNat_natCast, Int.reduceToNat]
  refine ygo 99999 90 rfl rfl (by first | exact trivial | (simp only [true_and, eq_self, or_true, true_or, and_true, yu, ya, reduceIte, Nat.reduceEqDiff, Int32.reduceToInt, Int.toNat_natCast, Int.reduceToNat]; omega) | decide | (simp; done) | (simp; omega)) ?_
  try simp only [List.map_cons, List.map_nil, List.length_cons, List.length_nil, ylr_s, ylr_0, Nat.reduceAdd, Nat.reduceSub, List.cons_append, List.nil_append, List.set_cons_zero, List.set_cons_succ, Option.toList_none, Option.toList_some, Int32.reduceToInt, yu, ya, reduceIte, Nat.reduceEqDiff, Int.toNat_natCast, Int.reduceToNat]
  refine ycV rfl rfl rfl (cm_rowOf (key := key) hME (by omega) hV.1 hV.2.1) rfl kX9_rowOf iX9_rowOf rfl rfl rfl (Nat.le_of_ble_eq_true rfl) (fun v1 Y1 q1 => ?_)
  obtain ⟨rfl, rfl⟩ := q1
  cases hf : x.2.2.1.2.2.2.findIdx? (fun r => r.1 == key) with
  | none =>
    have hz : oZ none = -1 := rfl
    rw [hz]
    refine ygo 99999 90 rfl rfl (by first | exact trivial | (simp only [true_and, eq_self, or_true, true_or, and_true, yu, ya, reduceIte, Nat.reduceEqDiff, Int32.reduceToInt, Int.toNat_natCast, Int.reduceToNat]; omega) | decide | (simp; done) | (simp; omega)) ?_
    try simp only [List.map_cons, List.map_nil, List.length_cons, List.length_nil, ylr_s, ylr_0, Nat.reduceAdd, Nat.reduceSub, List.cons_append, List.nil_append, List.set_cons_zero, List.set_cons_succ, Option.toList_none, Option.toList_some, Int32.reduceToInt, yu, ya, reduceIte, Nat.reduceEqDiff, Int.toNat_natCast, Int.reduceToNat]
    refine yi_iflt rfl (by first | exact yr_t _ | exact yr_b _ | (unfold yr; omega)) (fun c => ?_) (fun c => ?_)
    · refine ygo 99999 90 rfl rfl (by first | exact trivial | (simp only [true_and, eq_self, or_true, true_or, and_true, yu, ya, reduceIte, Nat.reduceEqDiff, Int32.reduceToInt, Int.toNat_natCast, Int.reduceToNat]; omega) | decide | (simp; done) | (simp; omega)) ?_
      try simp only [List.map_cons, List.map_nil, List.length_cons, List.length_nil, ylr_s, ylr_0, Nat.reduceAdd, Nat.reduceSub, List.cons_append, List.nil_append, List.set_cons_zero, List.set_cons_succ, Option.toList_none, Option.toList_some, Int32.reduceToInt, yu, ya, reduceIte, Nat.reduceEqDiff, Int.toNat_natCast, Int.reduceToNat]
      refine yi_ret_z rfl rfl (by omega) ⟨rfl, post⟩
    · omega
  | some i =>
    have hz : oZ (some i) = i := rfl
    have hil := fi_lt hf
    have h8 : x.2.2.1.2.2.2.length ≤ 8 := hV.1.2.2.2.2.2.2.2.1
    rw [hz]
    refine ygo 99999 90 rfl rfl (by first | exact trivial | (simp only [true_and, eq_self, or_true, true_or, and_true, yu, ya, reduceIte, Nat.reduceEqDiff, Int32.reduceToInt, Int.toNat_natCast, Int.reduceToNat]; omega) | decide | (simp; done) | (simp; omega)) ?_
    try simp only [List.map_cons, List.map_nil, List.length_cons, List.length_nil, ylr_s, ylr_0, Nat.reduceAdd, Nat.reduceSub, List.cons_append, List.nil_append, List.set_cons_zero, List.set_cons_succ, Option.toList_none, Option.toList_some, Int32.reduceToInt, yu, ya, reduceIte, Nat.reduceEqDiff, Int.toNat_natCast, Int.reduceToNat]
    refine yi_iflt rfl (by first | exact yr_t _ | exact yr_b _ | (unfold yr; omega)) (fun c => ?_) (fun c => ?_)
    · omega
    · refine ygo 99999 90 rfl rfl (by first | exact trivial | (simp only [true_and, eq_self, or_true, true_or, and_true, yu, ya, reduceIte, Nat.reduceEqDiff, Int32.reduceToInt, Int.toNat_natCast, Int.reduceToNat]; omega) | decide | (simp; done) | (simp; omega)) ?_
      try simp only [List.map_cons, List.map_nil, List.length_cons, List.length_nil, ylr_s, ylr_0, Nat.reduceAdd, Nat.reduceSub, List.cons_append, List.nil_append, List.set_cons_zero, List.set_cons_succ, Option.toList_none, Option.toList_some, Int32.reduceToInt, yu, ya, reduceIte, Nat.reduceEqDiff, Int.toNat_natCast, Int.reduceToNat]
      refine yi_ret_z rfl rfl (by omega) ⟨rfl, post⟩
/-- what a frame answers behind its needs -/
def fini (x : Nat × Nat × eV) (j : Nat) (key : Int32) (r : Int32 × fS) : Int32 × fS := if r.1 < 0 ∧ x.2.2.1.1.2.2.1 = 1 then (if hasR x.2.2 key then (nI j, (r.2.1, tpush r.2.2 (nI j))) else (-1, (r.2.1, tpush r.2.2 (nI j)))) else r
theorem stk_push {D : List (Nat × Nat)} {f : Nat → Int} {A : Nat → List Int32} {j : Nat} (h : stk D (f, A)) (hl : yok A) (hD : D.length < 13) : ∀ f', stk (D ++ [(j, 0)]) (f', ya (ya A 53 ((A 53).set D.length (nI j))) 54 ((A 54).set D.length 0)) := by
  intro f' i q hq
  have l53 : (A 53).length = 13 := hl 53 _ rfl
  have l54 : (A 54).length = 13 := hl 54 _ rfl
  simp only [ya, reduceIte, Nat.reduceEqDiff]
  rcases snoc_get hq with ⟨hi, hq'⟩ | ⟨rfl, rfl⟩
  · rw [gset_ne (by omega), gset_ne (by omega)]; exact h i q hq'
  · rw [gset_eq (by omega), gset_eq (by omega)]; exact ⟨rfl, rfl⟩
theorem IV.nil {Z : pZ} {st : fS} {D : List (Nat × Nat)} {Y : yS} (h : IV Z st D Y) : IV Z st [] Y := ⟨h.1, h.2.1, fun i q hq => by simp at hq⟩
theorem IV.pop {Z : pZ} {st : fS} {D : List (Nat × Nat)} {q : Nat × Nat} {Y : yS} (h : IV Z st (D ++ [q]) Y) : IV Z st D Y := ⟨h.1, h.2.1, fun i p hp => h.2.2 i p (by rw [List.getElem?_append_left (List.getElem?_eq_some_iff.mp hp).1]; exact hp)⟩
theorem IV.top {Z : pZ} {st : fS} {D : List (Nat × Nat)} {q : Nat × Nat} {Y : yS} (h : IV Z st (D ++ [q]) Y) : (Y.2 53).getD D.length 0 = nI q.1 ∧ (Y.2 54).getD D.length 0 = nI q.2 := h.2.2 D.length q (by rw [List.getElem?_append_right (Nat.le_refl _), Nat.sub_self]; rfl)
set_option maxRecDepth 100000 in
set_option maxHeartbeats 2000000 in
theorem l_askHead {G : xG} {d a j k : Nat} {key : Int32} {fz : Int} {Z : pZ} {st : fS} {D : List (Nat × Nat)} {x4 x5 x6 : Option yv} {f : Nat → Int} {A : Nat → List Int32} {Q : Option yv → yS → Prop} (h : IV Z st (D ++ [(j, k)]) (f, A)) (hj12 : j < 12) (hk4 : k ≤ 4) (hD : D.length ≤ 12) (kk : ∀ A1, IV Z st (D ++ [(j, k + 1)]) (f, A1) → yw G (d + 3) a mX9_ask 107 [some (.inr 0), some (.inl fz), some (.inl key.toInt), some (.inl ((D.length : Int) + 1)), some (.inl j), some (.inl k), x6] [.inl k] (f, A1) Q) :
    yw G (d + 3) a mX9_ask 69 [some (.inr 0), some (.inl fz), some (.inl key.toInt), some (.inl ((D.length : Int) + 1)), x4, x5, x6] [] (f, A) Q := by
  refine yw.len (fun hlen => ?_)
  have l53 : (A 53).length = 13 := hlen 53 _ rfl
  have l54 : (A 54).length = 13 := hlen 54 _ rfl
  have ht := h.top
  dsimp only at ht
  have hidx : ((D.length : Int) + 1 - 1).toNat = D.length := by omega
  have hq : ((A 53).getD D.length 0).toInt = j := by rw [ht.1, i_n (by omega)]
  have hq4 : ((A 54).getD D.length 0).toInt = k := by rw [ht.2, i_n (by omega)]
  refine ygo 99999 90 rfl rfl (by first | exact trivial | (simp only [true_and, eq_self, or_true, true_or, and_true, yu, ya, reduceIte, Nat.reduceEqDiff, Int32.reduceToInt, Int.toNat_natCast, Int.reduceToNat]; omega) | decide | (simp; done) | (simp; omega)) ?_
  try simp only [List.map_cons, List.map_nil, List.length_cons, List.length_nil, ylr_s, ylr_0, Nat.reduceAdd, Nat.reduceSub, List.cons_append, List.nil_append, List.set_cons_zero, List.set_cons_succ, Option.toList_none, Option.toList_some, Int32.reduceToInt, yu, ya, reduceIte, Nat.reduceEqDiff, Int.toNat_natCast, Int.reduceToNat]
  refine yi_ifle rfl (by first | exact yr_t _ | exact yr_b _ | (unfold yr; omega)) (fun c => ?_) (fun c => ?_)
  · omega
  refine ygo 107 90 rfl rfl (by first | exact trivial | (simp only [true_and, eq_self, or_true, true_or, and_true, yu, ya, reduceIte, Nat.reduceEqDiff, Int32.reduceToInt, Int.toNat_natCast, Int.reduceToNat]; omega) | decide | (simp; done) | (simp; omega)) ?_
  try simp only [List.map_cons, List.map_nil, List.length_cons, List.length_nil, ylr_s, ylr_0, Nat.reduceAdd, Nat.reduceSub, List.cons_append, List.nil_append, List.set_cons_zero, List.set_cons_succ, Option.toList_none, Option.toList_some, Int32.reduceToInt, yu, ya, reduceIte, Nat.reduceEqDiff, Int.toNat_natCast, Int.reduceToNat]
  have i2 : Int32.ofInt ((k : Int) + 1) = nI (k + 1) := iofn (k + 1)
  rw [hidx, hq, hq4, i2]
  refine kk _ ⟨h.1, h.2.1, fun i q hqq => ?_⟩
  simp only [ya, reduceIte, Nat.reduceEqDiff]
  rcases snoc_get hqq with ⟨hi, hq'⟩ | ⟨rfl, rfl⟩
  · rw [gset_ne (by omega)]
    exact h.2.2 i q (by rw [List.getElem?_append_left hi]; exact hq')
  · rw [gset_eq (by omega)]
    exact ⟨ht.1, rfl⟩
set_option maxRecDepth 100000 in
set_option maxHeartbeats 2000000 in
theorem l_askPop {G : xG} {d a j k : Nat} {key : Int32} {fz : Int} {x : Nat × Nat × eV} {Z : pZ} {st : fS} {D : List (Nat × Nat)} {x4 x5 x6 : Option yv} {f : Nat → Int} {A : Nat → List Int32} {Q : Option yv → yS → Prop} (hk : okS Z.2.2.2.2.2.1) (hj : Z.2.2.2.2.2.1[j]? = some x) (hkk : k = x.2.2.2.1.length) (hD : D.length + j ≤ 12) (h : IV Z st (D ++ [(j, k)]) (f, A)) (hs1 : x.2.2.1.1.2.2.1 = 1 → st.2.length + 1 ≤ ones st.1)
    (hret : ∀ (f' : Nat → Int) (A' : Nat → List Int32), 0 ≤ (fini x j key (-1, st)).1 → IV Z (fini x j key (-1, st)).2 [] (f', A') → Q (some (.inl (fini x j key (-1, st)).1.toInt)) (f', A'))
    (hcont : (fini x j key (-1, st)).1 < 0 → ∀ (x4 x5 x6 : Option yv) (f' : Nat → Int) (A' : Nat → List Int32), IV Z (fini x j key (-1, st)).2 D (f', A') → yw G (d + 3) a mX9_ask 69 [some (.inr 0), some (.inl fz), some (.inl key.toInt), some (.inl D.length), x4, x5, x6] [] (f', A') Q) :
    yw G (d + 3) a mX9_ask 69 [some (.inr 0), some (.inl fz), some (.inl key.toInt), some (.inl ((D.length : Int) + 1)), x4, x5, x6] [] (f, A) Q := by
  have hl12 := hk.1
  have hjl := (List.getElem?_eq_some_iff.mp hj).1
  have hV := hk.2 j x hj
  have hv4 : x.2.2.2.1.length ≤ 4 := by rw [hV.2.2.1]; exact hV.1.2.2.2.1
  have h12 := h.2.1.2.1
  have hone := ones_le (l := st.1)
  have z1 : (1 : Int32).toInt = 1 := rfl
  have hneg : (-1 : Int32) < 0 := by decide
  refine l_askHead h (by omega) (by omega) (by omega) (fun A1 h1 => ?_)
  have hM := h1.1.2.2.2.2.1.2 j x hj
  have m3 : (A1 38).getD j 0 = x.2.2.1.1.2.2.1 := hM.2.2.1
  have m5 : (A1 40).getD j 0 = nI x.2.2.2.1.length := hM.2.2.2.2.1
  have h40 : ((A1 40).getD j 0).toInt = x.2.2.2.1.length := by rw [m5, i_n (by omega)]
  have hn1 : (D.length : Int) + 1 + -1 = D.length := by omega
  refine ygo 99999 90 rfl rfl (by first | exact trivial | (simp only [true_and, eq_self, or_true, true_or, and_true, yu, ya, reduceIte, Nat.reduceEqDiff, Int32.reduceToInt, Int.toNat_natCast, Int.reduceToNat]; omega) | decide | (simp; done) | (simp; omega)) ?_
  try simp only [List.map_cons, List.map_nil, List.length_cons, List.length_nil, ylr_s, ylr_0, Nat.reduceAdd, Nat.reduceSub, List.cons_append, List.nil_append, List.set_cons_zero, List.set_cons_succ, Option.toList_none, Option.toList_some, Int32.reduceToInt, yu, ya, reduceIte, Nat.reduceEqDiff, Int.toNat_natCast, Int.reduceToNat]
  refine yi_icmplt rfl (by refine ⟨?_, ?_⟩ <;> first | exact yr_t _ | exact yr_b _ | (unfold yr; omega)) (fun c2 => ?_) (fun c2 => ?_)
  · rw [h40] at c2; omega
  refine ygo 99999 90 rfl rfl (by first | exact trivial | (simp only [true_and, eq_self, or_true, true_or, and_true, yu, ya, reduceIte, Nat.reduceEqDiff, Int32.reduceToInt, Int.toNat_natCast, Int.reduceToNat]; omega) | decide | (simp; done) | (simp; omega)) ?_
  try simp only [List.map_cons, List.map_nil, List.length_cons, List.length_nil, ylr_s, ylr_0, Nat.reduceAdd, Nat.reduceSub, List.cons_append, List.nil_append, List.set_cons_zero, List.set_cons_succ, Option.toList_none, Option.toList_some, Int32.reduceToInt, yu, ya, reduceIte, Nat.reduceEqDiff, Int.toNat_natCast, Int.reduceToNat]
  refine yi_icmpne rfl (by refine ⟨?_, ?_⟩ <;> first | exact yr_t _ | exact yr_b _ | (unfold yr; omega)) (fun c3 => ?_) (fun c3 => ?_)
  · rw [m3, ← z1, ti] at c3
    have hfi : fini x j key (-1, st) = (-1, st) := if_neg (fun hc => c3 hc.2)
    rw [hfi] at hcont
    refine ygo 69 90 rfl rfl (by first | exact trivial | (simp only [true_and, eq_self, or_true, true_or, and_true, yu, ya, reduceIte, Nat.reduceEqDiff, Int32.reduceToInt, Int.toNat_natCast, Int.reduceToNat]; omega) | decide | (simp; done) | (simp; omega)) ?_
    try simp only [List.map_cons, List.map_nil, List.length_cons, List.length_nil, ylr_s, ylr_0, Nat.reduceAdd, Nat.reduceSub, List.cons_append, List.nil_append, List.set_cons_zero, List.set_cons_succ, Option.toList_none, Option.toList_some, Int32.reduceToInt, yu, ya, reduceIte, Nat.reduceEqDiff, Int.toNat_natCast, Int.reduceToNat]
    rw [hn1]
    exact hcont hneg _ _ _ f A1 h1.pop
  · rw [m3, ← z1, ti] at c3
    have hfi : fini x j key (-1, st) = if hasR x.2.2 key then (nI j, (st.1, tpush st.2 (nI j))) else (-1, (st.1, tpush st.2 (nI j))) := if_pos ⟨hneg, c3⟩
    rw [hfi] at hcont hret
    refine ygo 99999 90 rfl rfl (by first | exact trivial | (simp only [true_and, eq_self, or_true, true_or, and_true, yu, ya, reduceIte, Nat.reduceEqDiff, Int32.reduceToInt, Int.toNat_natCast, Int.reduceToNat]; omega) | decide | (simp; done) | (simp; omega)) ?_
    try simp only [List.map_cons, List.map_nil, List.length_cons, List.length_nil, ylr_s, ylr_0, Nat.reduceAdd, Nat.reduceSub, List.cons_append, List.nil_append, List.set_cons_zero, List.set_cons_succ, Option.toList_none, Option.toList_some, Int32.reduceToInt, yu, ya, reduceIte, Nat.reduceEqDiff, Int.toNat_natCast, Int.reduceToNat]
    refine ycV rfl rfl rfl (cm_looks (key := key) h1 hk hj (by have := hs1 c3; omega)) rfl kX9_looks iX9_looks rfl rfl rfl (Nat.le_of_ble_eq_true rfl) (fun v1 Y1 q1 => ?_)
    obtain ⟨rfl, h2⟩ := q1
    obtain ⟨f2, A2⟩ := Y1
    refine ygo 99999 90 rfl rfl (by first | exact trivial | (simp only [true_and, eq_self, or_true, true_or, and_true, yu, ya, reduceIte, Nat.reduceEqDiff, Int32.reduceToInt, Int.toNat_natCast, Int.reduceToNat]; omega) | decide | (simp; done) | (simp; omega)) ?_
    try simp only [List.map_cons, List.map_nil, List.length_cons, List.length_nil, ylr_s, ylr_0, Nat.reduceAdd, Nat.reduceSub, List.cons_append, List.nil_append, List.set_cons_zero, List.set_cons_succ, Option.toList_none, Option.toList_some, Int32.reduceToInt, yu, ya, reduceIte, Nat.reduceEqDiff, Int.toNat_natCast, Int.reduceToNat]
    refine yi_ifeq rfl (by first | exact yr_t _ | exact yr_b _ | (unfold yr; omega)) (fun c4 => ?_) (fun c4 => ?_)
    · rw [bInt_z] at c4
      rw [c4] at hcont
      refine ygo 69 90 rfl rfl (by first | exact trivial | (simp only [true_and, eq_self, or_true, true_or, and_true, yu, ya, reduceIte, Nat.reduceEqDiff, Int32.reduceToInt, Int.toNat_natCast, Int.reduceToNat]; omega) | decide | (simp; done) | (simp; omega)) ?_
      try simp only [List.map_cons, List.map_nil, List.length_cons, List.length_nil, ylr_s, ylr_0, Nat.reduceAdd, Nat.reduceSub, List.cons_append, List.nil_append, List.set_cons_zero, List.set_cons_succ, Option.toList_none, Option.toList_some, Int32.reduceToInt, yu, ya, reduceIte, Nat.reduceEqDiff, Int.toNat_natCast, Int.reduceToNat]
      rw [hn1]
      exact hcont hneg _ _ _ f2 A2 h2.pop
    · rw [bInt_z, Bool.not_eq_false] at c4
      rw [c4] at hret
      have hjz : (nI j).toInt = j := i_n (by omega)
      have := hret f2 A2 (by rw [if_pos rfl, i_le, hjz]; have : (0 : Int32).toInt = 0 := rfl; omega) (by rw [if_pos rfl]; exact h2.nil)
      rw [if_pos rfl, hjz] at this
      refine ygo 99999 90 rfl rfl (by first | exact trivial | (simp only [true_and, eq_self, or_true, true_or, and_true, yu, ya, reduceIte, Nat.reduceEqDiff, Int32.reduceToInt, Int.toNat_natCast, Int.reduceToNat]; omega) | decide | (simp; done) | (simp; omega)) ?_
      try simp only [List.map_cons, List.map_nil, List.length_cons, List.length_nil, ylr_s, ylr_0, Nat.reduceAdd, Nat.reduceSub, List.cons_append, List.nil_append, List.set_cons_zero, List.set_cons_succ, Option.toList_none, Option.toList_some, Int32.reduceToInt, yu, ya, reduceIte, Nat.reduceEqDiff, Int.toNat_natCast, Int.reduceToNat]
      refine yi_ret_i rfl rfl this
set_option maxRecDepth 100000 in
set_option maxHeartbeats 2000000 in
theorem l_ask {G : xG} {d a : Nat} {key : Int32} {fz : Int} {Z : pZ} (hk : okS Z.2.2.2.2.2.1) {Q : Option yv → yS → Prop} : ∀ (n j : Nat) (x : Nat × Nat × eV), Z.2.2.2.2.2.1[j]? = some x → j ≤ n → ∀ (m k : Nat) (st : fS) (D : List (Nat × Nat)) (x4 x5 x6 : Option yv) (f : Nat → Int) (A : Nat → List Int32), k + m = x.2.2.2.1.length → D.length + j ≤ 12 → IV Z st (D ++ [(j, k)]) (f, A) → (x.2.2.1.1.2.2.1 = 1 → st.2.length + 1 ≤ ones st.1) → st.2.length ≤ ones st.1 →
    (∀ (f' : Nat → Int) (A' : Nat → List Int32), 0 ≤ (fini x j key (askLF (askS Z.2.2.2.2.2.1 key n false) (x.2.2.2.1.drop k) st)).1 → IV Z (fini x j key (askLF (askS Z.2.2.2.2.2.1 key n false) (x.2.2.2.1.drop k) st)).2 [] (f', A') → Q (some (.inl (fini x j key (askLF (askS Z.2.2.2.2.2.1 key n false) (x.2.2.2.1.drop k) st)).1.toInt)) (f', A')) →
    ((fini x j key (askLF (askS Z.2.2.2.2.2.1 key n false) (x.2.2.2.1.drop k) st)).1 < 0 → ∀ (x4 x5 x6 : Option yv) (f' : Nat → Int) (A' : Nat → List Int32), IV Z (fini x j key (askLF (askS Z.2.2.2.2.2.1 key n false) (x.2.2.2.1.drop k) st)).2 D (f', A') → yw G (d + 3) a mX9_ask 69 [some (.inr 0), some (.inl fz), some (.inl key.toInt), some (.inl D.length), x4, x5, x6] [] (f', A') Q) →
    yw G (d + 3) a mX9_ask 69 [some (.inr 0), some (.inl fz), some (.inl key.toInt), some (.inl ((D.length : Int) + 1)), x4, x5, x6] [] (f, A) Q := by
  have hl12 := hk.1
  intro n
  induction n with
  | zero =>
    intro j x hj hjn m
    cases m with
    | zero =>
      intro k st D x4 x5 x6 f A hkm hD h hs1 hs0 hret hcont
      rw [List.drop_of_length_le (by omega)] at hret hcont
      exact l_askPop hk hj (by omega) hD h hs1 hret hcont
    | succ m =>
      intro k st D x4 x5 x6 f A hkm hD h hs1 hs0 hret hcont
      exfalso
      obtain ⟨w, hw⟩ := lt_get (l := x.2.2.2.1) (j := k) (by omega)
      obtain ⟨q, hq, -⟩ := (hk.2 j x hj).2.2.2.1 w (List.mem_of_getElem? hw)
      omega
  | succ n ihn =>
    intro j x hj hjn m
    induction m with
    | zero =>
      intro k st D x4 x5 x6 f A hkm hD h hs1 hs0 hret hcont
      rw [List.drop_of_length_le (by omega)] at hret hcont
      exact l_askPop hk hj (by omega) hD h hs1 hret hcont
    | succ m ihm =>
      intro k st D x4 x5 x6 f A hkm hD h hs1 hs0 hret hcont
      have hjl := (List.getElem?_eq_some_iff.mp hj).1
      have hV := hk.2 j x hj
      have hv4 : x.2.2.2.1.length ≤ 4 := by rw [hV.2.2.1]; exact hV.1.2.2.2.1
      have h12 := h.2.1.2.1
      have hone := ones_le (l := st.1)
      obtain ⟨w, hw⟩ := lt_get (l := x.2.2.2.1) (j := k) (by omega)
      obtain ⟨q, hq, rfl⟩ := hV.2.2.2.1 w (List.mem_of_getElem? hw)
      obtain ⟨y, hy⟩ := lt_get (l := Z.2.2.2.2.2.1) (j := q) (by omega)
      have hVy := hk.2 q y hy
      have hvy4 : y.2.2.2.1.length ≤ 4 := by rw [hVy.2.2.1]; exact hVy.1.2.2.2.1
      have hqt : (nI q).toInt = q := i_n (by omega)
      have hsg : sget Z.2.2.2.2.2.1 (nI q) = some y := by rw [sget_nI (by omega)]; exact hy
      have hLF : askLF (askS Z.2.2.2.2.2.1 key (n + 1) false) (x.2.2.2.1.drop k) st = if (askS Z.2.2.2.2.2.1 key (n + 1) false (nI q) st).1 < 0 then askLF (askS Z.2.2.2.2.2.1 key (n + 1) false) (x.2.2.2.1.drop (k + 1)) (askS Z.2.2.2.2.2.1 key (n + 1) false (nI q) st).2 else askS Z.2.2.2.2.2.1 key (n + 1) false (nI q) st := by
        rw [drop_cons hw]; rfl
      have hslk := slk_S (key := key) hl12 (n + 1) false (nI q) st h12
      have hS : askS Z.2.2.2.2.2.1 key (n + 1) false (nI q) st = if st.1.getD q 0 ≠ 0 then (-1, st) else if y.2.2.2.2.2.1 ≠ 0 then (-1, st) else if y.2.2.1.1.2.2.1 = 1 then fini y q key (askLF (askS Z.2.2.2.2.2.1 key n false) (y.2.2.2.1.drop 0) (st.1.set q 1, st.2)) else if hasR y.2.2 key then (nI q, (st.1.set q 1, tpush st.2 (nI q))) else fini y q key (askLF (askS Z.2.2.2.2.2.1 key n false) (y.2.2.2.1.drop 0) (st.1.set q 1, tpush st.2 (nI q))) := by
        have hqq : (nI q).toInt.toNat = q := by rw [hqt]; rfl
        unfold askS
        rw [hsg]
        simp only [hqq, List.drop_zero, true_and]
        by_cases b1 : st.1.getD q 0 ≠ 0
        · rw [if_pos b1, if_pos b1]
        · rw [if_neg b1, if_neg b1]
          by_cases b2 : y.2.2.2.2.2.1 ≠ 0
          · rw [if_pos b2, if_pos b2]
          · rw [if_neg b2, if_neg b2]
            by_cases b3 : y.2.2.1.1.2.2.1 = 1
            · rw [if_pos b3, if_pos b3]
              unfold fini
              by_cases b4 : (askLF (askS Z.2.2.2.2.2.1 key n false) y.2.2.2.1 (st.1.set q 1, st.2)).1 < 0
              · rw [if_pos b4, if_pos (show (askLF (askS Z.2.2.2.2.2.1 key n false) y.2.2.2.1 (st.1.set q 1, st.2)).1 < 0 ∧ y.2.2.1.1.2.2.1 = 1 from ⟨b4, b3⟩)]
              · rw [if_neg b4, if_neg (fun hc => b4 hc.1)]
            · rw [if_neg b3, if_neg b3]
              by_cases b5 : hasR y.2.2 key = true
              · rw [if_pos b5, if_pos b5]
              · rw [if_neg b5, if_neg b5]
                unfold fini
                rw [if_neg (fun hc => b3 hc.2)]
      generalize hres : askS Z.2.2.2.2.2.1 key (n + 1) false (nI q) st = res at hLF hslk hS
      -- going on with the next need
      have next : res.1 < 0 → ∀ (x4 x5 x6 : Option yv) (f' : Nat → Int) (A' : Nat → List Int32), IV Z res.2 (D ++ [(j, k + 1)]) (f', A') → yw G (d + 3) a mX9_ask 69 [some (.inr 0), some (.inl fz), some (.inl key.toInt), some (.inl ((D.length : Int) + 1)), x4, x5, x6] [] (f', A') Q := by
        intro hr x4 x5 x6 f' A' hI
        rw [if_pos hr] at hLF
        rw [hLF] at hret hcont
        unfold slk at hslk
        exact ihm (k + 1) res.2 D x4 x5 x6 f' A' (by omega) hD hI (fun hc => by have := hs1 hc; omega) (by omega) hret hcont
      have found : 0 ≤ res.1 → ∀ (f' : Nat → Int) (A' : Nat → List Int32), IV Z res.2 [] (f', A') → Q (some (.inl res.1.toInt)) (f', A') := by
        intro hr f' A' hI
        have hnl : ¬ res.1 < 0 := by
          rw [i_le] at hr; rw [i_lt]
          have : (0 : Int32).toInt = 0 := rfl
          omega
        rw [if_neg hnl] at hLF
        rw [hLF] at hret
        have hfi : fini x j key res = res := if_neg (fun hc => hnl hc.1)
        rw [hfi] at hret
        exact hret f' A' hr hI
      refine l_askHead h (by omega) (by omega) (by omega) (fun A1 h1 => ?_)
      refine yw.len (fun hlen => ?_)
      have l52 : (A1 52).length = 12 := hlen 52 _ rfl
      have hM := h1.1.2.2.2.2.1.2 j x hj
      have hMy := h1.1.2.2.2.2.1.2 q y hy
      have m5 : (A1 40).getD j 0 = nI x.2.2.2.1.length := hM.2.2.2.2.1
      have m6 : (A1 41).getD (4 * j + k) 0 = nI q := hM.2.2.2.2.2.1 k _ hw
      have y4 : (A1 39).getD q 0 = y.2.2.2.2.2.1 := hMy.2.2.2.1
      have y3' : (A1 38).getD q 0 = y.2.2.1.1.2.2.1 := hMy.2.2.1
      have h40 : ((A1 40).getD j 0).toInt = x.2.2.2.1.length := by rw [m5, i_n (by omega)]
      have i1 : (4 * (j : Int) + k).toNat = 4 * j + k := by omega
      have g41 : ((A1 41).getD (4 * (j : Int) + k).toNat 0).toInt = q := by rw [i1, m6, hqt]
      have a52 : A1 52 = st.1 := h1.2.1.1
      have hneg : (-1 : Int32) < 0 := by decide
      have hlenD : (D ++ [(j, k + 1)]).length = D.length + 1 := by simp
      refine ygo 99999 90 rfl rfl (by first | exact trivial | (simp only [true_and, eq_self, or_true, true_or, and_true, yu, ya, reduceIte, Nat.reduceEqDiff, Int32.reduceToInt, Int.toNat_natCast, Int.reduceToNat]; omega) | decide | (simp; done) | (simp; omega)) ?_
      try simp only [List.map_cons, List.map_nil, List.length_cons, List.length_nil, ylr_s, ylr_0, Nat.reduceAdd, Nat.reduceSub, List.cons_append, List.nil_append, List.set_cons_zero, List.set_cons_succ, Option.toList_none, Option.toList_some, Int32.reduceToInt, yu, ya, reduceIte, Nat.reduceEqDiff, Int.toNat_natCast, Int.reduceToNat]
      refine yi_icmplt rfl (by refine ⟨?_, ?_⟩ <;> first | exact yr_t _ | exact yr_b _ | (unfold yr; omega)) (fun c2 => ?_) (fun c2 => ?_)
      · refine ygo 99999 90 rfl rfl (by first | exact trivial | (simp only [true_and, eq_self, or_true, true_or, and_true, yu, ya, reduceIte, Nat.reduceEqDiff, Int32.reduceToInt, Int.toNat_natCast, Int.reduceToNat]; omega) | decide | (simp; done) | (simp; omega)) ?_
        try simp only [List.map_cons, List.map_nil, List.length_cons, List.length_nil, ylr_s, ylr_0, Nat.reduceAdd, Nat.reduceSub, List.cons_append, List.nil_append, List.set_cons_zero, List.set_cons_succ, Option.toList_none, Option.toList_some, Int32.reduceToInt, yu, ya, reduceIte, Nat.reduceEqDiff, Int.toNat_natCast, Int.reduceToNat]
        refine yi_ifne rfl (by first | exact yr_t _ | exact yr_b _ | (unfold yr; omega)) (fun c3 => ?_) (fun c3 => ?_)
        · rw [g41, Int.toNat_natCast, a52, ← y0, ti] at c3
          rw [if_pos c3] at hS
          rw [hS] at next
          refine ygo 69 90 rfl rfl (by first | exact trivial | (simp only [true_and, eq_self, or_true, true_or, and_true, yu, ya, reduceIte, Nat.reduceEqDiff, Int32.reduceToInt, Int.toNat_natCast, Int.reduceToNat]; omega) | decide | (simp; done) | (simp; omega)) ?_
          try simp only [List.map_cons, List.map_nil, List.length_cons, List.length_nil, ylr_s, ylr_0, Nat.reduceAdd, Nat.reduceSub, List.cons_append, List.nil_append, List.set_cons_zero, List.set_cons_succ, Option.toList_none, Option.toList_some, Int32.reduceToInt, yu, ya, reduceIte, Nat.reduceEqDiff, Int.toNat_natCast, Int.reduceToNat]
          exact next hneg _ _ _ f A1 h1
        rw [g41, Int.toNat_natCast, a52, ← y0, ti] at c3
        rw [if_neg (fun hc => hc c3)] at hS
        refine ygo 99999 90 rfl rfl (by first | exact trivial | (simp only [true_and, eq_self, or_true, true_or, and_true, yu, ya, reduceIte, Nat.reduceEqDiff, Int32.reduceToInt, Int.toNat_natCast, Int.reduceToNat]; omega) | decide | (simp; done) | (simp; omega)) ?_
        try simp only [List.map_cons, List.map_nil, List.length_cons, List.length_nil, ylr_s, ylr_0, Nat.reduceAdd, Nat.reduceSub, List.cons_append, List.nil_append, List.set_cons_zero, List.set_cons_succ, Option.toList_none, Option.toList_some, Int32.reduceToInt, yu, ya, reduceIte, Nat.reduceEqDiff, Int.toNat_natCast, Int.reduceToNat]
        refine yi_ifne rfl (by first | exact yr_t _ | exact yr_b _ | (unfold yr; omega)) (fun c4 => ?_) (fun c4 => ?_)
        · rw [g41, Int.toNat_natCast, y4, ← y0, ti] at c4
          rw [if_pos c4] at hS
          rw [hS] at next
          refine ygo 69 90 rfl rfl (by first | exact trivial | (simp only [true_and, eq_self, or_true, true_or, and_true, yu, ya, reduceIte, Nat.reduceEqDiff, Int32.reduceToInt, Int.toNat_natCast, Int.reduceToNat]; omega) | decide | (simp; done) | (simp; omega)) ?_
          try simp only [List.map_cons, List.map_nil, List.length_cons, List.length_nil, ylr_s, ylr_0, Nat.reduceAdd, Nat.reduceSub, List.cons_append, List.nil_append, List.set_cons_zero, List.set_cons_succ, Option.toList_none, Option.toList_some, Int32.reduceToInt, yu, ya, reduceIte, Nat.reduceEqDiff, Int.toNat_natCast, Int.reduceToNat]
          exact next hneg _ _ _ f A1 h1
        rw [g41, Int.toNat_natCast, y4, ← y0, ti] at c4
        rw [if_neg (fun hc => hc c4)] at hS
        have hst := ones_set st.1 q (by omega) c3
        have hone2 := ones_le (l := st.1.set q 1)
        rw [List.length_set, h12] at hone2
        have hidx2 : ((D.length : Int) + 1).toNat = D.length + 1 := by omega
        have hofq : Int32.ofInt (q : Int) = nI q := iofn q
        -- the new frame
        have hI2 : IV Z (st.1.set q 1, st.2) (D ++ [(j, k + 1)] ++ [(q, 0)]) (f, ya (ya (ya A1 52 ((A1 52).set q 1)) 53 ((A1 53).set (D.length + 1) (nI q))) 54 ((A1 54).set (D.length + 1) 0)) := by
          refine ⟨h1.1, ⟨?_, by simpa using h12, h1.2.1.2.2.1, h1.2.1.2.2.2⟩, ?_⟩
          · simp only [ya, reduceIte, Nat.reduceEqDiff]
            rw [a52]
          · have := stk_push (j := q) (A := ya A1 52 ((A1 52).set q 1)) (f := f) (D := D ++ [(j, k + 1)]) h1.2.2 (yok_ya hlen (by rw [List.length_set])) (by rw [hlenD]; omega) f
            rw [hlenD] at this
            exact this
        refine ygo 99999 90 rfl rfl (by first | exact trivial | (simp only [true_and, eq_self, or_true, true_or, and_true, yu, ya, reduceIte, Nat.reduceEqDiff, Int32.reduceToInt, Int.toNat_natCast, Int.reduceToNat]; omega) | decide | (simp; done) | (simp; omega)) ?_
        try simp only [List.map_cons, List.map_nil, List.length_cons, List.length_nil, ylr_s, ylr_0, Nat.reduceAdd, Nat.reduceSub, List.cons_append, List.nil_append, List.set_cons_zero, List.set_cons_succ, Option.toList_none, Option.toList_some, Int32.reduceToInt, yu, ya, reduceIte, Nat.reduceEqDiff, Int.toNat_natCast, Int.reduceToNat]
        refine yi_ifne rfl (by first | exact yr_t _ | exact yr_b _ | (unfold yr; omega)) (fun c5 => ?_) (fun c5 => ?_)
        · rw [g41, Int.toNat_natCast, y3', ← y0, ti] at c5
          rw [g41, Int.toNat_natCast, hidx2, hofq, show Int32.ofInt 1 = 1 from rfl, show Int32.ofInt 0 = 0 from rfl]
          have hm1 : y.2.2.1.1.2.2.1 = 1 := by
            have := hVy.1.2.2.1
            rw [i_eq] at c5 ⊢
            have : (0 : Int32).toInt = 0 := rfl
            have : (1 : Int32).toInt = 1 := rfl
            omega
          rw [if_pos hm1] at hS
          refine ygo 69 90 rfl rfl (by first | exact trivial | (simp only [true_and, eq_self, or_true, true_or, and_true, yu, ya, reduceIte, Nat.reduceEqDiff, Int32.reduceToInt, Int.toNat_natCast, Int.reduceToNat]; omega) | decide | (simp; done) | (simp; omega)) ?_
          try simp only [List.map_cons, List.map_nil, List.length_cons, List.length_nil, ylr_s, ylr_0, Nat.reduceAdd, Nat.reduceSub, List.cons_append, List.nil_append, List.set_cons_zero, List.set_cons_succ, Option.toList_none, Option.toList_some, Int32.reduceToInt, yu, ya, reduceIte, Nat.reduceEqDiff, Int.toNat_natCast, Int.reduceToNat]
          have hln : ((D.length : Int) + 1 + 1) = (((D ++ [(j, k + 1)]).length : Nat) : Int) + 1 := by rw [hlenD]; rfl
          rw [hln]
          refine ihn q y hy (by omega) y.2.2.2.1.length 0 _ (D ++ [(j, k + 1)]) _ _ _ _ _ (by omega) (by rw [hlenD]; omega) hI2 (fun _ => by dsimp only; omega) (by dsimp only; omega) (fun f' A' hr hI => ?_) (fun hr x4 x5 x6 f' A' hI => ?_)
          · rw [← hS] at hr hI ⊢
            exact found hr f' A' hI
          · rw [← hS] at hr hI
            rw [hlenD]
            exact next hr _ _ _ f' A' hI
        · rw [g41, Int.toNat_natCast, y3', ← y0, ti] at c5
          have hm1 : ¬ y.2.2.1.1.2.2.1 = 1 := by rw [c5]; decide
          rw [if_neg hm1] at hS
          have hIx := hI2
          rw [g41, Int.toNat_natCast, hidx2, hofq, show Int32.ofInt 1 = 1 from rfl, show Int32.ofInt 0 = 0 from rfl]
          generalize ya (ya (ya A1 52 ((A1 52).set q 1)) 53 ((A1 53).set (D.length + 1) (nI q))) 54 ((A1 54).set (D.length + 1) 0) = A2 at hI2 ⊢
          have ht1 := tp_len (tr := st.2) (e := nI q)
          have htl : (tpush st.2 (nI q)).length = st.2.length + 1 := by
            unfold tpush
            rw [if_pos (by omega)]
            simp
          refine ygo 99999 90 rfl rfl (by first | exact trivial | (simp only [true_and, eq_self, or_true, true_or, and_true, yu, ya, reduceIte, Nat.reduceEqDiff, Int32.reduceToInt, Int.toNat_natCast, Int.reduceToNat]; omega) | decide | (simp; done) | (simp; omega)) ?_
          try simp only [List.map_cons, List.map_nil, List.length_cons, List.length_nil, ylr_s, ylr_0, Nat.reduceAdd, Nat.reduceSub, List.cons_append, List.nil_append, List.set_cons_zero, List.set_cons_succ, Option.toList_none, Option.toList_some, Int32.reduceToInt, yu, ya, reduceIte, Nat.reduceEqDiff, Int.toNat_natCast, Int.reduceToNat]
          refine ycV rfl rfl rfl (cm_looks (key := key) hI2 hk hy (by dsimp only; omega)) rfl kX9_looks iX9_looks rfl rfl rfl (Nat.le_of_ble_eq_true rfl) (fun v7 Y7 q7 => ?_)
          obtain ⟨rfl, h7⟩ := q7
          obtain ⟨f7, A7⟩ := Y7
          refine ygo 99999 90 rfl rfl (by first | exact trivial | (simp only [true_and, eq_self, or_true, true_or, and_true, yu, ya, reduceIte, Nat.reduceEqDiff, Int32.reduceToInt, Int.toNat_natCast, Int.reduceToNat]; omega) | decide | (simp; done) | (simp; omega)) ?_
          try simp only [List.map_cons, List.map_nil, List.length_cons, List.length_nil, ylr_s, ylr_0, Nat.reduceAdd, Nat.reduceSub, List.cons_append, List.nil_append, List.set_cons_zero, List.set_cons_succ, Option.toList_none, Option.toList_some, Int32.reduceToInt, yu, ya, reduceIte, Nat.reduceEqDiff, Int.toNat_natCast, Int.reduceToNat]
          refine yi_ifeq rfl (by first | exact yr_t _ | exact yr_b _ | (unfold yr; omega)) (fun c6 => ?_) (fun c6 => ?_)
          · rw [bInt_z] at c6
            rw [if_neg (by rw [c6]; decide)] at hS
            refine ygo 69 90 rfl rfl (by first | exact trivial | (simp only [true_and, eq_self, or_true, true_or, and_true, yu, ya, reduceIte, Nat.reduceEqDiff, Int32.reduceToInt, Int.toNat_natCast, Int.reduceToNat]; omega) | decide | (simp; done) | (simp; omega)) ?_
            try simp only [List.map_cons, List.map_nil, List.length_cons, List.length_nil, ylr_s, ylr_0, Nat.reduceAdd, Nat.reduceSub, List.cons_append, List.nil_append, List.set_cons_zero, List.set_cons_succ, Option.toList_none, Option.toList_some, Int32.reduceToInt, yu, ya, reduceIte, Nat.reduceEqDiff, Int.toNat_natCast, Int.reduceToNat]
            have hln : ((D.length : Int) + 1 + 1) = (((D ++ [(j, k + 1)]).length : Nat) : Int) + 1 := by rw [hlenD]; rfl
            rw [hln]
            refine ihn q y hy (by omega) y.2.2.2.1.length 0 _ (D ++ [(j, k + 1)]) _ _ _ _ _ (by omega) (by rw [hlenD]; omega) h7 (fun hc => absurd hc hm1) (by dsimp only; omega) (fun f' A' hr hI => ?_) (fun hr x4 x5 x6 f' A' hI => ?_)
            · rw [← hS] at hr hI ⊢
              exact found hr f' A' hI
            · rw [← hS] at hr hI
              rw [hlenD]
              exact next hr _ _ _ f' A' hI
          · rw [bInt_z, Bool.not_eq_false] at c6
            rw [if_pos c6] at hS
            rw [hS] at found
            have := found (by rw [i_le]; show (0 : Int32).toInt ≤ (nI q).toInt; rw [hqt]; have : (0 : Int32).toInt = 0 := rfl; omega) f7 A7 h7.nil
            dsimp only at this
            rw [hqt] at this
            refine ygo 99999 90 rfl rfl (by first | exact trivial | (simp only [true_and, eq_self, or_true, true_or, and_true, yu, ya, reduceIte, Nat.reduceEqDiff, Int32.reduceToInt, Int.toNat_natCast, Int.reduceToNat]; omega) | decide | (simp; done) | (simp; omega)) ?_
            try simp only [List.map_cons, List.map_nil, List.length_cons, List.length_nil, ylr_s, ylr_0, Nat.reduceAdd, Nat.reduceSub, List.cons_append, List.nil_append, List.set_cons_zero, List.set_cons_succ, Option.toList_none, Option.toList_some, Int32.reduceToInt, yu, ya, reduceIte, Nat.reduceEqDiff, Int.toNat_natCast, Int.reduceToNat]
            refine yi_ret_i rfl rfl this
      · rw [h40] at c2; omega
