theorem neg_no {P : Prop} (h : (0 : Int32) ≤ -1) : P := absurd h (by decide)
theorem ask_has {L : sL} {key : Int32} (hl : L.length ≤ 12) : ∀ (n : Nat) (d0 : Bool) (e : Int32) (st : fS), 0 ≤ (askS L key n d0 e st).1 → ∃ (j : Nat) (y : Nat × Nat × eV), (askS L key n d0 e st).1 = nI j ∧ L[j]? = some y ∧ hasR y.2.2 key = true
  | 0, d0, e, st, h => neg_no h
  | n + 1, d0, e, st, h => by
    have hLF : ∀ (ms : List Int32) (st2 : fS), 0 ≤ (askLF (askS L key n false) ms st2).1 → ∃ (j : Nat) (y : Nat × Nat × eV), (askLF (askS L key n false) ms st2).1 = nI j ∧ L[j]? = some y ∧ hasR y.2.2 key = true := by
      intro ms
      induction ms with
      | nil => intro st2 h2; exact neg_no h2
      | cons m ms ih =>
        intro st2 h2
        unfold askLF at h2 ⊢
        split
        next hc => rw [if_pos hc] at h2; exact ih _ h2
        next hc => rw [if_neg hc] at h2; exact ask_has hl n false m st2 h2
    unfold askS at h ⊢
    cases hx : sget L e with
    | none => rw [hx] at h; exact neg_no h
    | some x =>
      rw [hx] at h
      obtain ⟨j, rfl, hj, hj12⟩ := sget_s hx hl
      dsimp only at h ⊢
      by_cases b1 : st.1.getD (nI j).toInt.toNat 0 ≠ 0
      · rw [if_pos b1] at h; exact neg_no h
      rw [if_neg b1] at h ⊢
      by_cases b2 : d0 = false ∧ x.2.2.2.2.2.1 ≠ 0
      · rw [if_pos b2] at h; exact neg_no h
      rw [if_neg b2] at h ⊢
      by_cases b3 : x.2.2.1.1.2.2.1 = 1
      · rw [if_pos b3] at h ⊢
        generalize hr : askLF (askS L key n false) x.2.2.2.1 (st.1.set (nI j).toInt.toNat 1, st.2) = r at h ⊢
        have hLr := hLF x.2.2.2.1 (st.1.set (nI j).toInt.toNat 1, st.2)
        rw [hr] at hLr
        by_cases b4 : r.1 < 0
        · rw [if_pos b4] at h ⊢
          by_cases b5 : hasR x.2.2 key = true
          · rw [if_pos b5]; exact ⟨j, x, rfl, hj, b5⟩
          · rw [if_neg b5] at h; exact neg_no h
        · rw [if_neg b4] at h ⊢
          exact hLr h
      · rw [if_neg b3] at h ⊢
        by_cases b5 : hasR x.2.2 key = true
        · rw [if_pos b5]; exact ⟨j, x, rfl, hj, b5⟩
        · rw [if_neg b5] at h ⊢
          exact hLF _ _ h
theorem ov_has {L : sL} {ov : List Int32} {key : Int32} (hl : L.length ≤ 12) : ∀ (n : Nat), 0 ≤ ovI L ov key n → ∃ (j : Nat) (y : Nat × Nat × eV), ovI L ov key n = nI j ∧ L[j]? = some y ∧ hasR y.2.2 key = true
  | 0, h => neg_no h
  | n + 1, h => by
    have e : ovI L ov key (n + 1) = match sget L (ov.getD n 0) with
      | some x => if (x.2.2.1.2.2.2.findIdx? (fun e => e.1 == key)).isSome then ov.getD n 0 else ovI L ov key n
      | none => ovI L ov key n := rfl
    rw [e] at h ⊢
    cases hx : sget L (ov.getD n 0) with
    | none => rw [hx] at h; exact ov_has hl n h
    | some x =>
      rw [hx] at h
      obtain ⟨j, hj1, hj, hj12⟩ := sget_s hx hl
      dsimp only at h ⊢
      by_cases b5 : (x.2.2.1.2.2.2.findIdx? (fun e => e.1 == key)).isSome = true
      · rw [if_pos b5]; exact ⟨j, x, hj1, hj, b5⟩
      · rw [if_neg b5] at h ⊢; exact ov_has hl n h
theorem pg_has {L : sL} {key e : Int32} {x : Nat × Nat × eV} (hl : L.length ≤ 12) (h : 0 ≤ pgE L x e key) : ∃ (j : Nat) (y : Nat × Nat × eV), pgE L x e key = nI j ∧ L[j]? = some y ∧ hasR y.2.2 key = true := by
  unfold pgE at h ⊢
  by_cases b : ovI L x.2.2.2.2.2.2 key x.2.2.2.2.2.2.length < 0
  · rw [if_pos b] at h ⊢
    exact ask_has hl 12 true e _ h
  · rw [if_neg b] at h ⊢
    exact ov_has hl _ h
set_option maxRecDepth 100000 in
set_option maxHeartbeats 2000000 in
theorem o_read {G : xG} {d a : Nat} {e key i : Int32} {Z : pZ} {f : Nat → Int} {A : Nat → List Int32} (h : mR Z (f, A)) (hk : okS Z.2.2.2.2.2.1) : ym G (d + 20) a mX9_read [.inr 0, .inl e.toInt, .inl key.toInt, .inl i.toInt] (f, A) (ypost (F_read e key i Z)) := by
  have hl := hk.1
  have hpg := cm_page (G := G) (d := d + 15) (a := a) (e := e) (key := key) h hk
  unfold F_read
  unfold F_page at hpg
  cases he : sget Z.2.2.2.2.2.1 e with
  | none =>
    rw [he] at hpg
    refine ym_at 6 rfl (by decide) (Nat.le_of_ble_eq_true rfl) tX9_read_ok ?_
    try simp only [List.map_cons, List.map_nil, List.length_cons, List.length_nil, ylr_s, ylr_0, Nat.reduceAdd, Nat.reduceSub, List.cons_append, List.nil_append, List.set_cons_zero, List.set_cons_succ, Option.toList_none, Option.toList_some, Int32.reduceToInt, yu, ya, reduceIte, Nat.reduceEqDiff, Int.toNat_natCast, Int.reduceToNat]
    refine ygo 99999 90 rfl rfl (by first | exact trivial | (simp only [true_and, eq_self, or_true, true_or, and_true, yu, ya, reduceIte, Nat.reduceEqDiff, Int32.reduceToInt, Int.toNat_natCast, Int.reduceToNat]; omega) | decide | (simp; done) | (simp; omega)) ?_
    try simp only [List.map_cons, List.map_nil, List.length_cons, List.length_nil, ylr_s, ylr_0, Nat.reduceAdd, Nat.reduceSub, List.cons_append, List.nil_append, List.set_cons_zero, List.set_cons_succ, Option.toList_none, Option.toList_some, Int32.reduceToInt, yu, ya, reduceIte, Nat.reduceEqDiff, Int.toNat_natCast, Int.reduceToNat]
    refine ycV rfl rfl rfl hpg rfl kX9_page iX9_page rfl rfl rfl (Nat.le_of_ble_eq_true rfl) (fun v1 Y1 q1 => ?_)
    obtain ⟨rfl, h1⟩ := q1
    obtain ⟨f1, A1⟩ := Y1
    refine ygo 99999 90 rfl rfl (by first | exact trivial | (simp only [true_and, eq_self, or_true, true_or, and_true, yu, ya, reduceIte, Nat.reduceEqDiff, Int32.reduceToInt, Int.toNat_natCast, Int.reduceToNat]; omega) | decide | (simp; done) | (simp; omega)) ?_
    try simp only [List.map_cons, List.map_nil, List.length_cons, List.length_nil, ylr_s, ylr_0, Nat.reduceAdd, Nat.reduceSub, List.cons_append, List.nil_append, List.set_cons_zero, List.set_cons_succ, Option.toList_none, Option.toList_some, Int32.reduceToInt, yu, ya, reduceIte, Nat.reduceEqDiff, Int.toNat_natCast, Int.reduceToNat]
    refine yi_ifge rfl (by first | exact yr_t _ | exact yr_b _ | (unfold yr; omega)) (fun c => ?_) (fun c => ?_)
    · exact absurd c (by decide)
    · refine ygo 99999 90 rfl rfl (by first | exact trivial | (simp only [true_and, eq_self, or_true, true_or, and_true, yu, ya, reduceIte, Nat.reduceEqDiff, Int32.reduceToInt, Int.toNat_natCast, Int.reduceToNat]; omega) | decide | (simp; done) | (simp; omega)) ?_
      try simp only [List.map_cons, List.map_nil, List.length_cons, List.length_nil, ylr_s, ylr_0, Nat.reduceAdd, Nat.reduceSub, List.cons_append, List.nil_append, List.set_cons_zero, List.set_cons_succ, Option.toList_none, Option.toList_some, Int32.reduceToInt, yu, ya, reduceIte, Nat.reduceEqDiff, Int.toNat_natCast, Int.reduceToNat]
      refine yi_ret_i rfl rfl (ypost.same h1 rfl rfl)
  | some x =>
    rw [he] at hpg
    dsimp only at hpg ⊢
    by_cases hb : ¬ blw key 256
    · rw [if_pos hb] at hpg ⊢
      refine ym_at 6 rfl (by decide) (Nat.le_of_ble_eq_true rfl) tX9_read_ok ?_
      try simp only [List.map_cons, List.map_nil, List.length_cons, List.length_nil, ylr_s, ylr_0, Nat.reduceAdd, Nat.reduceSub, List.cons_append, List.nil_append, List.set_cons_zero, List.set_cons_succ, Option.toList_none, Option.toList_some, Int32.reduceToInt, yu, ya, reduceIte, Nat.reduceEqDiff, Int.toNat_natCast, Int.reduceToNat]
      refine ygo 99999 90 rfl rfl (by first | exact trivial | (simp only [true_and, eq_self, or_true, true_or, and_true, yu, ya, reduceIte, Nat.reduceEqDiff, Int32.reduceToInt, Int.toNat_natCast, Int.reduceToNat]; omega) | decide | (simp; done) | (simp; omega)) ?_
      try simp only [List.map_cons, List.map_nil, List.length_cons, List.length_nil, ylr_s, ylr_0, Nat.reduceAdd, Nat.reduceSub, List.cons_append, List.nil_append, List.set_cons_zero, List.set_cons_succ, Option.toList_none, Option.toList_some, Int32.reduceToInt, yu, ya, reduceIte, Nat.reduceEqDiff, Int.toNat_natCast, Int.reduceToNat]
      refine ycV rfl rfl rfl hpg rfl kX9_page iX9_page rfl rfl rfl (Nat.le_of_ble_eq_true rfl) (fun v1 Y1 q1 => ?_)
      obtain ⟨rfl, h1⟩ := q1
      obtain ⟨f1, A1⟩ := Y1
      refine ygo 99999 90 rfl rfl (by first | exact trivial | (simp only [true_and, eq_self, or_true, true_or, and_true, yu, ya, reduceIte, Nat.reduceEqDiff, Int32.reduceToInt, Int.toNat_natCast, Int.reduceToNat]; omega) | decide | (simp; done) | (simp; omega)) ?_
      try simp only [List.map_cons, List.map_nil, List.length_cons, List.length_nil, ylr_s, ylr_0, Nat.reduceAdd, Nat.reduceSub, List.cons_append, List.nil_append, List.set_cons_zero, List.set_cons_succ, Option.toList_none, Option.toList_some, Int32.reduceToInt, yu, ya, reduceIte, Nat.reduceEqDiff, Int.toNat_natCast, Int.reduceToNat]
      refine yi_ifge rfl (by first | exact yr_t _ | exact yr_b _ | (unfold yr; omega)) (fun c => ?_) (fun c => ?_)
      · exact absurd c (by decide)
      · refine ygo 99999 90 rfl rfl (by first | exact trivial | (simp only [true_and, eq_self, or_true, true_or, and_true, yu, ya, reduceIte, Nat.reduceEqDiff, Int32.reduceToInt, Int.toNat_natCast, Int.reduceToNat]; omega) | decide | (simp; done) | (simp; omega)) ?_
        try simp only [List.map_cons, List.map_nil, List.length_cons, List.length_nil, ylr_s, ylr_0, Nat.reduceAdd, Nat.reduceSub, List.cons_append, List.nil_append, List.set_cons_zero, List.set_cons_succ, Option.toList_none, Option.toList_some, Int32.reduceToInt, yu, ya, reduceIte, Nat.reduceEqDiff, Int.toNat_natCast, Int.reduceToNat]
        refine yi_ret_i rfl rfl (ypost.same h1 rfl rfl)
    · rw [if_neg hb] at hpg ⊢
      have hhas := pg_has (L := Z.2.2.2.2.2.1) (key := key) (e := e) (x := x) hl
      generalize pgE Z.2.2.2.2.2.1 x e key = pe at hpg hhas ⊢
      refine ym_at 6 rfl (by decide) (Nat.le_of_ble_eq_true rfl) tX9_read_ok ?_
      try simp only [List.map_cons, List.map_nil, List.length_cons, List.length_nil, ylr_s, ylr_0, Nat.reduceAdd, Nat.reduceSub, List.cons_append, List.nil_append, List.set_cons_zero, List.set_cons_succ, Option.toList_none, Option.toList_some, Int32.reduceToInt, yu, ya, reduceIte, Nat.reduceEqDiff, Int.toNat_natCast, Int.reduceToNat]
      refine ygo 99999 90 rfl rfl (by first | exact trivial | (simp only [true_and, eq_self, or_true, true_or, and_true, yu, ya, reduceIte, Nat.reduceEqDiff, Int32.reduceToInt, Int.toNat_natCast, Int.reduceToNat]; omega) | decide | (simp; done) | (simp; omega)) ?_
      try simp only [List.map_cons, List.map_nil, List.length_cons, List.length_nil, ylr_s, ylr_0, Nat.reduceAdd, Nat.reduceSub, List.cons_append, List.nil_append, List.set_cons_zero, List.set_cons_succ, Option.toList_none, Option.toList_some, Int32.reduceToInt, yu, ya, reduceIte, Nat.reduceEqDiff, Int.toNat_natCast, Int.reduceToNat]
      refine ycV rfl rfl rfl hpg rfl kX9_page iX9_page rfl rfl rfl (Nat.le_of_ble_eq_true rfl) (fun v1 Y1 q1 => ?_)
      obtain ⟨rfl, h1⟩ := q1
      obtain ⟨f1, A1⟩ := Y1
      refine ygo 99999 90 rfl rfl (by first | exact trivial | (simp only [true_and, eq_self, or_true, true_or, and_true, yu, ya, reduceIte, Nat.reduceEqDiff, Int32.reduceToInt, Int.toNat_natCast, Int.reduceToNat]; omega) | decide | (simp; done) | (simp; omega)) ?_
      try simp only [List.map_cons, List.map_nil, List.length_cons, List.length_nil, ylr_s, ylr_0, Nat.reduceAdd, Nat.reduceSub, List.cons_append, List.nil_append, List.set_cons_zero, List.set_cons_succ, Option.toList_none, Option.toList_some, Int32.reduceToInt, yu, ya, reduceIte, Nat.reduceEqDiff, Int.toNat_natCast, Int.reduceToNat]
      refine yi_ifge rfl (by first | exact yr_t _ | exact yr_b _ | (unfold yr; omega)) (fun c => ?_) (fun c => ?_)
      · obtain ⟨j, y, rfl, hj, hhr⟩ := hhas (by rw [i_le]; have : (0 : Int32).toInt = 0 := rfl; omega)
        have hjl := (List.getElem?_eq_some_iff.mp hj).1
        have hjt : (nI j).toInt = j := i_n (by omega)
        have hV := hk.2 j y hj
        have hME := h1.2.2.2.2.1.2 j y hj
        have h8 : y.2.2.1.2.2.2.length ≤ 8 := hV.1.2.2.2.2.2.2.2.1
        rw [sget_nI (by omega), hj]
        dsimp only
        rw [hjt]
        refine ygo 99999 90 rfl rfl (by first | exact trivial | (simp only [true_and, eq_self, or_true, true_or, and_true, yu, ya, reduceIte, Nat.reduceEqDiff, Int32.reduceToInt, Int.toNat_natCast, Int.reduceToNat]; omega) | decide | (simp; done) | (simp; omega)) ?_
        try simp only [List.map_cons, List.map_nil, List.length_cons, List.length_nil, ylr_s, ylr_0, Nat.reduceAdd, Nat.reduceSub, List.cons_append, List.nil_append, List.set_cons_zero, List.set_cons_succ, Option.toList_none, Option.toList_some, Int32.reduceToInt, yu, ya, reduceIte, Nat.reduceEqDiff, Int.toNat_natCast, Int.reduceToNat]
        refine ycV rfl rfl rfl (cm_rowOf (key := key) hME (by omega) hV.1 hV.2.1) rfl kX9_rowOf iX9_rowOf rfl rfl rfl (Nat.le_of_ble_eq_true rfl) (fun v2 Y2 q2 => ?_)
        obtain ⟨rfl, rfl⟩ := q2
        unfold hasR at hhr
        cases hf : y.2.2.1.2.2.2.findIdx? (fun r => r.1 == key) with
        | none => rw [hf] at hhr; cases hhr
        | some r =>
          have hz : oZ (some r) = r := rfl
          have hrl := fi_lt hf
          obtain ⟨w, hw, -⟩ := fi_some hf
          have m10 := hME.2.2.2.2.2.2.2.2.2.1 r w hw
          dsimp only at m10
          have hwl := (hV.1.2.2.2.2.2.2.2.2 w (List.mem_of_getElem? hw)).2.2.1
          have i1 : (8 * (j : Int) + r).toNat = 8 * j + r := by omega
          have g46 : ((A1 46).getD (8 * j + r) 0).toInt = w.2.2.length := by rw [m10.2.1, i_n (by omega)]
          have hby : rby y.2.2.1.2.2.2 (oI (some r)) = w.2.2 := rby_n hw (by omega)
          rw [hz, hby]
          refine ygo 99999 90 rfl rfl (by first | exact trivial | (simp only [true_and, eq_self, or_true, true_or, and_true, yu, ya, reduceIte, Nat.reduceEqDiff, Int32.reduceToInt, Int.toNat_natCast, Int.reduceToNat]; omega) | decide | (simp; done) | (simp; omega)) ?_
          try simp only [List.map_cons, List.map_nil, List.length_cons, List.length_nil, ylr_s, ylr_0, Nat.reduceAdd, Nat.reduceSub, List.cons_append, List.nil_append, List.set_cons_zero, List.set_cons_succ, Option.toList_none, Option.toList_some, Int32.reduceToInt, yu, ya, reduceIte, Nat.reduceEqDiff, Int.toNat_natCast, Int.reduceToNat]
          refine yi_iflt rfl (by first | exact yr_t _ | exact yr_b _ | (unfold yr; omega)) (fun c3 => ?_) (fun c3 => ?_)
          · refine ygo 99999 90 rfl rfl (by first | exact trivial | (simp only [true_and, eq_self, or_true, true_or, and_true, yu, ya, reduceIte, Nat.reduceEqDiff, Int32.reduceToInt, Int.toNat_natCast, Int.reduceToNat]; omega) | decide | (simp; done) | (simp; omega)) ?_
            try simp only [List.map_cons, List.map_nil, List.length_cons, List.length_nil, ylr_s, ylr_0, Nat.reduceAdd, Nat.reduceSub, List.cons_append, List.nil_append, List.set_cons_zero, List.set_cons_succ, Option.toList_none, Option.toList_some, Int32.reduceToInt, yu, ya, reduceIte, Nat.reduceEqDiff, Int.toNat_natCast, Int.reduceToNat]
            refine yi_ret_i rfl rfl (ypost.same h1 rfl (by rw [bat_out (by omega)]; rfl))
          refine ygo 99999 90 rfl rfl (by first | exact trivial | (simp only [true_and, eq_self, or_true, true_or, and_true, yu, ya, reduceIte, Nat.reduceEqDiff, Int32.reduceToInt, Int.toNat_natCast, Int.reduceToNat]; omega) | decide | (simp; done) | (simp; omega)) ?_
          try simp only [List.map_cons, List.map_nil, List.length_cons, List.length_nil, ylr_s, ylr_0, Nat.reduceAdd, Nat.reduceSub, List.cons_append, List.nil_append, List.set_cons_zero, List.set_cons_succ, Option.toList_none, Option.toList_some, Int32.reduceToInt, yu, ya, reduceIte, Nat.reduceEqDiff, Int.toNat_natCast, Int.reduceToNat]
          refine yi_icmplt rfl (by refine ⟨?_, ?_⟩ <;> first | exact yr_t _ | exact yr_b _ | (unfold yr; omega)) (fun c4 => ?_) (fun c4 => ?_)
          · rw [i1, g46] at c4
            have hb : bin w.2.2.length i = true := decide_eq_true (by omega)
            have hg := m10.2.2 _ _ (bat_in hb)
            have i2 : (120 * (8 * (j : Int) + r) + i.toInt).toNat = 120 * (8 * j + r) + i.toInt.toNat := by omega
            refine ygo 99999 90 rfl rfl (by first | exact trivial | (simp only [true_and, eq_self, or_true, true_or, and_true, yu, ya, reduceIte, Nat.reduceEqDiff, Int32.reduceToInt, Int.toNat_natCast, Int.reduceToNat]; omega) | decide | (simp; done) | (simp; omega)) ?_
            try simp only [List.map_cons, List.map_nil, List.length_cons, List.length_nil, ylr_s, ylr_0, Nat.reduceAdd, Nat.reduceSub, List.cons_append, List.nil_append, List.set_cons_zero, List.set_cons_succ, Option.toList_none, Option.toList_some, Int32.reduceToInt, yu, ya, reduceIte, Nat.reduceEqDiff, Int.toNat_natCast, Int.reduceToNat]
            refine yi_ret_i rfl rfl (ypost.same h1 rfl (by rw [i2, hg]))
          · rw [i1, g46] at c4
            refine ygo 99999 90 rfl rfl (by first | exact trivial | (simp only [true_and, eq_self, or_true, true_or, and_true, yu, ya, reduceIte, Nat.reduceEqDiff, Int32.reduceToInt, Int.toNat_natCast, Int.reduceToNat]; omega) | decide | (simp; done) | (simp; omega)) ?_
            try simp only [List.map_cons, List.map_nil, List.length_cons, List.length_nil, ylr_s, ylr_0, Nat.reduceAdd, Nat.reduceSub, List.cons_append, List.nil_append, List.set_cons_zero, List.set_cons_succ, Option.toList_none, Option.toList_some, Int32.reduceToInt, yu, ya, reduceIte, Nat.reduceEqDiff, Int.toNat_natCast, Int.reduceToNat]
            refine yi_ret_i rfl rfl (ypost.same h1 rfl (by rw [bat_out (by omega)]; rfl))
      · have hsn : sget Z.2.2.2.2.2.1 pe = none := by
          unfold sget
          rw [if_pos (by omega)]
        rw [hsn]
        refine ygo 99999 90 rfl rfl (by first | exact trivial | (simp only [true_and, eq_self, or_true, true_or, and_true, yu, ya, reduceIte, Nat.reduceEqDiff, Int32.reduceToInt, Int.toNat_natCast, Int.reduceToNat]; omega) | decide | (simp; done) | (simp; omega)) ?_
        try simp only [List.map_cons, List.map_nil, List.length_cons, List.length_nil, ylr_s, ylr_0, Nat.reduceAdd, Nat.reduceSub, List.cons_append, List.nil_append, List.set_cons_zero, List.set_cons_succ, Option.toList_none, Option.toList_some, Int32.reduceToInt, yu, ya, reduceIte, Nat.reduceEqDiff, Int.toNat_natCast, Int.reduceToNat]
        refine yi_ret_i rfl rfl (ypost.same h1 rfl rfl)
