theorem suit_iff {K : cV} {nd : Int32 × Int32 × Int32} (hz : nd.2.2 = 0 ∨ nd.2.2 = 1) : suit K nd = true ↔ K.1.1 = nd.1 ∧ (if nd.2.2 = 0 then K.1.2.1.toInt ≤ nd.2.1.toInt else K.1.2.1 = nd.2.1) := by
  unfold suit
  rcases hz with e | e
  · simp [e, i_le]
  · simp [e]
set_option maxRecDepth 100000 in
set_option maxHeartbeats 2000000 in
theorem l_meeting {G : xG} {d a : Nat} {L : sL} {nd : Int32 × Int32 × Int32} {f : Nat → Int} {A : Nat → List Int32} (h : mS L (f, A)) (hk : okS L) (hz : nd.2.2 = 0 ∨ nd.2.2 = 1) : ∀ (n i : Nat) (bz iz : Int) (acc : Int32 × Int32) (x6 : Option yv), i + n = L.length → iz = i → bz = acc.1.toInt → (acc = (-1, -1) ∨ ∃ (j : Nat) (y : Nat × Nat × eV), j < i ∧ L[j]? = some y ∧ acc = (nI j, y.2.2.1.1.2.1)) → mfold nd (L.drop i) i acc = mfold nd L 0 (-1, -1) →
    yw G d a mX9_meeting 6 [some (.inr 0), some (.inl nd.1.toInt), some (.inl nd.2.1.toInt), some (.inl nd.2.2.toInt), some (.inl bz), some (.inl iz), x6] [] (f, A) (fun w Y' => w = some (.inl (meetI L nd).toInt) ∧ Y' = (f, A)) := by
  have h35 : f 35 = L.length := h.1
  have hL := hk.1
  have m1 : (-1 : Int32).toInt = -1 := rfl
  intro n
  induction n with
  | zero =>
    intro i bz iz acc x6 hi hiz hbz hacc hm
    have e : L.drop i = [] := List.drop_eq_nil_of_le (by omega)
    rw [e] at hm
    have hm' : acc = mfold nd L 0 (-1, -1) := hm
    have hr := i_rng acc.1
    refine ygo 99999 90 rfl rfl (by first | exact trivial | (simp only [true_and, eq_self, or_true, true_or, and_true, yu, ya, reduceIte, Nat.reduceEqDiff, Int32.reduceToInt, Int.toNat_natCast, Int.reduceToNat]; omega) | decide | (simp; done) | (simp; omega)) ?_
    try simp only [List.map_cons, List.map_nil, List.length_cons, List.length_nil, ylr_s, ylr_0, Nat.reduceAdd, Nat.reduceSub, List.cons_append, List.nil_append, List.set_cons_zero, List.set_cons_succ, Option.toList_none, Option.toList_some, Int32.reduceToInt, yu, ya, reduceIte, Nat.reduceEqDiff, Int.toNat_natCast, Int.reduceToNat]
    refine yi_icmpge rfl (by refine ⟨?_, ?_⟩ <;> first | exact yr_t _ | exact yr_b _ | (unfold yr; omega)) (fun c => ?_) (fun c => ?_)
    · refine ygo 99999 90 rfl rfl (by first | exact trivial | (simp only [true_and, eq_self, or_true, true_or, and_true, yu, ya, reduceIte, Nat.reduceEqDiff, Int32.reduceToInt, Int.toNat_natCast, Int.reduceToNat]; omega) | decide | (simp; done) | (simp; omega)) ?_
      try simp only [List.map_cons, List.map_nil, List.length_cons, List.length_nil, ylr_s, ylr_0, Nat.reduceAdd, Nat.reduceSub, List.cons_append, List.nil_append, List.set_cons_zero, List.set_cons_succ, Option.toList_none, Option.toList_some, Int32.reduceToInt, yu, ya, reduceIte, Nat.reduceEqDiff, Int.toNat_natCast, Int.reduceToNat]
      refine yi_ret_i rfl rfl ⟨by rw [hbz, hm']; rfl, rfl⟩
    · omega
  | succ n ih =>
    intro i bz iz acc x6 hi hiz hbz hacc hm
    obtain ⟨x, hx⟩ := lt_get (l := L) (j := i) (by omega)
    have hE := h.2 i x hx
    have hV := hk.2 i x hx
    have g36 : (A 36).getD i 0 = x.2.2.1.1.1 := hE.1
    have g37 : (A 37).getD i 0 = x.2.2.1.1.2.1 := hE.2.1
    have g39 : (A 39).getD i 0 = x.2.2.2.2.2.1 := hE.2.2.2.1
    have hed := hV.1.2.1
    have hcl := hV.2.2.2.2.1
    have hit : iz.toNat = i := by omega
    rw [drop_cons hx] at hm
    have hm' : mfold nd (L.drop (i + 1)) (i + 1) (mstep nd i x.2.2 acc) = mfold nd L 0 (-1, -1) := hm
    have hbr := i_rng acc.1
    have no : ¬ (x.2.2.2.2.2.1 = 0 ∧ suit x.2.2.1 nd = true) → yw G d a mX9_meeting 72 [some (.inr 0), some (.inl nd.1.toInt), some (.inl nd.2.1.toInt), some (.inl nd.2.2.toInt), some (.inl bz), some (.inl iz), some (.inl 0)] [] (f, A) (fun w Y' => w = some (.inl (meetI L nd).toInt) ∧ Y' = (f, A)) := by
      intro hn
      have e : mstep nd i x.2.2 acc = acc := if_neg (fun hc => hn ⟨hc.1, hc.2.1⟩)
      rw [e] at hm'
      refine ygo 99999 90 rfl rfl (by first | exact trivial | (simp only [true_and, eq_self, or_true, true_or, and_true, yu, ya, reduceIte, Nat.reduceEqDiff, Int32.reduceToInt, Int.toNat_natCast, Int.reduceToNat]; omega) | decide | (simp; done) | (simp; omega)) ?_
      try simp only [List.map_cons, List.map_nil, List.length_cons, List.length_nil, ylr_s, ylr_0, Nat.reduceAdd, Nat.reduceSub, List.cons_append, List.nil_append, List.set_cons_zero, List.set_cons_succ, Option.toList_none, Option.toList_some, Int32.reduceToInt, yu, ya, reduceIte, Nat.reduceEqDiff, Int.toNat_natCast, Int.reduceToNat]
      refine yi_ifeq rfl (by first | exact yr_t _ | exact yr_b _ | (unfold yr; omega)) (fun c => ?_) (fun c => ?_)
      · refine ygo 6 90 rfl rfl (by first | exact trivial | (simp only [true_and, eq_self, or_true, true_or, and_true, yu, ya, reduceIte, Nat.reduceEqDiff, Int32.reduceToInt, Int.toNat_natCast, Int.reduceToNat]; omega) | decide | (simp; done) | (simp; omega)) ?_
        try simp only [List.map_cons, List.map_nil, List.length_cons, List.length_nil, ylr_s, ylr_0, Nat.reduceAdd, Nat.reduceSub, List.cons_append, List.nil_append, List.set_cons_zero, List.set_cons_succ, Option.toList_none, Option.toList_some, Int32.reduceToInt, yu, ya, reduceIte, Nat.reduceEqDiff, Int.toNat_natCast, Int.reduceToNat]
        exact ih (i + 1) bz _ acc _ (by omega) (by omega) hbz (by
          rcases hacc with ha | ⟨j, y, hj, hy, ha⟩
          · exact Or.inl ha
          · exact Or.inr ⟨j, y, by omega, hy, ha⟩) hm'
      · omega
    have yes : (x.2.2.2.2.2.1 = 0 ∧ suit x.2.2.1 nd = true) → yw G d a mX9_meeting 72 [some (.inr 0), some (.inl nd.1.toInt), some (.inl nd.2.1.toInt), some (.inl nd.2.2.toInt), some (.inl bz), some (.inl iz), some (.inl 1)] [] (f, A) (fun w Y' => w = some (.inl (meetI L nd).toInt) ∧ Y' = (f, A)) := by
      intro hy
      have hin : (nI i).toInt = i := i_n (by omega)
      have take : acc.2 ≤ x.2.2.1.1.2.1 → ∀ iz', iz' = ((i + 1 : Nat) : Int) → yw G d a mX9_meeting 6 [some (.inr 0), some (.inl nd.1.toInt), some (.inl nd.2.1.toInt), some (.inl nd.2.2.toInt), some (.inl iz), some (.inl iz'), some (.inl 1)] [] (f, A) (fun w Y' => w = some (.inl (meetI L nd).toInt) ∧ Y' = (f, A)) := by
        intro hle iz' hz'
        have e : mstep nd i x.2.2 acc = (nI i, x.2.2.1.1.2.1) := if_pos ⟨hy.1, hy.2, hle⟩
        rw [e] at hm'
        exact ih (i + 1) iz iz' _ _ (by omega) hz' (by dsimp only; omega) (Or.inr ⟨i, x, by omega, hx, rfl⟩) hm'
      refine ygo 99999 90 rfl rfl (by first | exact trivial | (simp only [true_and, eq_self, or_true, true_or, and_true, yu, ya, reduceIte, Nat.reduceEqDiff, Int32.reduceToInt, Int.toNat_natCast, Int.reduceToNat]; omega) | decide | (simp; done) | (simp; omega)) ?_
      try simp only [List.map_cons, List.map_nil, List.length_cons, List.length_nil, ylr_s, ylr_0, Nat.reduceAdd, Nat.reduceSub, List.cons_append, List.nil_append, List.set_cons_zero, List.set_cons_succ, Option.toList_none, Option.toList_some, Int32.reduceToInt, yu, ya, reduceIte, Nat.reduceEqDiff, Int.toNat_natCast, Int.reduceToNat]
      refine yi_ifeq rfl (by first | exact yr_t _ | exact yr_b _ | (unfold yr; omega)) (fun c => ?_) (fun c => ?_)
      · omega
      rcases hacc with ha | ⟨j, y, hj, hyj, ha⟩
      · rw [ha] at hbz
        dsimp only at hbz
        refine ygo 99999 90 rfl rfl (by first | exact trivial | (simp only [true_and, eq_self, or_true, true_or, and_true, yu, ya, reduceIte, Nat.reduceEqDiff, Int32.reduceToInt, Int.toNat_natCast, Int.reduceToNat]; omega) | decide | (simp; done) | (simp; omega)) ?_
        try simp only [List.map_cons, List.map_nil, List.length_cons, List.length_nil, ylr_s, ylr_0, Nat.reduceAdd, Nat.reduceSub, List.cons_append, List.nil_append, List.set_cons_zero, List.set_cons_succ, Option.toList_none, Option.toList_some, Int32.reduceToInt, yu, ya, reduceIte, Nat.reduceEqDiff, Int.toNat_natCast, Int.reduceToNat]
        refine yi_iflt rfl (by first | exact yr_t _ | exact yr_b _ | (unfold yr; omega)) (fun c2 => ?_) (fun c2 => ?_)
        · refine ygo 6 90 rfl rfl (by first | exact trivial | (simp only [true_and, eq_self, or_true, true_or, and_true, yu, ya, reduceIte, Nat.reduceEqDiff, Int32.reduceToInt, Int.toNat_natCast, Int.reduceToNat]; omega) | decide | (simp; done) | (simp; omega)) ?_
          try simp only [List.map_cons, List.map_nil, List.length_cons, List.length_nil, ylr_s, ylr_0, Nat.reduceAdd, Nat.reduceSub, List.cons_append, List.nil_append, List.set_cons_zero, List.set_cons_succ, Option.toList_none, Option.toList_some, Int32.reduceToInt, yu, ya, reduceIte, Nat.reduceEqDiff, Int.toNat_natCast, Int.reduceToNat]
          exact take (by rw [ha, i_le]; dsimp only; rw [m1]; have := hed.1; omega) _ (by omega)
        · omega
      · have hjz : (nI j).toInt = j := i_n (by omega)
        rw [ha] at hbz
        dsimp only at hbz
        have gj : (A 37).getD j 0 = y.2.2.1.1.2.1 := (h.2 j y hyj).2.1
        have hjt : bz.toNat = j := by omega
        refine ygo 99999 90 rfl rfl (by first | exact trivial | (simp only [true_and, eq_self, or_true, true_or, and_true, yu, ya, reduceIte, Nat.reduceEqDiff, Int32.reduceToInt, Int.toNat_natCast, Int.reduceToNat]; omega) | decide | (simp; done) | (simp; omega)) ?_
        try simp only [List.map_cons, List.map_nil, List.length_cons, List.length_nil, ylr_s, ylr_0, Nat.reduceAdd, Nat.reduceSub, List.cons_append, List.nil_append, List.set_cons_zero, List.set_cons_succ, Option.toList_none, Option.toList_some, Int32.reduceToInt, yu, ya, reduceIte, Nat.reduceEqDiff, Int.toNat_natCast, Int.reduceToNat]
        refine yi_iflt rfl (by first | exact yr_t _ | exact yr_b _ | (unfold yr; omega)) (fun c2 => ?_) (fun c2 => ?_)
        · omega
        refine ygo 99999 90 rfl rfl (by first | exact trivial | (simp only [true_and, eq_self, or_true, true_or, and_true, yu, ya, reduceIte, Nat.reduceEqDiff, Int32.reduceToInt, Int.toNat_natCast, Int.reduceToNat]; omega) | decide | (simp; done) | (simp; omega)) ?_
        try simp only [List.map_cons, List.map_nil, List.length_cons, List.length_nil, ylr_s, ylr_0, Nat.reduceAdd, Nat.reduceSub, List.cons_append, List.nil_append, List.set_cons_zero, List.set_cons_succ, Option.toList_none, Option.toList_some, Int32.reduceToInt, yu, ya, reduceIte, Nat.reduceEqDiff, Int.toNat_natCast, Int.reduceToNat]
        refine yi_icmplt rfl (by refine ⟨?_, ?_⟩ <;> first | exact yr_t _ | exact yr_b _ | (unfold yr; omega)) (fun c3 => ?_) (fun c3 => ?_)
        · rw [hit, hjt, g37, gj] at c3
          have e : mstep nd i x.2.2 acc = acc := if_neg (fun hc => by have := hc.2.2; rw [ha, i_le] at this; dsimp only at this; omega)
          rw [e] at hm'
          refine ygo 6 90 rfl rfl (by first | exact trivial | (simp only [true_and, eq_self, or_true, true_or, and_true, yu, ya, reduceIte, Nat.reduceEqDiff, Int32.reduceToInt, Int.toNat_natCast, Int.reduceToNat]; omega) | decide | (simp; done) | (simp; omega)) ?_
          try simp only [List.map_cons, List.map_nil, List.length_cons, List.length_nil, ylr_s, ylr_0, Nat.reduceAdd, Nat.reduceSub, List.cons_append, List.nil_append, List.set_cons_zero, List.set_cons_succ, Option.toList_none, Option.toList_some, Int32.reduceToInt, yu, ya, reduceIte, Nat.reduceEqDiff, Int.toNat_natCast, Int.reduceToNat]
          exact ih (i + 1) bz _ acc _ (by omega) (by omega) (by rw [ha]; exact hbz) (Or.inr ⟨j, y, by omega, hyj, ha⟩) hm'
        · rw [hit, hjt, g37, gj] at c3
          refine ygo 6 90 rfl rfl (by first | exact trivial | (simp only [true_and, eq_self, or_true, true_or, and_true, yu, ya, reduceIte, Nat.reduceEqDiff, Int32.reduceToInt, Int.toNat_natCast, Int.reduceToNat]; omega) | decide | (simp; done) | (simp; omega)) ?_
          try simp only [List.map_cons, List.map_nil, List.length_cons, List.length_nil, ylr_s, ylr_0, Nat.reduceAdd, Nat.reduceSub, List.cons_append, List.nil_append, List.set_cons_zero, List.set_cons_succ, Option.toList_none, Option.toList_some, Int32.reduceToInt, yu, ya, reduceIte, Nat.reduceEqDiff, Int.toNat_natCast, Int.reduceToNat]
          exact take (by rw [ha, i_le]; dsimp only; omega) _ (by omega)
    have hsu := suit_iff (K := x.2.2.1) hz
    have t0 : (0 : Int32).toInt = 0 := rfl
    refine ygo 99999 90 rfl rfl (by first | exact trivial | (simp only [true_and, eq_self, or_true, true_or, and_true, yu, ya, reduceIte, Nat.reduceEqDiff, Int32.reduceToInt, Int.toNat_natCast, Int.reduceToNat]; omega) | decide | (simp; done) | (simp; omega)) ?_
    try simp only [List.map_cons, List.map_nil, List.length_cons, List.length_nil, ylr_s, ylr_0, Nat.reduceAdd, Nat.reduceSub, List.cons_append, List.nil_append, List.set_cons_zero, List.set_cons_succ, Option.toList_none, Option.toList_some, Int32.reduceToInt, yu, ya, reduceIte, Nat.reduceEqDiff, Int.toNat_natCast, Int.reduceToNat]
    refine yi_icmpge rfl (by refine ⟨?_, ?_⟩ <;> first | exact yr_t _ | exact yr_b _ | (unfold yr; omega)) (fun c => ?_) (fun c => ?_)
    · omega
    refine ygo 99999 90 rfl rfl (by first | exact trivial | (simp only [true_and, eq_self, or_true, true_or, and_true, yu, ya, reduceIte, Nat.reduceEqDiff, Int32.reduceToInt, Int.toNat_natCast, Int.reduceToNat]; omega) | decide | (simp; done) | (simp; omega)) ?_
    try simp only [List.map_cons, List.map_nil, List.length_cons, List.length_nil, ylr_s, ylr_0, Nat.reduceAdd, Nat.reduceSub, List.cons_append, List.nil_append, List.set_cons_zero, List.set_cons_succ, Option.toList_none, Option.toList_some, Int32.reduceToInt, yu, ya, reduceIte, Nat.reduceEqDiff, Int.toNat_natCast, Int.reduceToNat]
    refine yi_ifne rfl (by first | exact yr_t _ | exact yr_b _ | (unfold yr; omega)) (fun c2 => ?_) (fun c2 => ?_)
    · rw [hit, g39] at c2
      refine ygo 72 90 rfl rfl (by first | exact trivial | (simp only [true_and, eq_self, or_true, true_or, and_true, yu, ya, reduceIte, Nat.reduceEqDiff, Int32.reduceToInt, Int.toNat_natCast, Int.reduceToNat]; omega) | decide | (simp; done) | (simp; omega)) ?_
      try simp only [List.map_cons, List.map_nil, List.length_cons, List.length_nil, ylr_s, ylr_0, Nat.reduceAdd, Nat.reduceSub, List.cons_append, List.nil_append, List.set_cons_zero, List.set_cons_succ, Option.toList_none, Option.toList_some, Int32.reduceToInt, yu, ya, reduceIte, Nat.reduceEqDiff, Int.toNat_natCast, Int.reduceToNat]
      exact no (fun hc => by rw [hc.1] at c2; omega)
    rw [hit, g39] at c2
    have c2' : x.2.2.2.2.2.1 = 0 := by rw [i_eq]; omega
    refine ygo 99999 90 rfl rfl (by first | exact trivial | (simp only [true_and, eq_self, or_true, true_or, and_true, yu, ya, reduceIte, Nat.reduceEqDiff, Int32.reduceToInt, Int.toNat_natCast, Int.reduceToNat]; omega) | decide | (simp; done) | (simp; omega)) ?_
    try simp only [List.map_cons, List.map_nil, List.length_cons, List.length_nil, ylr_s, ylr_0, Nat.reduceAdd, Nat.reduceSub, List.cons_append, List.nil_append, List.set_cons_zero, List.set_cons_succ, Option.toList_none, Option.toList_some, Int32.reduceToInt, yu, ya, reduceIte, Nat.reduceEqDiff, Int.toNat_natCast, Int.reduceToNat]
    refine yi_icmpne rfl (by refine ⟨?_, ?_⟩ <;> first | exact yr_t _ | exact yr_b _ | (unfold yr; omega)) (fun c3 => ?_) (fun c3 => ?_)
    · rw [hit, g36, ti] at c3
      refine ygo 72 90 rfl rfl (by first | exact trivial | (simp only [true_and, eq_self, or_true, true_or, and_true, yu, ya, reduceIte, Nat.reduceEqDiff, Int32.reduceToInt, Int.toNat_natCast, Int.reduceToNat]; omega) | decide | (simp; done) | (simp; omega)) ?_
      try simp only [List.map_cons, List.map_nil, List.length_cons, List.length_nil, ylr_s, ylr_0, Nat.reduceAdd, Nat.reduceSub, List.cons_append, List.nil_append, List.set_cons_zero, List.set_cons_succ, Option.toList_none, Option.toList_some, Int32.reduceToInt, yu, ya, reduceIte, Nat.reduceEqDiff, Int.toNat_natCast, Int.reduceToNat]
      exact no (fun hc => c3 (hsu.mp hc.2).1)
    rw [hit, g36, ti] at c3
    refine ygo 99999 90 rfl rfl (by first | exact trivial | (simp only [true_and, eq_self, or_true, true_or, and_true, yu, ya, reduceIte, Nat.reduceEqDiff, Int32.reduceToInt, Int.toNat_natCast, Int.reduceToNat]; omega) | decide | (simp; done) | (simp; omega)) ?_
    try simp only [List.map_cons, List.map_nil, List.length_cons, List.length_nil, ylr_s, ylr_0, Nat.reduceAdd, Nat.reduceSub, List.cons_append, List.nil_append, List.set_cons_zero, List.set_cons_succ, Option.toList_none, Option.toList_some, Int32.reduceToInt, yu, ya, reduceIte, Nat.reduceEqDiff, Int.toNat_natCast, Int.reduceToNat]
    refine yi_ifeq rfl (by first | exact yr_t _ | exact yr_b _ | (unfold yr; omega)) (fun c4 => ?_) (fun c4 => ?_)
    · have c4' : nd.2.2 = 0 := by rw [i_eq]; omega
      rw [if_pos c4'] at hsu
      refine ygo 99999 90 rfl rfl (by first | exact trivial | (simp only [true_and, eq_self, or_true, true_or, and_true, yu, ya, reduceIte, Nat.reduceEqDiff, Int32.reduceToInt, Int.toNat_natCast, Int.reduceToNat]; omega) | decide | (simp; done) | (simp; omega)) ?_
      try simp only [List.map_cons, List.map_nil, List.length_cons, List.length_nil, ylr_s, ylr_0, Nat.reduceAdd, Nat.reduceSub, List.cons_append, List.nil_append, List.set_cons_zero, List.set_cons_succ, Option.toList_none, Option.toList_some, Int32.reduceToInt, yu, ya, reduceIte, Nat.reduceEqDiff, Int.toNat_natCast, Int.reduceToNat]
      refine yi_icmpgt rfl (by refine ⟨?_, ?_⟩ <;> first | exact yr_t _ | exact yr_b _ | (unfold yr; omega)) (fun c5 => ?_) (fun c5 => ?_)
      · rw [hit, g37] at c5
        refine ygo 72 90 rfl rfl (by first | exact trivial | (simp only [true_and, eq_self, or_true, true_or, and_true, yu, ya, reduceIte, Nat.reduceEqDiff, Int32.reduceToInt, Int.toNat_natCast, Int.reduceToNat]; omega) | decide | (simp; done) | (simp; omega)) ?_
        try simp only [List.map_cons, List.map_nil, List.length_cons, List.length_nil, ylr_s, ylr_0, Nat.reduceAdd, Nat.reduceSub, List.cons_append, List.nil_append, List.set_cons_zero, List.set_cons_succ, Option.toList_none, Option.toList_some, Int32.reduceToInt, yu, ya, reduceIte, Nat.reduceEqDiff, Int.toNat_natCast, Int.reduceToNat]
        exact no (fun hc => by have := (hsu.mp hc.2).2; omega)
      · rw [hit, g37] at c5
        refine ygo 72 90 rfl rfl (by first | exact trivial | (simp only [true_and, eq_self, or_true, true_or, and_true, yu, ya, reduceIte, Nat.reduceEqDiff, Int32.reduceToInt, Int.toNat_natCast, Int.reduceToNat]; omega) | decide | (simp; done) | (simp; omega)) ?_
        try simp only [List.map_cons, List.map_nil, List.length_cons, List.length_nil, ylr_s, ylr_0, Nat.reduceAdd, Nat.reduceSub, List.cons_append, List.nil_append, List.set_cons_zero, List.set_cons_succ, Option.toList_none, Option.toList_some, Int32.reduceToInt, yu, ya, reduceIte, Nat.reduceEqDiff, Int.toNat_natCast, Int.reduceToNat]
        exact yes ⟨c2', hsu.mpr ⟨c3, by omega⟩⟩
    · have c4' : ¬ nd.2.2 = 0 := fun hc => c4 (by rw [hc]; rfl)
      rw [if_neg c4'] at hsu
      refine ygo 99999 90 rfl rfl (by first | exact trivial | (simp only [true_and, eq_self, or_true, true_or, and_true, yu, ya, reduceIte, Nat.reduceEqDiff, Int32.reduceToInt, Int.toNat_natCast, Int.reduceToNat]; omega) | decide | (simp; done) | (simp; omega)) ?_
      try simp only [List.map_cons, List.map_nil, List.length_cons, List.length_nil, ylr_s, ylr_0, Nat.reduceAdd, Nat.reduceSub, List.cons_append, List.nil_append, List.set_cons_zero, List.set_cons_succ, Option.toList_none, Option.toList_some, Int32.reduceToInt, yu, ya, reduceIte, Nat.reduceEqDiff, Int.toNat_natCast, Int.reduceToNat]
      refine yi_icmpne rfl (by refine ⟨?_, ?_⟩ <;> first | exact yr_t _ | exact yr_b _ | (unfold yr; omega)) (fun c5 => ?_) (fun c5 => ?_)
      · rw [hit, g37, ti] at c5
        refine ygo 72 90 rfl rfl (by first | exact trivial | (simp only [true_and, eq_self, or_true, true_or, and_true, yu, ya, reduceIte, Nat.reduceEqDiff, Int32.reduceToInt, Int.toNat_natCast, Int.reduceToNat]; omega) | decide | (simp; done) | (simp; omega)) ?_
        try simp only [List.map_cons, List.map_nil, List.length_cons, List.length_nil, ylr_s, ylr_0, Nat.reduceAdd, Nat.reduceSub, List.cons_append, List.nil_append, List.set_cons_zero, List.set_cons_succ, Option.toList_none, Option.toList_some, Int32.reduceToInt, yu, ya, reduceIte, Nat.reduceEqDiff, Int.toNat_natCast, Int.reduceToNat]
        exact no (fun hc => c5 (hsu.mp hc.2).2)
      · rw [hit, g37, ti] at c5
        refine ygo 72 90 rfl rfl (by first | exact trivial | (simp only [true_and, eq_self, or_true, true_or, and_true, yu, ya, reduceIte, Nat.reduceEqDiff, Int32.reduceToInt, Int.toNat_natCast, Int.reduceToNat]; omega) | decide | (simp; done) | (simp; omega)) ?_
        try simp only [List.map_cons, List.map_nil, List.length_cons, List.length_nil, ylr_s, ylr_0, Nat.reduceAdd, Nat.reduceSub, List.cons_append, List.nil_append, List.set_cons_zero, List.set_cons_succ, Option.toList_none, Option.toList_some, Int32.reduceToInt, yu, ya, reduceIte, Nat.reduceEqDiff, Int.toNat_natCast, Int.reduceToNat]
        exact yes ⟨c2', hsu.mpr ⟨c3, c5⟩⟩
set_option maxRecDepth 100000 in
set_option maxHeartbeats 2000000 in
theorem cm_meeting {G : xG} {d a : Nat} {L : sL} {nd : Int32 × Int32 × Int32} {x1 x2 x3 : Int} {f : Nat → Int} {A : Nat → List Int32} (h : mS L (f, A)) (hk : okS L) (hz : nd.2.2 = 0 ∨ nd.2.2 = 1) (h1 : x1 = nd.1.toInt) (h2 : x2 = nd.2.1.toInt) (h3 : x3 = nd.2.2.toInt) : ym G d a mX9_meeting [.inr 0, .inl x1, .inl x2, .inl x3] (f, A) (fun w Y' => w = some (.inl (meetI L nd).toInt) ∧ Y' = (f, A)) := by
  subst h1 h2 h3
  refine ym_at 7 rfl (by decide) (Nat.le_of_ble_eq_true rfl) tX9_meeting_ok ?_
  try simp only [List.map_cons, List.map_nil, List.length_cons, List.length_nil, ylr_s, ylr_0, Nat.reduceAdd, Nat.reduceSub, List.cons_append, List.nil_append, List.set_cons_zero, List.set_cons_succ, Option.toList_none, Option.toList_some, Int32.reduceToInt, yu, ya, reduceIte, Nat.reduceEqDiff, Int.toNat_natCast, Int.reduceToNat]
  refine ygo 6 90 rfl rfl (by first | exact trivial | (simp only [true_and, eq_self, or_true, true_or, and_true, yu, ya, reduceIte, Nat.reduceEqDiff, Int32.reduceToInt, Int.toNat_natCast, Int.reduceToNat]; omega) | decide | (simp; done) | (simp; omega)) ?_
  try simp only [List.map_cons, List.map_nil, List.length_cons, List.length_nil, ylr_s, ylr_0, Nat.reduceAdd, Nat.reduceSub, List.cons_append, List.nil_append, List.set_cons_zero, List.set_cons_succ, Option.toList_none, Option.toList_some, Int32.reduceToInt, yu, ya, reduceIte, Nat.reduceEqDiff, Int.toNat_natCast, Int.reduceToNat]
  exact l_meeting h hk hz L.length 0 (-1) 0 (-1, -1) none (by omega) rfl rfl (Or.inl rfl) rfl
