theorem ifc {α : Type} {a b : Prop} [Decidable a] [Decidable b] {x y : α} (h : a ↔ b) : (if a then x else y) = if b then x else y := by
  by_cases c : a
  · rw [if_pos c, if_pos (h.mp c)]
  · rw [if_neg c, if_neg (fun z => c (h.mpr z))]
theorem nx_none {bs : List Int32} {lo hi : Int32} {s : pS} (hn : s.2.1 = none) (hb : bs[s.1]? = none) : nxt bs lo hi s = (lo, s.1, some s.1, s.2.2) := by
  have hg1 : bs.getD s.1 (-1) = -1 := by rw [List.getD_eq_getElem?_getD, hb]; rfl
  unfold nxt
  rw [if_neg (by rw [hn]; decide), if_pos (Or.inl hg1)]
theorem nx_some {bs : List Int32} {lo hi : Int32} {q : Nat} {s : pS} (hn : s.2.1 = none) (hb : bs[s.1]? = some (nI q)) (hq : q ≤ 255) (h1 : lo.toInt ≤ q) (h2 : (q : Int) ≤ hi.toInt) : nxt bs lo hi s = (nI q, s.1 + 1, none, s.2.2) := by
  have hqz : (nI q).toInt = q := i_n (by omega)
  have hbne : ¬ nI q = -1 := by
    intro hc
    rw [hc] at hqz
    have : (-1 : Int32).toInt = -1 := rfl
    omega
  unfold nxt
  rw [if_neg (by rw [hn]; decide), getD_s hb, if_neg (by rw [i_lt, i_lt]; intro hc; rcases hc with hc | hc | hc; exact hbne hc; omega; omega), hn]
theorem nx_bad {bs : List Int32} {lo hi : Int32} {q : Nat} {s : pS} (hn : s.2.1 = none) (hb : bs[s.1]? = some (nI q)) (hq : q ≤ 255) (h1 : (q : Int) < lo.toInt ∨ hi.toInt < q) : nxt bs lo hi s = (lo, s.1, some s.1, s.2.2) := by
  have hqz : (nI q).toInt = q := i_n (by omega)
  unfold nxt
  rw [if_neg (by rw [hn]; decide), getD_s hb, if_pos (by right; rw [i_lt, i_lt, hqz]; exact h1)]
def opM (q : Nat) : Nat := if 128 ≤ q then q - 125 else q + 1
def opB (q : Nat) : Nat := if 128 ≤ q then 1 else q + 1
theorem le128 {q : Nat} (h : q ≤ 255) : ((128 : Int32) ≤ nI q) ↔ 128 ≤ q := by
  rw [i_le, i_n (by omega)]
  have : (128 : Int32).toInt = 128 := rfl
  omega
theorem op_q {q : Nat} (h : q ≤ 255) : opSt (nI q) = nI (opM q) ∧ opBh (nI q) = nI (opB q) := by
  unfold opSt opBh opM opB
  by_cases c : 128 ≤ q
  · rw [if_pos ((le128 h).mpr c), if_pos c, if_pos ((le128 h).mpr c), if_pos c]
    exact ⟨nI_subN (b := 125) (by omega), rfl⟩
  · rw [if_neg (fun x => c ((le128 h).mp x)), if_neg c, if_neg (fun x => c ((le128 h).mp x)), if_neg c]
    exact ⟨nI_add q 1, nI_add q 1⟩
theorem hPlain_len {bs : List Int32} {k : Nat} (hk : k < 8) : ∀ (n : Nat) (s : pS), (hLoop (hPlain1 bs k) n s).2.1 = none → (∃ w, s.2.2.1.2.2.2[k]? = some w) → (hLoop (hPlain1 bs k) n s).1 = s.1 + n ∧ (rwb (hLoop (hPlain1 bs k) n s) k).length = (rwb s k).length + n ∧ ∃ w, (hLoop (hPlain1 bs k) n s).2.2.1.2.2.2[k]? = some w := by
  intro n
  induction n with
  | zero => intro s h hw; exact ⟨rfl, rfl, hw⟩
  | succ n ih =>
    intro s h hw
    have hu : hLoop (hPlain1 bs k) (n + 1) s = if s.2.1.isSome = true then s else hLoop (hPlain1 bs k) n (hPlain1 bs k s) := rfl
    rw [hu] at h ⊢
    by_cases c : s.2.1.isSome = true
    · rw [if_pos c] at h
      rw [h] at c; cases c
    · rw [if_neg c] at h ⊢
      obtain ⟨w, hw⟩ := hw
      have hw2 : (nxt bs 0 255 s).2.2.2.1.2.2.2[k]? = some w := by rw [nxt_rest]; exact hw
      have hs := srow_rw (x := rwb s k ++ [(nxt bs 0 255 s).1]) hw2 hk
      obtain ⟨i1, i2, i3⟩ := ih (hPlain1 bs k s) h hs.2
      have hf : (hPlain1 bs k s).2.1 = none := hLoop_fine (fun s hs => by
        have : (nxt bs 0 255 s).2.2.1 = none := hs
        exact (nxt_get this).1) n _ h
      have hg := nxt_get (bs := bs) (lo := 0) (hi := 255) (s := s) hf
      have h1 : (hPlain1 bs k s).1 = s.1 + 1 := by
        show (nxt bs 0 255 s).2.1 = _
        rw [hg.2.2.1]
      have h2 : (rwb (hPlain1 bs k s) k).length = (rwb s k).length + 1 := by
        show (rwb (srow k (rwb s k ++ [(nxt bs 0 255 s).1]) (nxt bs 0 255 s).2) k).length = _
        rw [hs.1, List.length_append]; rfl
      exact ⟨by omega, by omega, i3⟩
set_option maxRecDepth 100000 in
set_option maxHeartbeats 2000000 in
theorem l_opsPlain {G : xG} {d a pk k m : Nat} {Z : pZ} {bs : List Int32} {x1 x2 ez lz oz mz bz : Int} {Y0 : yS} {Q : Option yv → yS → Prop} (hp : pkd Z pk bs) (hbz : bz = m) (hm : m ≤ 1000) (ho : oz < 128) (ho1 : -1 ≤ oz) : ∀ (n i : Nat) (iz : Int) (s : pS) (x9 : Option yv) (f : Nat → Int) (A : Nat → List Int32), i + n = m → iz = i → mRd Z pk bs s (f, A) → fkp Y0 (f, A) → (∀ (f' : Nat → Int) (A' : Nat → List Int32) (x8 x9 : Option yv), mRd Z pk bs (hLoop (hPlain1 bs k) n s) (f', A') → fkp Y0 (f', A') → yw G (d + 2) a mX9_readOps 176 [some (.inr 0), some (.inl x1), some (.inl x2), some (.inl ez), some (.inl lz), some (.inl oz), some (.inl mz), some (.inl bz), x8, x9] [] (f', A') Q) →
    yw G (d + 2) a mX9_readOps 110 [some (.inr 0), some (.inl x1), some (.inl x2), some (.inl ez), some (.inl lz), some (.inl oz), some (.inl mz), some (.inl bz), some (.inl iz), x9] [] (f, A) Q := by
  intro n
  induction n with
  | zero =>
    intro i iz s x9 f A hi hiz h hk0 hQ
    refine ygo 99999 90 rfl rfl (by first | exact trivial | (simp only [true_and, eq_self, or_true, true_or, and_true, yu, ya, reduceIte, Nat.reduceEqDiff, Int32.reduceToInt, Int.toNat_natCast, Int.reduceToNat]; omega) | decide | (simp; done) | (simp; omega)) ?_
    try simp only [List.map_cons, List.map_nil, List.length_cons, List.length_nil, ylr_s, ylr_0, Nat.reduceAdd, Nat.reduceSub, List.cons_append, List.nil_append, List.set_cons_zero, List.set_cons_succ, Option.toList_none, Option.toList_some, Int32.reduceToInt, yu, ya, reduceIte, Nat.reduceEqDiff, Int.toNat_natCast, Int.reduceToNat]
    refine yi_icmpge rfl (by refine ⟨?_, ?_⟩ <;> first | exact yr_t _ | exact yr_b _ | (unfold yr; omega)) (fun c => ?_) (fun c => ?_)
    · exact hQ f A _ _ h hk0
    · omega
  | succ n ih =>
    intro i iz s x9 f A hi hiz h hk0 hQ
    have h24 : f 24 = oZ s.2.1 := h.2.2.1
    refine ygo 99999 90 rfl rfl (by first | exact trivial | (simp only [true_and, eq_self, or_true, true_or, and_true, yu, ya, reduceIte, Nat.reduceEqDiff, Int32.reduceToInt, Int.toNat_natCast, Int.reduceToNat]; omega) | decide | (simp; done) | (simp; omega)) ?_
    try simp only [List.map_cons, List.map_nil, List.length_cons, List.length_nil, ylr_s, ylr_0, Nat.reduceAdd, Nat.reduceSub, List.cons_append, List.nil_append, List.set_cons_zero, List.set_cons_succ, Option.toList_none, Option.toList_some, Int32.reduceToInt, yu, ya, reduceIte, Nat.reduceEqDiff, Int.toNat_natCast, Int.reduceToNat]
    refine yi_icmpge rfl (by refine ⟨?_, ?_⟩ <;> first | exact yr_t _ | exact yr_b _ | (unfold yr; omega)) (fun c => ?_) (fun c => ?_)
    · omega
    cases hw : s.2.1 with
    | some w =>
      have hsm : s.2.1.isSome = true := by rw [hw]; rfl
      have hz : f 24 = w := by rw [h24, hw]; rfl
      have hwl := h.2.2.2.2.2.2 w hw
      obtain ⟨xp, hxp, hxb, hp16, hlb, hbb⟩ := id hp
      rw [hLoop_wrong hsm] at hQ
      refine ygo 99999 90 rfl rfl (by first | exact trivial | (simp only [true_and, eq_self, or_true, true_or, and_true, yu, ya, reduceIte, Nat.reduceEqDiff, Int32.reduceToInt, Int.toNat_natCast, Int.reduceToNat]; omega) | decide | (simp; done) | (simp; omega)) ?_
      try simp only [List.map_cons, List.map_nil, List.length_cons, List.length_nil, ylr_s, ylr_0, Nat.reduceAdd, Nat.reduceSub, List.cons_append, List.nil_append, List.set_cons_zero, List.set_cons_succ, Option.toList_none, Option.toList_some, Int32.reduceToInt, yu, ya, reduceIte, Nat.reduceEqDiff, Int.toNat_natCast, Int.reduceToNat]
      refine yi_ifge rfl (by first | exact yr_t _ | exact yr_b _ | (unfold yr; omega)) (fun c2 => ?_) (fun c2 => ?_)
      · exact hQ f A _ _ h hk0
      · omega
    | none =>
      have hz : f 24 = -1 := by rw [h24, hw]; rfl
      have hu : hLoop (hPlain1 bs k) (n + 1) s = hLoop (hPlain1 bs k) n (hPlain1 bs k s) := by
        show (if s.2.1.isSome = true then s else hLoop (hPlain1 bs k) n (hPlain1 bs k s)) = _
        rw [if_neg (by rw [hw]; decide)]
      rw [hu] at hQ
      refine ygo 99999 90 rfl rfl (by first | exact trivial | (simp only [true_and, eq_self, or_true, true_or, and_true, yu, ya, reduceIte, Nat.reduceEqDiff, Int32.reduceToInt, Int.toNat_natCast, Int.reduceToNat]; omega) | decide | (simp; done) | (simp; omega)) ?_
      try simp only [List.map_cons, List.map_nil, List.length_cons, List.length_nil, ylr_s, ylr_0, Nat.reduceAdd, Nat.reduceSub, List.cons_append, List.nil_append, List.set_cons_zero, List.set_cons_succ, Option.toList_none, Option.toList_some, Int32.reduceToInt, yu, ya, reduceIte, Nat.reduceEqDiff, Int.toNat_natCast, Int.reduceToNat]
      refine yi_ifge rfl (by first | exact yr_t _ | exact yr_b _ | (unfold yr; omega)) (fun c2 => ?_) (fun c2 => ?_)
      · omega
      refine ygo 99999 90 rfl rfl (by first | exact trivial | (simp only [true_and, eq_self, or_true, true_or, and_true, yu, ya, reduceIte, Nat.reduceEqDiff, Int32.reduceToInt, Int.toNat_natCast, Int.reduceToNat]; omega) | decide | (simp; done) | (simp; omega)) ?_
      try simp only [List.map_cons, List.map_nil, List.length_cons, List.length_nil, ylr_s, ylr_0, Nat.reduceAdd, Nat.reduceSub, List.cons_append, List.nil_append, List.set_cons_zero, List.set_cons_succ, Option.toList_none, Option.toList_some, Int32.reduceToInt, yu, ya, reduceIte, Nat.reduceEqDiff, Int.toNat_natCast, Int.reduceToNat]
      refine ycV rfl rfl rfl (cm_want (most := 255) h hp rfl (by decide)) rfl kX9_want iX9_want rfl rfl rfl (Nat.le_of_ble_eq_true rfl) (fun v1 Y1 q1 => ?_)
      obtain ⟨rfl, h1, k1⟩ := q1
      obtain ⟨f1, A1⟩ := Y1
      refine ygo 99999 90 rfl rfl (by first | exact trivial | (simp only [true_and, eq_self, or_true, true_or, and_true, yu, ya, reduceIte, Nat.reduceEqDiff, Int32.reduceToInt, Int.toNat_natCast, Int.reduceToNat]; omega) | decide | (simp; done) | (simp; omega)) ?_
      try simp only [List.map_cons, List.map_nil, List.length_cons, List.length_nil, ylr_s, ylr_0, Nat.reduceAdd, Nat.reduceSub, List.cons_append, List.nil_append, List.set_cons_zero, List.set_cons_succ, Option.toList_none, Option.toList_some, Int32.reduceToInt, yu, ya, reduceIte, Nat.reduceEqDiff, Int.toNat_natCast, Int.reduceToNat]
      refine yi_icmplt rfl (by refine ⟨?_, ?_⟩ <;> first | exact yr_t _ | exact yr_b _ | (unfold yr; omega)) (fun c3 => ?_) (fun c3 => ?_)
      · refine ygo 110 90 rfl rfl (by first | exact trivial | (simp only [true_and, eq_self, or_true, true_or, and_true, yu, ya, reduceIte, Nat.reduceEqDiff, Int32.reduceToInt, Int.toNat_natCast, Int.reduceToNat]; omega) | decide | (simp; done) | (simp; omega)) ?_
        try simp only [List.map_cons, List.map_nil, List.length_cons, List.length_nil, ylr_s, ylr_0, Nat.reduceAdd, Nat.reduceSub, List.cons_append, List.nil_append, List.set_cons_zero, List.set_cons_succ, Option.toList_none, Option.toList_some, Int32.reduceToInt, yu, ya, reduceIte, Nat.reduceEqDiff, Int.toNat_natCast, Int.reduceToNat]
        exact ih (i + 1) _ (hPlain1 bs k s) _ f1 A1 (by omega) (by omega) (h1.say hPlain1_p.1 hPlain1_p.2) (hk0.tr k1) hQ
      · omega
set_option maxRecDepth 100000 in
set_option maxHeartbeats 2000000 in
theorem l_readOps {G : xG} {d a pk k e lr : Nat} {Z : pZ} {bs : List Int32} {x1 x2 ez : Int} {Y0 : yS} {F : pS} (hp : pkd Z pk bs) (hk8 : k < 8) (hez : ez = e) (he : e ≤ 1000) (hlr : lr ≤ 120) (hx1 : x1 = lr) : ∀ (n : Nat) (lz : Int) (s : pS) (x5 x6 x7 x8 x9 : Option yv) (f : Nat → Int) (A : Nat → List Int32), (s.2.1 = none → e ≤ s.1 + n ∧ lz = (lr : Int) - (rwb s k).length ∧ (rwb s k).length ≤ lr ∧ ∃ w, s.2.2.1.2.2.2[k]? = some w) → yr lz → hLack k (nI lr) (hUntil (hOps1 bs k e (nI lr)) e n s) = F → mRd Z pk bs s (f, A) → fkp Y0 (f, A) →
    yw G (d + 2) a mX9_readOps 10 [some (.inr 0), some (.inl x1), some (.inl x2), some (.inl ez), some (.inl lz), x5, x6, x7, x8, x9] [] (f, A) (fun w Y' => w = none ∧ mRd Z pk bs F Y' ∧ fkp Y0 Y') := by
  obtain ⟨xp, hxp, hxb, hp16, hlb, hbb⟩ := id hp
  have done : ∀ (lz : Int) (s : pS) (x5 x6 x7 x8 x9 : Option yv) (f : Nat → Int) (A : Nat → List Int32), (s.2.1 = none → e ≤ s.1 ∧ lz = (lr : Int) - (rwb s k).length ∧ (rwb s k).length ≤ lr) → yr lz → hLack k (nI lr) s = F → mRd Z pk bs s (f, A) → fkp Y0 (f, A) → yw G (d + 2) a mX9_readOps 186 [some (.inr 0), some (.inl x1), some (.inl x2), some (.inl ez), some (.inl lz), x5, x6, x7, x8, x9] [] (f, A) (fun w Y' => w = none ∧ mRd Z pk bs F Y' ∧ fkp Y0 Y') := by
    intro lz s x5 x6 x7 x8 x9 f A hfine hy hF h hk0
    have h24 : f 24 = oZ s.2.1 := h.2.2.1
    have h22b : f 22 ≤ bs.length := h.2.2.2.2.1
    unfold yr at hy
    cases hw : s.2.1 with
    | some w =>
      have hwl := h.2.2.2.2.2.2 w hw
      have hFs : F = s := by
        rw [← hF]
        unfold hLack
        split
        · exact refS_w (by rw [hw]; rfl)
        · rfl
      have hz : f 24 = w := by rw [h24, hw]; rfl
      rw [hFs]
      refine ygo 99999 90 rfl rfl (by first | exact trivial | (simp only [true_and, eq_self, or_true, true_or, and_true, yu, ya, reduceIte, Nat.reduceEqDiff, Int32.reduceToInt, Int.toNat_natCast, Int.reduceToNat]; omega) | decide | (simp; done) | (simp; omega)) ?_
      try simp only [List.map_cons, List.map_nil, List.length_cons, List.length_nil, ylr_s, ylr_0, Nat.reduceAdd, Nat.reduceSub, List.cons_append, List.nil_append, List.set_cons_zero, List.set_cons_succ, Option.toList_none, Option.toList_some, Int32.reduceToInt, yu, ya, reduceIte, Nat.reduceEqDiff, Int.toNat_natCast, Int.reduceToNat]
      refine yi_ifge rfl (by first | exact yr_t _ | exact yr_b _ | (unfold yr; omega)) (fun c => ?_) (fun c => ?_)
      · refine ygo 99999 90 rfl rfl (by first | exact trivial | (simp only [true_and, eq_self, or_true, true_or, and_true, yu, ya, reduceIte, Nat.reduceEqDiff, Int32.reduceToInt, Int.toNat_natCast, Int.reduceToNat]; omega) | decide | (simp; done) | (simp; omega)) ?_
        try simp only [List.map_cons, List.map_nil, List.length_cons, List.length_nil, ylr_s, ylr_0, Nat.reduceAdd, Nat.reduceSub, List.cons_append, List.nil_append, List.set_cons_zero, List.set_cons_succ, Option.toList_none, Option.toList_some, Int32.reduceToInt, yu, ya, reduceIte, Nat.reduceEqDiff, Int.toNat_natCast, Int.reduceToNat]
        refine yi_ret_v rfl rfl ⟨rfl, h, hk0⟩
      · omega
    | none =>
      have hz : f 24 = -1 := by rw [h24, hw]; rfl
      have hf := hfine hw
      have hcond : (0 < nI lr - nI (rwb s k).length) ↔ 0 < lz := by
        rw [nI_subN hf.2.2, i_lt, i_n (by omega)]
        have : (0 : Int32).toInt = 0 := rfl
        omega
      have h22 : f 22 = s.1 := h.2.2.2.2.2.1 hw
      refine ygo 99999 90 rfl rfl (by first | exact trivial | (simp only [true_and, eq_self, or_true, true_or, and_true, yu, ya, reduceIte, Nat.reduceEqDiff, Int32.reduceToInt, Int.toNat_natCast, Int.reduceToNat]; omega) | decide | (simp; done) | (simp; omega)) ?_
      try simp only [List.map_cons, List.map_nil, List.length_cons, List.length_nil, ylr_s, ylr_0, Nat.reduceAdd, Nat.reduceSub, List.cons_append, List.nil_append, List.set_cons_zero, List.set_cons_succ, Option.toList_none, Option.toList_some, Int32.reduceToInt, yu, ya, reduceIte, Nat.reduceEqDiff, Int.toNat_natCast, Int.reduceToNat]
      refine yi_ifge rfl (by first | exact yr_t _ | exact yr_b _ | (unfold yr; omega)) (fun c => ?_) (fun c => ?_)
      · omega
      refine ygo 99999 90 rfl rfl (by first | exact trivial | (simp only [true_and, eq_self, or_true, true_or, and_true, yu, ya, reduceIte, Nat.reduceEqDiff, Int32.reduceToInt, Int.toNat_natCast, Int.reduceToNat]; omega) | decide | (simp; done) | (simp; omega)) ?_
      try simp only [List.map_cons, List.map_nil, List.length_cons, List.length_nil, ylr_s, ylr_0, Nat.reduceAdd, Nat.reduceSub, List.cons_append, List.nil_append, List.set_cons_zero, List.set_cons_succ, Option.toList_none, Option.toList_some, Int32.reduceToInt, yu, ya, reduceIte, Nat.reduceEqDiff, Int.toNat_natCast, Int.reduceToNat]
      refine yi_ifle rfl (by first | exact yr_t _ | exact yr_b _ | (unfold yr; omega)) (fun c2 => ?_) (fun c2 => ?_)
      · have hFs : F = s := by
          rw [← hF]
          unfold hLack
          rw [if_neg (fun hc => by have := hcond.mp hc; omega)]
        rw [hFs]
        refine ygo 99999 90 rfl rfl (by first | exact trivial | (simp only [true_and, eq_self, or_true, true_or, and_true, yu, ya, reduceIte, Nat.reduceEqDiff, Int32.reduceToInt, Int.toNat_natCast, Int.reduceToNat]; omega) | decide | (simp; done) | (simp; omega)) ?_
        try simp only [List.map_cons, List.map_nil, List.length_cons, List.length_nil, ylr_s, ylr_0, Nat.reduceAdd, Nat.reduceSub, List.cons_append, List.nil_append, List.set_cons_zero, List.set_cons_succ, Option.toList_none, Option.toList_some, Int32.reduceToInt, yu, ya, reduceIte, Nat.reduceEqDiff, Int.toNat_natCast, Int.reduceToNat]
        refine yi_ret_v rfl rfl ⟨rfl, h, hk0⟩
      · have hFs : F = refS s.1 s := by
          rw [← hF]
          unfold hLack
          rw [if_pos (hcond.mpr (by omega))]
        have hr := mRd_ref (x := s.1) h hw (by omega)
        rw [hFs]
        refine ygo 99999 90 rfl rfl (by first | exact trivial | (simp only [true_and, eq_self, or_true, true_or, and_true, yu, ya, reduceIte, Nat.reduceEqDiff, Int32.reduceToInt, Int.toNat_natCast, Int.reduceToNat]; omega) | decide | (simp; done) | (simp; omega)) ?_
        try simp only [List.map_cons, List.map_nil, List.length_cons, List.length_nil, ylr_s, ylr_0, Nat.reduceAdd, Nat.reduceSub, List.cons_append, List.nil_append, List.set_cons_zero, List.set_cons_succ, Option.toList_none, Option.toList_some, Int32.reduceToInt, yu, ya, reduceIte, Nat.reduceEqDiff, Int.toNat_natCast, Int.reduceToNat]
        rw [h22]
        refine yi_ret_v rfl rfl ⟨rfl, hr, hk0.tr fkp.f24⟩
  intro n
  induction n with
  | zero =>
    intro lz s x5 x6 x7 x8 x9 f A hfine hy hF h hk0
    have h24 : f 24 = oZ s.2.1 := h.2.2.1
    have h22a : 0 ≤ f 22 := h.2.2.2.1
    have h22b : f 22 ≤ bs.length := h.2.2.2.2.1
    have hF' : hLack k (nI lr) s = F := hF
    have hd := done lz s x5 x6 x7 x8 x9 f A (fun hn => by have := hfine hn; exact ⟨by omega, this.2.1, this.2.2.1⟩) hy hF' h hk0
    refine ygo 99999 90 rfl rfl (by first | exact trivial | (simp only [true_and, eq_self, or_true, true_or, and_true, yu, ya, reduceIte, Nat.reduceEqDiff, Int32.reduceToInt, Int.toNat_natCast, Int.reduceToNat]; omega) | decide | (simp; done) | (simp; omega)) ?_
    try simp only [List.map_cons, List.map_nil, List.length_cons, List.length_nil, ylr_s, ylr_0, Nat.reduceAdd, Nat.reduceSub, List.cons_append, List.nil_append, List.set_cons_zero, List.set_cons_succ, Option.toList_none, Option.toList_some, Int32.reduceToInt, yu, ya, reduceIte, Nat.reduceEqDiff, Int.toNat_natCast, Int.reduceToNat]
    refine yi_icmpge rfl (by refine ⟨?_, ?_⟩ <;> first | exact yr_t _ | exact yr_b _ | (unfold yr; omega)) (fun c => ?_) (fun c => ?_)
    · exact hd
    cases hw : s.2.1 with
    | none =>
      have := hfine hw
      have h22 : f 22 = s.1 := h.2.2.2.2.2.1 hw
      omega
    | some w =>
      have hwl := h.2.2.2.2.2.2 w hw
      have hz : f 24 = w := by rw [h24, hw]; rfl
      refine ygo 99999 90 rfl rfl (by first | exact trivial | (simp only [true_and, eq_self, or_true, true_or, and_true, yu, ya, reduceIte, Nat.reduceEqDiff, Int32.reduceToInt, Int.toNat_natCast, Int.reduceToNat]; omega) | decide | (simp; done) | (simp; omega)) ?_
      try simp only [List.map_cons, List.map_nil, List.length_cons, List.length_nil, ylr_s, ylr_0, Nat.reduceAdd, Nat.reduceSub, List.cons_append, List.nil_append, List.set_cons_zero, List.set_cons_succ, Option.toList_none, Option.toList_some, Int32.reduceToInt, yu, ya, reduceIte, Nat.reduceEqDiff, Int.toNat_natCast, Int.reduceToNat]
      refine yi_ifge rfl (by first | exact yr_t _ | exact yr_b _ | (unfold yr; omega)) (fun c2 => ?_) (fun c2 => ?_)
      · exact hd
      · omega
  | succ n ih =>
    intro lz s x5 x6 x7 x8 x9 f A hfine hy hF h hk0
    have h24 : f 24 = oZ s.2.1 := h.2.2.1
    have h22a : 0 ≤ f 22 := h.2.2.2.1
    have h22b : f 22 ≤ bs.length := h.2.2.2.2.1
    have hU : hUntil (hOps1 bs k e (nI lr)) e (n + 1) s = if e ≤ s.1 ∨ s.2.1.isSome = true then s else hUntil (hOps1 bs k e (nI lr)) e n (hOps1 bs k e (nI lr) s) := rfl
    rw [hU] at hF
    cases hw : s.2.1 with
    | some w =>
      have hwl := h.2.2.2.2.2.2 w hw
      have hz : f 24 = w := by rw [h24, hw]; rfl
      rw [if_pos (Or.inr (by rw [hw]; rfl))] at hF
      have hd := done lz s x5 x6 x7 x8 x9 f A (fun hn => by rw [hw] at hn; cases hn) hy hF h hk0
      refine ygo 99999 90 rfl rfl (by first | exact trivial | (simp only [true_and, eq_self, or_true, true_or, and_true, yu, ya, reduceIte, Nat.reduceEqDiff, Int32.reduceToInt, Int.toNat_natCast, Int.reduceToNat]; omega) | decide | (simp; done) | (simp; omega)) ?_
      try simp only [List.map_cons, List.map_nil, List.length_cons, List.length_nil, ylr_s, ylr_0, Nat.reduceAdd, Nat.reduceSub, List.cons_append, List.nil_append, List.set_cons_zero, List.set_cons_succ, Option.toList_none, Option.toList_some, Int32.reduceToInt, yu, ya, reduceIte, Nat.reduceEqDiff, Int.toNat_natCast, Int.reduceToNat]
      refine yi_icmpge rfl (by refine ⟨?_, ?_⟩ <;> first | exact yr_t _ | exact yr_b _ | (unfold yr; omega)) (fun c => ?_) (fun c => ?_)
      · exact hd
      refine ygo 99999 90 rfl rfl (by first | exact trivial | (simp only [true_and, eq_self, or_true, true_or, and_true, yu, ya, reduceIte, Nat.reduceEqDiff, Int32.reduceToInt, Int.toNat_natCast, Int.reduceToNat]; omega) | decide | (simp; done) | (simp; omega)) ?_
      try simp only [List.map_cons, List.map_nil, List.length_cons, List.length_nil, ylr_s, ylr_0, Nat.reduceAdd, Nat.reduceSub, List.cons_append, List.nil_append, List.set_cons_zero, List.set_cons_succ, Option.toList_none, Option.toList_some, Int32.reduceToInt, yu, ya, reduceIte, Nat.reduceEqDiff, Int.toNat_natCast, Int.reduceToNat]
      refine yi_ifge rfl (by first | exact yr_t _ | exact yr_b _ | (unfold yr; omega)) (fun c2 => ?_) (fun c2 => ?_)
      · exact hd
      · omega
    | none =>
      have hf := hfine hw
      have hz : f 24 = -1 := by rw [h24, hw]; rfl
      have h22 : f 22 = s.1 := h.2.2.2.2.2.1 hw
      by_cases hes : e ≤ s.1
      · rw [if_pos (Or.inl hes)] at hF
        have hd := done lz s x5 x6 x7 x8 x9 f A (fun hn => ⟨hes, hf.2.1, hf.2.2.1⟩) hy hF h hk0
        refine ygo 99999 90 rfl rfl (by first | exact trivial | (simp only [true_and, eq_self, or_true, true_or, and_true, yu, ya, reduceIte, Nat.reduceEqDiff, Int32.reduceToInt, Int.toNat_natCast, Int.reduceToNat]; omega) | decide | (simp; done) | (simp; omega)) ?_
        try simp only [List.map_cons, List.map_nil, List.length_cons, List.length_nil, ylr_s, ylr_0, Nat.reduceAdd, Nat.reduceSub, List.cons_append, List.nil_append, List.set_cons_zero, List.set_cons_succ, Option.toList_none, Option.toList_some, Int32.reduceToInt, yu, ya, reduceIte, Nat.reduceEqDiff, Int.toNat_natCast, Int.reduceToNat]
        refine yi_icmpge rfl (by refine ⟨?_, ?_⟩ <;> first | exact yr_t _ | exact yr_b _ | (unfold yr; omega)) (fun c => ?_) (fun c => ?_)
        · exact hd
        · omega
      · rw [if_neg (by rw [hw]; intro hc; rcases hc with hc | hc; exact hes hc; cases hc)] at hF
        obtain ⟨w, hwk⟩ := hf.2.2.2
        have hlen0 : (rwb s k).length ≤ 120 := by omega
        have hlz : 0 ≤ lz ∧ lz ≤ 120 := by omega
        have z0 : (0 : Int32).toInt = 0 := rfl
        have z1 : (1 : Int32).toInt = 1 := rfl
        have z255 : (255 : Int32).toInt = 255 := rfl
        refine ygo 99999 90 rfl rfl (by first | exact trivial | (simp only [true_and, eq_self, or_true, true_or, and_true, yu, ya, reduceIte, Nat.reduceEqDiff, Int32.reduceToInt, Int.toNat_natCast, Int.reduceToNat]; omega) | decide | (simp; done) | (simp; omega)) ?_
        try simp only [List.map_cons, List.map_nil, List.length_cons, List.length_nil, ylr_s, ylr_0, Nat.reduceAdd, Nat.reduceSub, List.cons_append, List.nil_append, List.set_cons_zero, List.set_cons_succ, Option.toList_none, Option.toList_some, Int32.reduceToInt, yu, ya, reduceIte, Nat.reduceEqDiff, Int.toNat_natCast, Int.reduceToNat]
        refine yi_icmpge rfl (by refine ⟨?_, ?_⟩ <;> first | exact yr_t _ | exact yr_b _ | (unfold yr; omega)) (fun c => ?_) (fun c => ?_)
        · omega
        refine ygo 99999 90 rfl rfl (by first | exact trivial | (simp only [true_and, eq_self, or_true, true_or, and_true, yu, ya, reduceIte, Nat.reduceEqDiff, Int32.reduceToInt, Int.toNat_natCast, Int.reduceToNat]; omega) | decide | (simp; done) | (simp; omega)) ?_
        try simp only [List.map_cons, List.map_nil, List.length_cons, List.length_nil, ylr_s, ylr_0, Nat.reduceAdd, Nat.reduceSub, List.cons_append, List.nil_append, List.set_cons_zero, List.set_cons_succ, Option.toList_none, Option.toList_some, Int32.reduceToInt, yu, ya, reduceIte, Nat.reduceEqDiff, Int.toNat_natCast, Int.reduceToNat]
        refine yi_ifge rfl (by first | exact yr_t _ | exact yr_b _ | (unfold yr; omega)) (fun c2 => ?_) (fun c2 => ?_)
        · omega
        refine ygo 99999 90 rfl rfl (by first | exact trivial | (simp only [true_and, eq_self, or_true, true_or, and_true, yu, ya, reduceIte, Nat.reduceEqDiff, Int32.reduceToInt, Int.toNat_natCast, Int.reduceToNat]; omega) | decide | (simp; done) | (simp; omega)) ?_
        try simp only [List.map_cons, List.map_nil, List.length_cons, List.length_nil, ylr_s, ylr_0, Nat.reduceAdd, Nat.reduceSub, List.cons_append, List.nil_append, List.set_cons_zero, List.set_cons_succ, Option.toList_none, Option.toList_some, Int32.reduceToInt, yu, ya, reduceIte, Nat.reduceEqDiff, Int.toNat_natCast, Int.reduceToNat]
        refine ycV rfl rfl rfl (cm_want (most := 255) h hp rfl (by decide)) rfl kX9_want iX9_want rfl rfl rfl (Nat.le_of_ble_eq_true rfl) (fun v1 Y1 q1 => ?_)
        obtain ⟨rfl, h1, k1⟩ := q1
        obtain ⟨f1, A1⟩ := Y1
        have hk1 := hk0.tr k1
        cases hb : bs[s.1]? with
        | none =>
          have hg1 : bs.getD s.1 (-1) = -1 := by rw [List.getD_eq_getElem?_getD, hb]; rfl
          have e1 : nxt bs 0 255 s = (0, s.1, some s.1, s.2.2) := by
            unfold nxt
            rw [if_neg (by rw [hw]; decide), if_pos (Or.inl hg1)]
          have hwv : wv (nxt bs 0 255 s) = -1 := by rw [e1]; rfl
          rw [e1] at h1
          rw [hwv]
          have hO : hOps1 bs k e (nI lr) s = (s.1, some s.1, s.2.2) := by
            unfold hOps1
            rw [e1]
            dsimp only
            rw [if_neg (by decide), refif_w rfl]
            exact hLoop_wrong rfl
          rw [hO] at hF
          refine ygo 99999 90 rfl rfl (by first | exact trivial | (simp only [true_and, eq_self, or_true, true_or, and_true, yu, ya, reduceIte, Nat.reduceEqDiff, Int32.reduceToInt, Int.toNat_natCast, Int.reduceToNat]; omega) | decide | (simp; done) | (simp; omega)) ?_
          try simp only [List.map_cons, List.map_nil, List.length_cons, List.length_nil, ylr_s, ylr_0, Nat.reduceAdd, Nat.reduceSub, List.cons_append, List.nil_append, List.set_cons_zero, List.set_cons_succ, Option.toList_none, Option.toList_some, Int32.reduceToInt, yu, ya, reduceIte, Nat.reduceEqDiff, Int.toNat_natCast, Int.reduceToNat]
          refine yi_icmpge rfl (by refine ⟨?_, ?_⟩ <;> first | exact yr_t _ | exact yr_b _ | (unfold yr; omega)) (fun c3 => ?_) (fun c3 => ?_)
          · omega
          refine ygo 99999 90 rfl rfl (by first | exact trivial | (simp only [true_and, eq_self, or_true, true_or, and_true, yu, ya, reduceIte, Nat.reduceEqDiff, Int32.reduceToInt, Int.toNat_natCast, Int.reduceToNat]; omega) | decide | (simp; done) | (simp; omega)) ?_
          try simp only [List.map_cons, List.map_nil, List.length_cons, List.length_nil, ylr_s, ylr_0, Nat.reduceAdd, Nat.reduceSub, List.cons_append, List.nil_append, List.set_cons_zero, List.set_cons_succ, Option.toList_none, Option.toList_some, Int32.reduceToInt, yu, ya, reduceIte, Nat.reduceEqDiff, Int.toNat_natCast, Int.reduceToNat]
          refine yi_icmpge rfl (by refine ⟨?_, ?_⟩ <;> first | exact yr_t _ | exact yr_b _ | (unfold yr; omega)) (fun c4 => ?_) (fun c4 => ?_)
          · omega
          refine ygo 99999 90 rfl rfl (by first | exact trivial | (simp only [true_and, eq_self, or_true, true_or, and_true, yu, ya, reduceIte, Nat.reduceEqDiff, Int32.reduceToInt, Int.toNat_natCast, Int.reduceToNat]; omega) | decide | (simp; done) | (simp; omega)) ?_
          try simp only [List.map_cons, List.map_nil, List.length_cons, List.length_nil, ylr_s, ylr_0, Nat.reduceAdd, Nat.reduceSub, List.cons_append, List.nil_append, List.set_cons_zero, List.set_cons_succ, Option.toList_none, Option.toList_some, Int32.reduceToInt, yu, ya, reduceIte, Nat.reduceEqDiff, Int.toNat_natCast, Int.reduceToNat]
          refine yi_iflt rfl (by first | exact yr_t _ | exact yr_b _ | (unfold yr; omega)) (fun c5 => ?_) (fun c5 => ?_)
          · refine ygo 110 90 rfl rfl (by first | exact trivial | (simp only [true_and, eq_self, or_true, true_or, and_true, yu, ya, reduceIte, Nat.reduceEqDiff, Int32.reduceToInt, Int.toNat_natCast, Int.reduceToNat]; omega) | decide | (simp; done) | (simp; omega)) ?_
            try simp only [List.map_cons, List.map_nil, List.length_cons, List.length_nil, ylr_s, ylr_0, Nat.reduceAdd, Nat.reduceSub, List.cons_append, List.nil_append, List.set_cons_zero, List.set_cons_succ, Option.toList_none, Option.toList_some, Int32.reduceToInt, yu, ya, reduceIte, Nat.reduceEqDiff, Int.toNat_natCast, Int.reduceToNat]
            refine ygo 99999 90 rfl rfl (by first | exact trivial | (simp only [true_and, eq_self, or_true, true_or, and_true, yu, ya, reduceIte, Nat.reduceEqDiff, Int32.reduceToInt, Int.toNat_natCast, Int.reduceToNat]; omega) | decide | (simp; done) | (simp; omega)) ?_
            try simp only [List.map_cons, List.map_nil, List.length_cons, List.length_nil, ylr_s, ylr_0, Nat.reduceAdd, Nat.reduceSub, List.cons_append, List.nil_append, List.set_cons_zero, List.set_cons_succ, Option.toList_none, Option.toList_some, Int32.reduceToInt, yu, ya, reduceIte, Nat.reduceEqDiff, Int.toNat_natCast, Int.reduceToNat]
            refine yi_icmpge rfl (by refine ⟨?_, ?_⟩ <;> first | exact yr_t _ | exact yr_b _ | (unfold yr; omega)) (fun c6 => ?_) (fun c6 => ?_)
            · refine ygo 10 90 rfl rfl (by first | exact trivial | (simp only [true_and, eq_self, or_true, true_or, and_true, yu, ya, reduceIte, Nat.reduceEqDiff, Int32.reduceToInt, Int.toNat_natCast, Int.reduceToNat]; omega) | decide | (simp; done) | (simp; omega)) ?_
              try simp only [List.map_cons, List.map_nil, List.length_cons, List.length_nil, ylr_s, ylr_0, Nat.reduceAdd, Nat.reduceSub, List.cons_append, List.nil_append, List.set_cons_zero, List.set_cons_succ, Option.toList_none, Option.toList_some, Int32.reduceToInt, yu, ya, reduceIte, Nat.reduceEqDiff, Int.toNat_natCast, Int.reduceToNat]
              exact ih _ _ _ _ _ _ _ f1 A1 (fun hc => by cases hc) (by unfold yr; omega) hF h1 hk1
            · omega
          · omega
        | some b =>
          have hbl := hbb b (List.mem_of_getElem? hb)
          have hsl := (List.getElem?_eq_some_iff.mp hb).1
          have hbq : ∃ q : Nat, q ≤ 255 ∧ b = nI q := ⟨b.toInt.toNat, by omega, by rw [i_eq, i_n (by omega)]; omega⟩
          obtain ⟨q, hq, rfl⟩ := hbq
          have hqz : (nI q).toInt = q := i_n (by omega)
          have hbne : ¬ nI q = -1 := by
            intro hc
            rw [hc] at hbl
            have : (-1 : Int32).toInt = -1 := rfl
            omega
          have e1 : nxt bs 0 255 s = (nI q, s.1 + 1, s.2.1, s.2.2) := by
            unfold nxt
            rw [if_neg (by rw [hw]; decide), getD_s hb, if_neg (by rw [i_lt, i_lt]; intro hc; rcases hc with hc | hc | hc; exact hbne hc; omega; omega)]
          have hwv : wv (nxt bs 0 255 s) = q := by rw [e1]; unfold wv; rw [hw]; exact hqz
          rw [e1] at h1
          have e22 : f1 22 = (s.1 : Int) + 1 := by
            have := h1.2.2.2.2.2.1 hw
            dsimp only at this
            rw [this]; rfl
          have e24 : f1 24 = -1 := by
            have : f1 24 = oZ s.2.1 := h1.2.2.1
            rw [this, hw]; rfl
          rw [hwv]
          have hopq := op_q hq
          have hO : hOps1 bs k e (nI lr) s = if 128 ≤ q then hCopy bs k (opM q) (if (lz < opM q ∨ e < s.1 + 1 + opB q) then (s.1 + 1, some s.1, s.2.2) else (s.1 + 1, none, s.2.2)) else hPlain bs k (opM q) (if (lz < opM q ∨ e < s.1 + 1 + opB q) then (s.1 + 1, some s.1, s.2.2) else (s.1 + 1, none, s.2.2)) := by
            have hmB : opM q ≤ 256 ∧ opB q ≤ 256 := by unfold opM opB; split <;> omega
            have hc1 : (nI lr - nI (rwb s k).length < nI (opM q) ∨ nI e < nI (s.1 + 1) + nI (opB q)) ↔ (lz < opM q ∨ e < s.1 + 1 + opB q) := by
              rw [nI_subN hf.2.2.1, i_lt, i_n (by omega), i_n (by omega), nI_addN, i_lt, i_n (by omega), i_n (by omega)]
              omega
            have hmm : (nI (opM q)).toInt.toNat = opM q := by rw [i_n (by omega)]; omega
            unfold hOps1
            rw [e1]
            dsimp only
            rw [hopq.1, hopq.2, hmm, hw]
            have hr : refS s.1 (s.1 + 1, none, s.2.2) = (s.1 + 1, some s.1, s.2.2) := rfl
            rw [hr]
            have hi : (if nI lr - nI (rwb s k).length < nI (opM q) ∨ nI e < nI (s.1 + 1) + nI (opB q) then ((s.1 + 1, some s.1, s.2.2) : pS) else (s.1 + 1, none, s.2.2)) = if (lz < opM q ∨ e < s.1 + 1 + opB q) then (s.1 + 1, some s.1, s.2.2) else (s.1 + 1, none, s.2.2) := ifc hc1
            rw [hi]
            exact ifc (le128 hq)
          have bad : ∀ (mz bz : Int), -2 ≤ mz → mz ≤ 300 → 1 ≤ bz → bz ≤ 300 → (lz < opM q ∨ e < s.1 + 1 + opB q) → yw G (d + 2) a mX9_readOps 97 [some (.inr 0), some (.inl x1), some (.inl x2), some (.inl ez), some (.inl lz), some (.inl (q : Int)), some (.inl mz), some (.inl bz), x8, x9] [] (f1, A1) (fun w Y' => w = none ∧ mRd Z pk bs F Y' ∧ fkp Y0 Y') := by
            intro mz bz m1 m2 b1 b2 hbad
            rw [if_pos hbad] at hO
            have hO2 : hOps1 bs k e (nI lr) s = (s.1 + 1, some s.1, s.2.2) := by
              rw [hO]
              split
              · unfold hCopy
                rw [nxt_w rfl]
                rfl
              · exact hLoop_wrong rfl
            rw [hO2] at hF
            have hr := mRd_ref (x := s.1) h1 hw (by omega)
            have hi1 : f1 22 - 1 = s.1 := by omega
            have hr2 : mRd Z pk bs (s.1 + 1, some s.1, s.2.2) (yu f1 24 (s.1 : Int), A1) := ⟨hr.1, hr.2.1, rfl, hr.2.2.2.1, hr.2.2.2.2.1, (fun hc => by cases hc), (fun w hw => by cases hw <;> omega)⟩
            refine ygo 110 90 rfl rfl (by first | exact trivial | (simp only [true_and, eq_self, or_true, true_or, and_true, yu, ya, reduceIte, Nat.reduceEqDiff, Int32.reduceToInt, Int.toNat_natCast, Int.reduceToNat]; omega) | decide | (simp; done) | (simp; omega)) ?_
            try simp only [List.map_cons, List.map_nil, List.length_cons, List.length_nil, ylr_s, ylr_0, Nat.reduceAdd, Nat.reduceSub, List.cons_append, List.nil_append, List.set_cons_zero, List.set_cons_succ, Option.toList_none, Option.toList_some, Int32.reduceToInt, yu, ya, reduceIte, Nat.reduceEqDiff, Int.toNat_natCast, Int.reduceToNat]
            rw [hi1]
            refine ygo 99999 90 rfl rfl (by first | exact trivial | (simp only [true_and, eq_self, or_true, true_or, and_true, yu, ya, reduceIte, Nat.reduceEqDiff, Int32.reduceToInt, Int.toNat_natCast, Int.reduceToNat]; omega) | decide | (simp; done) | (simp; omega)) ?_
            try simp only [List.map_cons, List.map_nil, List.length_cons, List.length_nil, ylr_s, ylr_0, Nat.reduceAdd, Nat.reduceSub, List.cons_append, List.nil_append, List.set_cons_zero, List.set_cons_succ, Option.toList_none, Option.toList_some, Int32.reduceToInt, yu, ya, reduceIte, Nat.reduceEqDiff, Int.toNat_natCast, Int.reduceToNat]
            refine yi_icmpge rfl (by refine ⟨?_, ?_⟩ <;> first | exact yr_t _ | exact yr_b _ | (unfold yr; omega)) (fun c6 => ?_) (fun c6 => ?_)
            · omega
            refine ygo 99999 90 rfl rfl (by first | exact trivial | (simp only [true_and, eq_self, or_true, true_or, and_true, yu, ya, reduceIte, Nat.reduceEqDiff, Int32.reduceToInt, Int.toNat_natCast, Int.reduceToNat]; omega) | decide | (simp; done) | (simp; omega)) ?_
            try simp only [List.map_cons, List.map_nil, List.length_cons, List.length_nil, ylr_s, ylr_0, Nat.reduceAdd, Nat.reduceSub, List.cons_append, List.nil_append, List.set_cons_zero, List.set_cons_succ, Option.toList_none, Option.toList_some, Int32.reduceToInt, yu, ya, reduceIte, Nat.reduceEqDiff, Int.toNat_natCast, Int.reduceToNat]
            refine yi_ifge rfl (by first | exact yr_t _ | exact yr_b _ | (unfold yr; omega)) (fun c7 => ?_) (fun c7 => ?_)
            · refine ygo 10 90 rfl rfl (by first | exact trivial | (simp only [true_and, eq_self, or_true, true_or, and_true, yu, ya, reduceIte, Nat.reduceEqDiff, Int32.reduceToInt, Int.toNat_natCast, Int.reduceToNat]; omega) | decide | (simp; done) | (simp; omega)) ?_
              try simp only [List.map_cons, List.map_nil, List.length_cons, List.length_nil, ylr_s, ylr_0, Nat.reduceAdd, Nat.reduceSub, List.cons_append, List.nil_append, List.set_cons_zero, List.set_cons_succ, Option.toList_none, Option.toList_some, Int32.reduceToInt, yu, ya, reduceIte, Nat.reduceEqDiff, Int.toNat_natCast, Int.reduceToNat]
              exact ih _ _ _ _ _ _ _ _ A1 (fun hc => by cases hc) (by unfold yr; omega) hF hr2 (hk1.tr fkp.f24)
            · omega
          have h1' : mRd Z pk bs (s.1 + 1, none, s.2.2) (f1, A1) := by rw [hw] at h1; exact h1
          by_cases c128 : 128 ≤ q
          · have hM : opM q = q - 125 := if_pos c128
            have hB : opB q = 1 := if_pos c128
            rw [if_pos c128, hM, hB] at hO
            rw [hM, hB] at bad
            refine ygo 99999 90 rfl rfl (by first | exact trivial | (simp only [true_and, eq_self, or_true, true_or, and_true, yu, ya, reduceIte, Nat.reduceEqDiff, Int32.reduceToInt, Int.toNat_natCast, Int.reduceToNat]; omega) | decide | (simp; done) | (simp; omega)) ?_
            try simp only [List.map_cons, List.map_nil, List.length_cons, List.length_nil, ylr_s, ylr_0, Nat.reduceAdd, Nat.reduceSub, List.cons_append, List.nil_append, List.set_cons_zero, List.set_cons_succ, Option.toList_none, Option.toList_some, Int32.reduceToInt, yu, ya, reduceIte, Nat.reduceEqDiff, Int.toNat_natCast, Int.reduceToNat]
            refine yi_icmpge rfl (by refine ⟨?_, ?_⟩ <;> first | exact yr_t _ | exact yr_b _ | (unfold yr; omega)) (fun c3 => ?_) (fun c3 => ?_)
            · refine ygo 99999 90 rfl rfl (by first | exact trivial | (simp only [true_and, eq_self, or_true, true_or, and_true, yu, ya, reduceIte, Nat.reduceEqDiff, Int32.reduceToInt, Int.toNat_natCast, Int.reduceToNat]; omega) | decide | (simp; done) | (simp; omega)) ?_
              try simp only [List.map_cons, List.map_nil, List.length_cons, List.length_nil, ylr_s, ylr_0, Nat.reduceAdd, Nat.reduceSub, List.cons_append, List.nil_append, List.set_cons_zero, List.set_cons_succ, Option.toList_none, Option.toList_some, Int32.reduceToInt, yu, ya, reduceIte, Nat.reduceEqDiff, Int.toNat_natCast, Int.reduceToNat]
              refine yi_icmpge rfl (by refine ⟨?_, ?_⟩ <;> first | exact yr_t _ | exact yr_b _ | (unfold yr; omega)) (fun c4 => ?_) (fun c4 => ?_)
              · refine ygo 99999 90 rfl rfl (by first | exact trivial | (simp only [true_and, eq_self, or_true, true_or, and_true, yu, ya, reduceIte, Nat.reduceEqDiff, Int32.reduceToInt, Int.toNat_natCast, Int.reduceToNat]; omega) | decide | (simp; done) | (simp; omega)) ?_
                try simp only [List.map_cons, List.map_nil, List.length_cons, List.length_nil, ylr_s, ylr_0, Nat.reduceAdd, Nat.reduceSub, List.cons_append, List.nil_append, List.set_cons_zero, List.set_cons_succ, Option.toList_none, Option.toList_some, Int32.reduceToInt, yu, ya, reduceIte, Nat.reduceEqDiff, Int.toNat_natCast, Int.reduceToNat]
                refine yi_iflt rfl (by first | exact yr_t _ | exact yr_b _ | (unfold yr; omega)) (fun c5 => ?_) (fun c5 => ?_)
                · omega
                refine ygo 99999 90 rfl rfl (by first | exact trivial | (simp only [true_and, eq_self, or_true, true_or, and_true, yu, ya, reduceIte, Nat.reduceEqDiff, Int32.reduceToInt, Int.toNat_natCast, Int.reduceToNat]; omega) | decide | (simp; done) | (simp; omega)) ?_
                try simp only [List.map_cons, List.map_nil, List.length_cons, List.length_nil, ylr_s, ylr_0, Nat.reduceAdd, Nat.reduceSub, List.cons_append, List.nil_append, List.set_cons_zero, List.set_cons_succ, Option.toList_none, Option.toList_some, Int32.reduceToInt, yu, ya, reduceIte, Nat.reduceEqDiff, Int.toNat_natCast, Int.reduceToNat]
                refine yi_icmpgt rfl (by refine ⟨?_, ?_⟩ <;> first | exact yr_t _ | exact yr_b _ | (unfold yr; omega)) (fun c6 => ?_) (fun c6 => ?_)
                · exact bad _ _ (by omega) (by omega) (by omega) (by omega) (by left; omega)
                refine ygo 99999 90 rfl rfl (by first | exact trivial | (simp only [true_and, eq_self, or_true, true_or, and_true, yu, ya, reduceIte, Nat.reduceEqDiff, Int32.reduceToInt, Int.toNat_natCast, Int.reduceToNat]; omega) | decide | (simp; done) | (simp; omega)) ?_
                try simp only [List.map_cons, List.map_nil, List.length_cons, List.length_nil, ylr_s, ylr_0, Nat.reduceAdd, Nat.reduceSub, List.cons_append, List.nil_append, List.set_cons_zero, List.set_cons_succ, Option.toList_none, Option.toList_some, Int32.reduceToInt, yu, ya, reduceIte, Nat.reduceEqDiff, Int.toNat_natCast, Int.reduceToNat]
                refine yi_icmple rfl (by refine ⟨?_, ?_⟩ <;> first | exact yr_t _ | exact yr_b _ | (unfold yr; omega)) (fun c7 => ?_) (fun c7 => ?_)
                · rw [if_neg (by omega)] at hO
                  refine ygo 110 90 rfl rfl (by first | exact trivial | (simp only [true_and, eq_self, or_true, true_or, and_true, yu, ya, reduceIte, Nat.reduceEqDiff, Int32.reduceToInt, Int.toNat_natCast, Int.reduceToNat]; omega) | decide | (simp; done) | (simp; omega)) ?_
                  try simp only [List.map_cons, List.map_nil, List.length_cons, List.length_nil, ylr_s, ylr_0, Nat.reduceAdd, Nat.reduceSub, List.cons_append, List.nil_append, List.set_cons_zero, List.set_cons_succ, Option.toList_none, Option.toList_some, Int32.reduceToInt, yu, ya, reduceIte, Nat.reduceEqDiff, Int.toNat_natCast, Int.reduceToNat]
                  refine ygo 99999 90 rfl rfl (by first | exact trivial | (simp only [true_and, eq_self, or_true, true_or, and_true, yu, ya, reduceIte, Nat.reduceEqDiff, Int32.reduceToInt, Int.toNat_natCast, Int.reduceToNat]; omega) | decide | (simp; done) | (simp; omega)) ?_
                  try simp only [List.map_cons, List.map_nil, List.length_cons, List.length_nil, ylr_s, ylr_0, Nat.reduceAdd, Nat.reduceSub, List.cons_append, List.nil_append, List.set_cons_zero, List.set_cons_succ, Option.toList_none, Option.toList_some, Int32.reduceToInt, yu, ya, reduceIte, Nat.reduceEqDiff, Int.toNat_natCast, Int.reduceToNat]
                  refine yi_icmpge rfl (by refine ⟨?_, ?_⟩ <;> first | exact yr_t _ | exact yr_b _ | (unfold yr; omega)) (fun c8 => ?_) (fun c8 => ?_)
                  · omega
                  refine ygo 99999 90 rfl rfl (by first | exact trivial | (simp only [true_and, eq_self, or_true, true_or, and_true, yu, ya, reduceIte, Nat.reduceEqDiff, Int32.reduceToInt, Int.toNat_natCast, Int.reduceToNat]; omega) | decide | (simp; done) | (simp; omega)) ?_
                  try simp only [List.map_cons, List.map_nil, List.length_cons, List.length_nil, ylr_s, ylr_0, Nat.reduceAdd, Nat.reduceSub, List.cons_append, List.nil_append, List.set_cons_zero, List.set_cons_succ, Option.toList_none, Option.toList_some, Int32.reduceToInt, yu, ya, reduceIte, Nat.reduceEqDiff, Int.toNat_natCast, Int.reduceToNat]
                  refine yi_ifge rfl (by first | exact yr_t _ | exact yr_b _ | (unfold yr; omega)) (fun c9 => ?_) (fun c9 => ?_)
                  · omega
                  refine ygo 99999 90 rfl rfl (by first | exact trivial | (simp only [true_and, eq_self, or_true, true_or, and_true, yu, ya, reduceIte, Nat.reduceEqDiff, Int32.reduceToInt, Int.toNat_natCast, Int.reduceToNat]; omega) | decide | (simp; done) | (simp; omega)) ?_
                  try simp only [List.map_cons, List.map_nil, List.length_cons, List.length_nil, ylr_s, ylr_0, Nat.reduceAdd, Nat.reduceSub, List.cons_append, List.nil_append, List.set_cons_zero, List.set_cons_succ, Option.toList_none, Option.toList_some, Int32.reduceToInt, yu, ya, reduceIte, Nat.reduceEqDiff, Int.toNat_natCast, Int.reduceToNat]
                  refine ycV rfl rfl rfl (cm_want (s := (s.1 + 1, none, s.2.2)) (most := 255) h1' hp rfl (by decide)) rfl kX9_want iX9_want rfl rfl rfl (Nat.le_of_ble_eq_true rfl) (fun v2 Y2 q2 => ?_)
                  obtain ⟨rfl, h2, k2⟩ := q2
                  obtain ⟨f2, A2⟩ := Y2
                  have hk2 := hk1.tr k2
                  cases hb2 : bs[s.1 + 1]? with
                  | none =>
                    have en : ∀ lo hi, nxt bs lo hi (s.1 + 1, none, s.2.2) = (lo, s.1 + 1, some (s.1 + 1), s.2.2) := fun lo hi => nx_none rfl hb2
                    have hO2 : hOps1 bs k e (nI lr) s = (s.1 + 1, some (s.1 + 1), s.2.2) := by
                      rw [hO]; unfold hCopy; rw [en]; rfl
                    rw [hO2] at hF
                    have hwv2 : wv (nxt bs 0 255 (s.1 + 1, none, s.2.2)) = -1 := by rw [en]; rfl
                    rw [en] at h2
                    rw [hwv2]
                    refine ygo 99999 90 rfl rfl (by first | exact trivial | (simp only [true_and, eq_self, or_true, true_or, and_true, yu, ya, reduceIte, Nat.reduceEqDiff, Int32.reduceToInt, Int.toNat_natCast, Int.reduceToNat]; omega) | decide | (simp; done) | (simp; omega)) ?_
                    try simp only [List.map_cons, List.map_nil, List.length_cons, List.length_nil, ylr_s, ylr_0, Nat.reduceAdd, Nat.reduceSub, List.cons_append, List.nil_append, List.set_cons_zero, List.set_cons_succ, Option.toList_none, Option.toList_some, Int32.reduceToInt, yu, ya, reduceIte, Nat.reduceEqDiff, Int.toNat_natCast, Int.reduceToNat]
                    refine yi_icmplt rfl (by refine ⟨?_, ?_⟩ <;> first | exact yr_t _ | exact yr_b _ | (unfold yr; omega)) (fun c10 => ?_) (fun c10 => ?_)
                    · omega
                    refine ygo 99999 90 rfl rfl (by first | exact trivial | (simp only [true_and, eq_self, or_true, true_or, and_true, yu, ya, reduceIte, Nat.reduceEqDiff, Int32.reduceToInt, Int.toNat_natCast, Int.reduceToNat]; omega) | decide | (simp; done) | (simp; omega)) ?_
                    try simp only [List.map_cons, List.map_nil, List.length_cons, List.length_nil, ylr_s, ylr_0, Nat.reduceAdd, Nat.reduceSub, List.cons_append, List.nil_append, List.set_cons_zero, List.set_cons_succ, Option.toList_none, Option.toList_some, Int32.reduceToInt, yu, ya, reduceIte, Nat.reduceEqDiff, Int.toNat_natCast, Int.reduceToNat]
                    refine yi_iflt rfl (by first | exact yr_t _ | exact yr_b _ | (unfold yr; omega)) (fun c11 => ?_) (fun c11 => ?_)
                    · refine ygo 110 90 rfl rfl (by first | exact trivial | (simp only [true_and, eq_self, or_true, true_or, and_true, yu, ya, reduceIte, Nat.reduceEqDiff, Int32.reduceToInt, Int.toNat_natCast, Int.reduceToNat]; omega) | decide | (simp; done) | (simp; omega)) ?_
                      try simp only [List.map_cons, List.map_nil, List.length_cons, List.length_nil, ylr_s, ylr_0, Nat.reduceAdd, Nat.reduceSub, List.cons_append, List.nil_append, List.set_cons_zero, List.set_cons_succ, Option.toList_none, Option.toList_some, Int32.reduceToInt, yu, ya, reduceIte, Nat.reduceEqDiff, Int.toNat_natCast, Int.reduceToNat]
                      refine ygo 99999 90 rfl rfl (by first | exact trivial | (simp only [true_and, eq_self, or_true, true_or, and_true, yu, ya, reduceIte, Nat.reduceEqDiff, Int32.reduceToInt, Int.toNat_natCast, Int.reduceToNat]; omega) | decide | (simp; done) | (simp; omega)) ?_
                      try simp only [List.map_cons, List.map_nil, List.length_cons, List.length_nil, ylr_s, ylr_0, Nat.reduceAdd, Nat.reduceSub, List.cons_append, List.nil_append, List.set_cons_zero, List.set_cons_succ, Option.toList_none, Option.toList_some, Int32.reduceToInt, yu, ya, reduceIte, Nat.reduceEqDiff, Int.toNat_natCast, Int.reduceToNat]
                      refine yi_icmpge rfl (by refine ⟨?_, ?_⟩ <;> first | exact yr_t _ | exact yr_b _ | (unfold yr; omega)) (fun c12 => ?_) (fun c12 => ?_)
                      · refine ygo 10 90 rfl rfl (by first | exact trivial | (simp only [true_and, eq_self, or_true, true_or, and_true, yu, ya, reduceIte, Nat.reduceEqDiff, Int32.reduceToInt, Int.toNat_natCast, Int.reduceToNat]; omega) | decide | (simp; done) | (simp; omega)) ?_
                        try simp only [List.map_cons, List.map_nil, List.length_cons, List.length_nil, ylr_s, ylr_0, Nat.reduceAdd, Nat.reduceSub, List.cons_append, List.nil_append, List.set_cons_zero, List.set_cons_succ, Option.toList_none, Option.toList_some, Int32.reduceToInt, yu, ya, reduceIte, Nat.reduceEqDiff, Int.toNat_natCast, Int.reduceToNat]
                        exact ih _ _ _ _ _ _ _ f2 A2 (fun hc => by cases hc) (by unfold yr; omega) hF h2 hk2
                      · omega
                    · omega
                  | some v =>
                    have hvl := hbb v (List.mem_of_getElem? hb2)
                    have hvq : ∃ u : Nat, u ≤ 255 ∧ v = nI u := ⟨v.toInt.toNat, by omega, by rw [i_eq, i_n (by omega)]; omega⟩
                    obtain ⟨u, hu, rfl⟩ := hvq
                    have huz : (nI u).toInt = u := i_n (by omega)
                    have hlz2 : (nI (rwb s k).length).toInt = (rwb s k).length := i_n (by omega)
                    have e2 : nxt bs 0 255 (s.1 + 1, none, s.2.2) = (nI u, s.1 + 1 + 1, none, s.2.2) := nx_some rfl hb2 hu (by omega) (by omega)
                    have hwv2 : wv (nxt bs 0 255 (s.1 + 1, none, s.2.2)) = u := by rw [e2]; exact huz
                    rw [e2] at h2
                    rw [hwv2]
                    have e222 : f2 22 = (s.1 : Int) + 1 + 1 := by
                      have := h2.2.2.2.2.2.1 rfl
                      dsimp only at this
                      rw [this]; rfl
                    have bad2 : (u = 0 ∨ (rwb s k).length < u) → yw G (d + 2) a mX9_readOps 160 [some (.inr 0), some (.inl x1), some (.inl x2), some (.inl ez), some (.inl lz), some (.inl (q : Int)), some (.inl ((q : Int) - 125)), some (.inl 1), some (.inl 0), some (.inl (u : Int))] [] (f2, A2) (fun w Y' => w = none ∧ mRd Z pk bs F Y' ∧ fkp Y0 Y') := by
                      intro hbad
                      have hO2 : hOps1 bs k e (nI lr) s = (s.1 + 1, some (s.1 + 1), s.2.2) := by
                        have ee : nxt bs 1 (nI (rwb s k).length) (s.1 + 1, none, s.2.2) = (1, s.1 + 1, some (s.1 + 1), s.2.2) := nx_bad rfl hb2 hu (by rw [z1, hlz2]; omega)
                        have er : rwb (s.1 + 1, none, s.2.2) k = rwb s k := rfl
                        rw [hO]; unfold hCopy; rw [er, ee]; rfl
                      rw [hO2] at hF
                      have hr := mRd_ref (x := s.1 + 1) h2 rfl (by have := h2.2.2.2.2.1; dsimp only at this; omega)
                      have hi1 : f2 22 - 1 = ((s.1 + 1 : Nat) : Int) := by omega
                      have hr2 : mRd Z pk bs (s.1 + 1, some (s.1 + 1), s.2.2) (yu f2 24 ((s.1 + 1 : Nat) : Int), A2) := ⟨hr.1, hr.2.1, rfl, hr.2.2.2.1, hr.2.2.2.2.1, (fun hc => by cases hc), (fun w hw => by have := h2.2.2.2.2.1; dsimp only at this; cases hw; omega)⟩
                      refine ygo 110 90 rfl rfl (by first | exact trivial | (simp only [true_and, eq_self, or_true, true_or, and_true, yu, ya, reduceIte, Nat.reduceEqDiff, Int32.reduceToInt, Int.toNat_natCast, Int.reduceToNat]; omega) | decide | (simp; done) | (simp; omega)) ?_
                      try simp only [List.map_cons, List.map_nil, List.length_cons, List.length_nil, ylr_s, ylr_0, Nat.reduceAdd, Nat.reduceSub, List.cons_append, List.nil_append, List.set_cons_zero, List.set_cons_succ, Option.toList_none, Option.toList_some, Int32.reduceToInt, yu, ya, reduceIte, Nat.reduceEqDiff, Int.toNat_natCast, Int.reduceToNat]
                      rw [hi1]
                      refine ygo 99999 90 rfl rfl (by first | exact trivial | (simp only [true_and, eq_self, or_true, true_or, and_true, yu, ya, reduceIte, Nat.reduceEqDiff, Int32.reduceToInt, Int.toNat_natCast, Int.reduceToNat]; omega) | decide | (simp; done) | (simp; omega)) ?_
                      try simp only [List.map_cons, List.map_nil, List.length_cons, List.length_nil, ylr_s, ylr_0, Nat.reduceAdd, Nat.reduceSub, List.cons_append, List.nil_append, List.set_cons_zero, List.set_cons_succ, Option.toList_none, Option.toList_some, Int32.reduceToInt, yu, ya, reduceIte, Nat.reduceEqDiff, Int.toNat_natCast, Int.reduceToNat]
                      refine yi_icmpge rfl (by refine ⟨?_, ?_⟩ <;> first | exact yr_t _ | exact yr_b _ | (unfold yr; omega)) (fun c12 => ?_) (fun c12 => ?_)
                      · refine ygo 10 90 rfl rfl (by first | exact trivial | (simp only [true_and, eq_self, or_true, true_or, and_true, yu, ya, reduceIte, Nat.reduceEqDiff, Int32.reduceToInt, Int.toNat_natCast, Int.reduceToNat]; omega) | decide | (simp; done) | (simp; omega)) ?_
                        try simp only [List.map_cons, List.map_nil, List.length_cons, List.length_nil, ylr_s, ylr_0, Nat.reduceAdd, Nat.reduceSub, List.cons_append, List.nil_append, List.set_cons_zero, List.set_cons_succ, Option.toList_none, Option.toList_some, Int32.reduceToInt, yu, ya, reduceIte, Nat.reduceEqDiff, Int.toNat_natCast, Int.reduceToNat]
                        exact ih _ _ _ _ _ _ _ _ A2 (fun hc => by cases hc) (by unfold yr; omega) hF hr2 (hk2.tr fkp.f24)
                      · omega
                    refine ygo 99999 90 rfl rfl (by first | exact trivial | (simp only [true_and, eq_self, or_true, true_or, and_true, yu, ya, reduceIte, Nat.reduceEqDiff, Int32.reduceToInt, Int.toNat_natCast, Int.reduceToNat]; omega) | decide | (simp; done) | (simp; omega)) ?_
                    try simp only [List.map_cons, List.map_nil, List.length_cons, List.length_nil, ylr_s, ylr_0, Nat.reduceAdd, Nat.reduceSub, List.cons_append, List.nil_append, List.set_cons_zero, List.set_cons_succ, Option.toList_none, Option.toList_some, Int32.reduceToInt, yu, ya, reduceIte, Nat.reduceEqDiff, Int.toNat_natCast, Int.reduceToNat]
                    refine yi_icmplt rfl (by refine ⟨?_, ?_⟩ <;> first | exact yr_t _ | exact yr_b _ | (unfold yr; omega)) (fun c10 => ?_) (fun c10 => ?_)
                    · omega
                    refine ygo 99999 90 rfl rfl (by first | exact trivial | (simp only [true_and, eq_self, or_true, true_or, and_true, yu, ya, reduceIte, Nat.reduceEqDiff, Int32.reduceToInt, Int.toNat_natCast, Int.reduceToNat]; omega) | decide | (simp; done) | (simp; omega)) ?_
                    try simp only [List.map_cons, List.map_nil, List.length_cons, List.length_nil, ylr_s, ylr_0, Nat.reduceAdd, Nat.reduceSub, List.cons_append, List.nil_append, List.set_cons_zero, List.set_cons_succ, Option.toList_none, Option.toList_some, Int32.reduceToInt, yu, ya, reduceIte, Nat.reduceEqDiff, Int.toNat_natCast, Int.reduceToNat]
                    refine yi_iflt rfl (by first | exact yr_t _ | exact yr_b _ | (unfold yr; omega)) (fun c11 => ?_) (fun c11 => ?_)
                    · omega
                    refine ygo 99999 90 rfl rfl (by first | exact trivial | (simp only [true_and, eq_self, or_true, true_or, and_true, yu, ya, reduceIte, Nat.reduceEqDiff, Int32.reduceToInt, Int.toNat_natCast, Int.reduceToNat]; omega) | decide | (simp; done) | (simp; omega)) ?_
                    try simp only [List.map_cons, List.map_nil, List.length_cons, List.length_nil, ylr_s, ylr_0, Nat.reduceAdd, Nat.reduceSub, List.cons_append, List.nil_append, List.set_cons_zero, List.set_cons_succ, Option.toList_none, Option.toList_some, Int32.reduceToInt, yu, ya, reduceIte, Nat.reduceEqDiff, Int.toNat_natCast, Int.reduceToNat]
                    refine yi_ifeq rfl (by first | exact yr_t _ | exact yr_b _ | (unfold yr; omega)) (fun c12 => ?_) (fun c12 => ?_)
                    · exact bad2 (by omega)
                    refine ygo 99999 90 rfl rfl (by first | exact trivial | (simp only [true_and, eq_self, or_true, true_or, and_true, yu, ya, reduceIte, Nat.reduceEqDiff, Int32.reduceToInt, Int.toNat_natCast, Int.reduceToNat]; omega) | decide | (simp; done) | (simp; omega)) ?_
                    try simp only [List.map_cons, List.map_nil, List.length_cons, List.length_nil, ylr_s, ylr_0, Nat.reduceAdd, Nat.reduceSub, List.cons_append, List.nil_append, List.set_cons_zero, List.set_cons_succ, Option.toList_none, Option.toList_some, Int32.reduceToInt, yu, ya, reduceIte, Nat.reduceEqDiff, Int.toNat_natCast, Int.reduceToNat]
                    refine yi_icmple rfl (by refine ⟨?_, ?_⟩ <;> first | exact yr_t _ | exact yr_b _ | (unfold yr; omega)) (fun c13 => ?_) (fun c13 => ?_)
                    · have ee : nxt bs 1 (nI (rwb s k).length) (s.1 + 1, none, s.2.2) = (nI u, s.1 + 1 + 1, none, s.2.2) := nx_some rfl hb2 hu (by omega) (by omega)
                      have er : rwb (s.1 + 1, none, s.2.2) k = rwb s k := rfl
                      have hO2 : hOps1 bs k e (nI lr) s = srow k (rep (nI u).toInt.toNat (q - 125) (rwb s k)) (s.1 + 1 + 1, none, s.2.2) := by
                        rw [hO]; unfold hCopy; rw [er, ee]; rfl
                      have hsr := srow_rw (s := (s.1 + 1 + 1, none, s.2.2)) (x := rep (nI u).toInt.toNat (q - 125) (rwb s k)) hwk hk8
                      have hfin : mRd Z pk bs (hOps1 bs k e (nI lr) s) (f2, A2) := by
                        rw [hO2]
                        exact h2.say rfl rfl
                      refine ygo 110 90 rfl rfl (by first | exact trivial | (simp only [true_and, eq_self, or_true, true_or, and_true, yu, ya, reduceIte, Nat.reduceEqDiff, Int32.reduceToInt, Int.toNat_natCast, Int.reduceToNat]; omega) | decide | (simp; done) | (simp; omega)) ?_
                      try simp only [List.map_cons, List.map_nil, List.length_cons, List.length_nil, ylr_s, ylr_0, Nat.reduceAdd, Nat.reduceSub, List.cons_append, List.nil_append, List.set_cons_zero, List.set_cons_succ, Option.toList_none, Option.toList_some, Int32.reduceToInt, yu, ya, reduceIte, Nat.reduceEqDiff, Int.toNat_natCast, Int.reduceToNat]
                      refine ygo 99999 90 rfl rfl (by first | exact trivial | (simp only [true_and, eq_self, or_true, true_or, and_true, yu, ya, reduceIte, Nat.reduceEqDiff, Int32.reduceToInt, Int.toNat_natCast, Int.reduceToNat]; omega) | decide | (simp; done) | (simp; omega)) ?_
                      try simp only [List.map_cons, List.map_nil, List.length_cons, List.length_nil, ylr_s, ylr_0, Nat.reduceAdd, Nat.reduceSub, List.cons_append, List.nil_append, List.set_cons_zero, List.set_cons_succ, Option.toList_none, Option.toList_some, Int32.reduceToInt, yu, ya, reduceIte, Nat.reduceEqDiff, Int.toNat_natCast, Int.reduceToNat]
                      refine yi_icmpge rfl (by refine ⟨?_, ?_⟩ <;> first | exact yr_t _ | exact yr_b _ | (unfold yr; omega)) (fun c14 => ?_) (fun c14 => ?_)
                      · refine ygo 10 90 rfl rfl (by first | exact trivial | (simp only [true_and, eq_self, or_true, true_or, and_true, yu, ya, reduceIte, Nat.reduceEqDiff, Int32.reduceToInt, Int.toNat_natCast, Int.reduceToNat]; omega) | decide | (simp; done) | (simp; omega)) ?_
                        try simp only [List.map_cons, List.map_nil, List.length_cons, List.length_nil, ylr_s, ylr_0, Nat.reduceAdd, Nat.reduceSub, List.cons_append, List.nil_append, List.set_cons_zero, List.set_cons_succ, Option.toList_none, Option.toList_some, Int32.reduceToInt, yu, ya, reduceIte, Nat.reduceEqDiff, Int.toNat_natCast, Int.reduceToNat]
                        refine ih _ _ _ _ _ _ _ f2 A2 (fun _ => ?_) (by unfold yr; omega) hF hfin hk2
                        rw [hO2, hsr.1, rep_len]
                        exact ⟨by show e ≤ s.1 + 1 + 1 + n; omega, by omega, by omega, hsr.2⟩
                      · omega
                    · exact bad2 (by omega)
                · exact bad _ _ (by omega) (by omega) (by omega) (by omega) (by right; omega)
              · omega
            · omega
          · have hM : opM q = q + 1 := if_neg c128
            have hB : opB q = q + 1 := if_neg c128
            rw [if_neg c128, hM, hB] at hO
            rw [hM, hB] at bad
            refine ygo 99999 90 rfl rfl (by first | exact trivial | (simp only [true_and, eq_self, or_true, true_or, and_true, yu, ya, reduceIte, Nat.reduceEqDiff, Int32.reduceToInt, Int.toNat_natCast, Int.reduceToNat]; omega) | decide | (simp; done) | (simp; omega)) ?_
            try simp only [List.map_cons, List.map_nil, List.length_cons, List.length_nil, ylr_s, ylr_0, Nat.reduceAdd, Nat.reduceSub, List.cons_append, List.nil_append, List.set_cons_zero, List.set_cons_succ, Option.toList_none, Option.toList_some, Int32.reduceToInt, yu, ya, reduceIte, Nat.reduceEqDiff, Int.toNat_natCast, Int.reduceToNat]
            refine yi_icmpge rfl (by refine ⟨?_, ?_⟩ <;> first | exact yr_t _ | exact yr_b _ | (unfold yr; omega)) (fun c3 => ?_) (fun c3 => ?_)
            · omega
            refine ygo 99999 90 rfl rfl (by first | exact trivial | (simp only [true_and, eq_self, or_true, true_or, and_true, yu, ya, reduceIte, Nat.reduceEqDiff, Int32.reduceToInt, Int.toNat_natCast, Int.reduceToNat]; omega) | decide | (simp; done) | (simp; omega)) ?_
            try simp only [List.map_cons, List.map_nil, List.length_cons, List.length_nil, ylr_s, ylr_0, Nat.reduceAdd, Nat.reduceSub, List.cons_append, List.nil_append, List.set_cons_zero, List.set_cons_succ, Option.toList_none, Option.toList_some, Int32.reduceToInt, yu, ya, reduceIte, Nat.reduceEqDiff, Int.toNat_natCast, Int.reduceToNat]
            refine yi_icmpge rfl (by refine ⟨?_, ?_⟩ <;> first | exact yr_t _ | exact yr_b _ | (unfold yr; omega)) (fun c4 => ?_) (fun c4 => ?_)
            · omega
            refine ygo 99999 90 rfl rfl (by first | exact trivial | (simp only [true_and, eq_self, or_true, true_or, and_true, yu, ya, reduceIte, Nat.reduceEqDiff, Int32.reduceToInt, Int.toNat_natCast, Int.reduceToNat]; omega) | decide | (simp; done) | (simp; omega)) ?_
            try simp only [List.map_cons, List.map_nil, List.length_cons, List.length_nil, ylr_s, ylr_0, Nat.reduceAdd, Nat.reduceSub, List.cons_append, List.nil_append, List.set_cons_zero, List.set_cons_succ, Option.toList_none, Option.toList_some, Int32.reduceToInt, yu, ya, reduceIte, Nat.reduceEqDiff, Int.toNat_natCast, Int.reduceToNat]
            refine yi_iflt rfl (by first | exact yr_t _ | exact yr_b _ | (unfold yr; omega)) (fun c5 => ?_) (fun c5 => ?_)
            · omega
            refine ygo 99999 90 rfl rfl (by first | exact trivial | (simp only [true_and, eq_self, or_true, true_or, and_true, yu, ya, reduceIte, Nat.reduceEqDiff, Int32.reduceToInt, Int.toNat_natCast, Int.reduceToNat]; omega) | decide | (simp; done) | (simp; omega)) ?_
            try simp only [List.map_cons, List.map_nil, List.length_cons, List.length_nil, ylr_s, ylr_0, Nat.reduceAdd, Nat.reduceSub, List.cons_append, List.nil_append, List.set_cons_zero, List.set_cons_succ, Option.toList_none, Option.toList_some, Int32.reduceToInt, yu, ya, reduceIte, Nat.reduceEqDiff, Int.toNat_natCast, Int.reduceToNat]
            refine yi_icmpgt rfl (by refine ⟨?_, ?_⟩ <;> first | exact yr_t _ | exact yr_b _ | (unfold yr; omega)) (fun c6 => ?_) (fun c6 => ?_)
            · exact bad _ _ (by omega) (by omega) (by omega) (by omega) (by left; omega)
            refine ygo 99999 90 rfl rfl (by first | exact trivial | (simp only [true_and, eq_self, or_true, true_or, and_true, yu, ya, reduceIte, Nat.reduceEqDiff, Int32.reduceToInt, Int.toNat_natCast, Int.reduceToNat]; omega) | decide | (simp; done) | (simp; omega)) ?_
            try simp only [List.map_cons, List.map_nil, List.length_cons, List.length_nil, ylr_s, ylr_0, Nat.reduceAdd, Nat.reduceSub, List.cons_append, List.nil_append, List.set_cons_zero, List.set_cons_succ, Option.toList_none, Option.toList_some, Int32.reduceToInt, yu, ya, reduceIte, Nat.reduceEqDiff, Int.toNat_natCast, Int.reduceToNat]
            refine yi_icmple rfl (by refine ⟨?_, ?_⟩ <;> first | exact yr_t _ | exact yr_b _ | (unfold yr; omega)) (fun c7 => ?_) (fun c7 => ?_)
            · rw [if_neg (by omega)] at hO
              have hO2 : hOps1 bs k e (nI lr) s = hLoop (hPlain1 bs k) (q + 1) (s.1 + 1, none, s.2.2) := hO
              rw [hO2] at hF
              refine ygo 110 90 rfl rfl (by first | exact trivial | (simp only [true_and, eq_self, or_true, true_or, and_true, yu, ya, reduceIte, Nat.reduceEqDiff, Int32.reduceToInt, Int.toNat_natCast, Int.reduceToNat]; omega) | decide | (simp; done) | (simp; omega)) ?_
              try simp only [List.map_cons, List.map_nil, List.length_cons, List.length_nil, ylr_s, ylr_0, Nat.reduceAdd, Nat.reduceSub, List.cons_append, List.nil_append, List.set_cons_zero, List.set_cons_succ, Option.toList_none, Option.toList_some, Int32.reduceToInt, yu, ya, reduceIte, Nat.reduceEqDiff, Int.toNat_natCast, Int.reduceToNat]
              refine l_opsPlain (k := k) (m := q + 1) hp (by omega) (by omega) (by omega) (by omega) (q + 1) 0 _ (s.1 + 1, none, s.2.2) _ f1 A1 (by omega) rfl h1' hk1 (fun f3 A3 x8 x9 hm3 hk3 => ?_)
              refine ygo 10 90 rfl rfl (by first | exact trivial | (simp only [true_and, eq_self, or_true, true_or, and_true, yu, ya, reduceIte, Nat.reduceEqDiff, Int32.reduceToInt, Int.toNat_natCast, Int.reduceToNat]; omega) | decide | (simp; done) | (simp; omega)) ?_
              try simp only [List.map_cons, List.map_nil, List.length_cons, List.length_nil, ylr_s, ylr_0, Nat.reduceAdd, Nat.reduceSub, List.cons_append, List.nil_append, List.set_cons_zero, List.set_cons_succ, Option.toList_none, Option.toList_some, Int32.reduceToInt, yu, ya, reduceIte, Nat.reduceEqDiff, Int.toNat_natCast, Int.reduceToNat]
              refine ih _ _ _ _ _ _ _ f3 A3 (fun hn => ?_) (by unfold yr; omega) hF hm3 hk3
              obtain ⟨p1, p2, p3⟩ := hPlain_len hk8 _ _ hn ⟨w, hwk⟩
              have er : rwb (s.1 + 1, none, s.2.2) k = rwb s k := rfl
              rw [er] at p2
              dsimp only at p1
              exact ⟨by omega, by omega, by omega, p3⟩
            · exact bad _ _ (by omega) (by omega) (by omega) (by omega) (by right; omega)
set_option maxRecDepth 100000 in
set_option maxHeartbeats 2000000 in
theorem cm_readOps {G : xG} {d a pk k lr z : Nat} {Z : pZ} {bs : List Int32} {s : pS} {xz zz : Int} {f : Nat → Int} {A : Nat → List Int32} (h : mRd Z pk bs s (f, A)) (hp : pkd Z pk bs) (hn : s.2.1 = none) (hxz : xz = lr) (hzz : zz = z) (hz : z ≤ 250) (hk8 : k < 8) (hlr : lr ≤ 120) (hw : ∃ w : Int32 × Int32 × List Int32, s.2.2.1.2.2.2[k]? = some w ∧ w.2.2.length = 0) : ym G (d + 2) a mX9_readOps [.inr 0, .inl xz, .inl zz] (f, A) (fun w Y' => w = none ∧ mRd Z pk bs (hOps bs k z (nI lr) s) Y' ∧ fkp (f, A) Y') := by
  have h22 : f 22 = s.1 := h.2.2.2.2.2.1 hn
  have h22b : f 22 ≤ bs.length := h.2.2.2.2.1
  obtain ⟨xp, hxp, hxb, hp16, hlb, hbb⟩ := id hp
  have h0 := rwN hw hk8
  obtain ⟨w, hw1, hw2⟩ := hw
  unfold hOps
  refine ym_at 10 rfl (by decide) (Nat.le_of_ble_eq_true rfl) tX9_readOps_ok ?_
  try simp only [List.map_cons, List.map_nil, List.length_cons, List.length_nil, ylr_s, ylr_0, Nat.reduceAdd, Nat.reduceSub, List.cons_append, List.nil_append, List.set_cons_zero, List.set_cons_succ, Option.toList_none, Option.toList_some, Int32.reduceToInt, yu, ya, reduceIte, Nat.reduceEqDiff, Int.toNat_natCast, Int.reduceToNat]
  refine ygo 10 90 rfl rfl (by first | exact trivial | (simp only [true_and, eq_self, or_true, true_or, and_true, yu, ya, reduceIte, Nat.reduceEqDiff, Int32.reduceToInt, Int.toNat_natCast, Int.reduceToNat]; omega) | decide | (simp; done) | (simp; omega)) ?_
  try simp only [List.map_cons, List.map_nil, List.length_cons, List.length_nil, ylr_s, ylr_0, Nat.reduceAdd, Nat.reduceSub, List.cons_append, List.nil_append, List.set_cons_zero, List.set_cons_succ, Option.toList_none, Option.toList_some, Int32.reduceToInt, yu, ya, reduceIte, Nat.reduceEqDiff, Int.toNat_natCast, Int.reduceToNat]
  exact l_readOps hp hk8 (e := s.1 + z) (by rw [h22, hzz]; push_cast; rfl) (by omega) hlr hxz 250 xz s none none none none none f A (fun _ => ⟨by omega, by omega, by omega, w, hw1⟩) (by unfold yr; omega) rfl h fkp.rf
