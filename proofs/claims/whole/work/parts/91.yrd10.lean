/-- the rows' heads from row k on, as the bytes say them -/
def PG (bs : List Int32) (fr k : Nat) (s : pS) : Prop := ∀ (i : Nat) (e : Int32 × Int32 × List Int32), k ≤ i → s.2.2.1.2.2.2[i]? = some e → bs[fr + i * 6 + 1]? = some e.2.1 ∧ (e.2.1 = 0 ∨ e.2.1 = 1 ∨ e.2.1 = 2) ∧ e.2.2 = [] ∧ (∃ l : Nat, bs[fr + i * 6 + 3]? = some (nI l) ∧ s.2.2.2.1[i]? = some (nI l) ∧ l ≤ 120) ∧ ∃ z : Nat, bs[fr + i * 6 + 5]? = some (nI z) ∧ s.2.2.2.2[i]? = some (nI z) ∧ z ≤ 250
theorem PG.next {bs : List Int32} {fr k : Nat} {s s' : pS} (h : PG bs fr k s) (b : sbut k s s') : PG bs fr (k + 1) s' := by
  intro i e hi he
  rw [b.2.2.2.2.2 i (by omega)] at he
  rw [b.1]
  exact h i e (by omega) he
/-- the packings of heard heads -/
def pks (s : pS) : Prop := ∀ (i : Nat) (e : Int32 × Int32 × List Int32), s.2.2.1.2.2.2[i]? = some e → (e.2.1 = 0 ∨ e.2.1 = 1 ∨ e.2.1 = 2)
theorem hRow_rows {bs : List Int32} {s : pS} : ∃ a p, (hRow bs s).2.2.1.2.2.2 = s.2.2.1.2.2.2 ++ [(a, p, [])] ∧ (p = 0 ∨ p = 1 ∨ p = 2) := by
  generalize hN : nxt bs 0 255 s = N
  generalize hs1 : (if (N.2.2.2.1.2.2.2.findIdx? (fun e => e.1 == N.1)).isSome then refS s.1 N.2 else N.2) = s1
  generalize hP : nxt bs 0 2 s1 = P
  generalize hL : hPair bs 120 (P.2.1, P.2.2.1, (P.2.2.2.1.1, P.2.2.2.1.2.1, P.2.2.2.1.2.2.1, P.2.2.2.1.2.2.2 ++ [(N.1, P.1, [])]), P.2.2.2.2) = Ln
  generalize hZ : hPair bs 250 (Ln.2.1, Ln.2.2.1, Ln.2.2.2.1, Ln.2.2.2.2.1.set s.2.2.1.2.2.2.length Ln.1, Ln.2.2.2.2.2) = Zn
  have hR : hRow bs s = (Zn.2.1, Zn.2.2.1, Zn.2.2.2.1, Zn.2.2.2.2.1, Zn.2.2.2.2.2.set s.2.2.1.2.2.2.length Zn.1) := by
    unfold hRow
    simp only [hN, hs1, hP, hL, hZ]
  have e1 : s1.2.2 = s.2.2 := by rw [← hs1, refif_rest, ← hN, nxt_rest]
  have e2 : P.2.2.2 = s.2.2 := by rw [← hP, nxt_rest, e1]
  have e3 : Ln.2.2.2 = ((P.2.2.2.1.1, P.2.2.2.1.2.1, P.2.2.2.1.2.2.1, P.2.2.2.1.2.2.2 ++ [(N.1, P.1, [])]), P.2.2.2.2) := by rw [← hL, hPair_rest]
  have e4 : Zn.2.2.2 = (Ln.2.2.2.1, Ln.2.2.2.2.1.set s.2.2.1.2.2.2.length Ln.1, Ln.2.2.2.2.2) := by rw [← hZ, hPair_rest]
  have hrows : (hRow bs s).2.2.1.2.2.2 = s.2.2.1.2.2.2 ++ [(N.1, P.1, [])] := by
    rw [hR]
    dsimp only
    rw [e4, e3, e2]
  refine ⟨_, _, hrows, ?_⟩
  have hr := nxt_rng (bs := bs) (lo := 0) (hi := 2) (s := s1) (by decide)
  rw [hP] at hr
  generalize P.1 = v at hr ⊢
  rw [i_le, i_le] at hr
  have z0 : (0 : Int32).toInt = 0 := rfl
  have z2 : (2 : Int32).toInt = 2 := rfl
  have z1 : (1 : Int32).toInt = 1 := rfl
  rw [i_eq, i_eq, i_eq]
  omega
theorem pks_loop {bs : List Int32} : ∀ (n : Nat) (s : pS), pks s → pks (hLoop (hRow bs) n s)
  | 0, _, h => h
  | n + 1, s, h => by
    unfold hLoop
    split
    · exact h
    · refine pks_loop n _ (fun i e he => ?_)
      obtain ⟨a, p, hr, hp⟩ := hRow_rows (bs := bs) (s := s)
      rw [hr] at he
      by_cases c : i < s.2.2.1.2.2.2.length
      · rw [List.getElem?_append_left c] at he
        exact h i e he
      · rw [List.getElem?_append_right (by omega)] at he
        have : i - s.2.2.1.2.2.2.length = 0 := by
          have := (List.getElem?_eq_some_iff.mp he).1
          simp only [List.length_singleton] at this
          omega
        rw [this] at he
        cases he
        exact hp
theorem HD_PG {bs : List Int32} {s : pS} {f : Nat → Int} (h : HD bs s f) (hk : pks s) : PG bs (8 + s.2.2.1.2.1.length * 3 + s.2.2.1.2.2.1.length) 0 s := by
  intro i e _ he
  obtain ⟨-, a2, a3, ⟨l, l1, l2, l3, l4⟩, z, z1, z2, z3, z4⟩ := h.2.2.2.2.2.2.2.1 i e he
  have el : l = nI l.toInt.toNat := by rw [i_eq, i_n (by omega)]; omega
  have ez : z = nI z.toInt.toNat := by rw [i_eq, i_n (by omega)]; omega
  exact ⟨a2, hk i e he, a3, ⟨l.toInt.toNat, by rw [← el]; exact l1, by rw [← el]; exact l2, by omega⟩, z.toInt.toNat, by rw [← ez]; exact z1, by rw [← ez]; exact z2, by omega⟩
theorem hPages_w {bs : List Int32} {n k : Nat} {s : pS} (h : s.2.1.isSome = true) : hPages bs n k s = s := by
  cases n with
  | zero => rfl
  | succ n => exact if_pos h
theorem hPages_t {bs : List Int32} : ∀ (n k : Nat) (s : pS), (hPages bs n k s).2.2.1.1 = s.2.2.1.1 ∧ (hPages bs n k s).2.2.1.2.1 = s.2.2.1.2.1 ∧ (hPages bs n k s).2.2.1.2.2.1 = s.2.2.1.2.2.1
  | 0, _, _ => ⟨rfl, rfl, rfl⟩
  | n + 1, k, s => by
    unfold hPages
    split
    · exact ⟨rfl, rfl, rfl⟩
    · have := hPages_t (bs := bs) n (k + 1) (hPage bs k s)
      have b := sbut.page (bs := bs) (k := k) (s := s)
      exact ⟨this.1.trans b.2.1, this.2.1.trans b.2.2.1, this.2.2.trans b.2.2.2.1⟩
set_option maxRecDepth 100000 in
set_option maxHeartbeats 2000000 in
theorem l_wrPages {G : xG} {d a pk m fr : Nat} {Z : pZ} {bs : List Int32} {pz : Int} {Y0 : yS} {Q : Option yv → yS → Prop} (hp : pkd Z pk bs) (hm8 : m ≤ 8) (hfr : fr ≤ 100) : ∀ (n k : Nat) (kz : Int) (s : pS) (x3 x4 x5 : Option yv) (f : Nat → Int) (A : Nat → List Int32), (s.2.1 = none → k + n = m ∧ f 27 = m ∧ f 28 = fr ∧ PG bs fr k s ∧ s.2.2.1.2.2.2.length = m) → kz = k → k ≤ 100 → -1 ≤ f 27 → f 27 ≤ 8 → mRd Z pk bs s (f, A) → fkp Y0 (f, A) → (∀ (f' : Nat → Int) (A' : Nat → List Int32) (x2 x3 x4 x5 : Option yv), mRd Z pk bs (hPages bs n k s) (f', A') → fkp Y0 (f', A') → yw G (d + 4) a mX9_wrong 121 [some (.inr 0), some (.inl pz), x2, x3, x4, x5] [] (f', A') Q) →
    yw G (d + 4) a mX9_wrong 21 [some (.inr 0), some (.inl pz), some (.inl kz), x3, x4, x5] [] (f, A) Q := by
  obtain ⟨xp, hxp, hxb, hp16, hlb, hbb⟩ := id hp
  intro n
  have wr : ∀ (n k : Nat) (kz : Int) (s : pS) (x3 x4 x5 : Option yv) (f : Nat → Int) (A : Nat → List Int32) (w : Nat), s.2.1 = some w → kz = k → k ≤ 100 → -1 ≤ f 27 → f 27 ≤ 8 → mRd Z pk bs s (f, A) → fkp Y0 (f, A) → (∀ (f' : Nat → Int) (A' : Nat → List Int32) (x2 x3 x4 x5 : Option yv), mRd Z pk bs (hPages bs n k s) (f', A') → fkp Y0 (f', A') → yw G (d + 4) a mX9_wrong 121 [some (.inr 0), some (.inl pz), x2, x3, x4, x5] [] (f', A') Q) → yw G (d + 4) a mX9_wrong 21 [some (.inr 0), some (.inl pz), some (.inl kz), x3, x4, x5] [] (f, A) Q := by
    intro n k kz s x3 x4 x5 f A w hw hkz hk1 hf1 hf2 h hk0 hQ
    have h24 : f 24 = oZ s.2.1 := h.2.2.1
    have hz : f 24 = w := by rw [h24, hw]; rfl
    have hwl := h.2.2.2.2.2.2 w hw
    rw [hPages_w (by rw [hw]; rfl)] at hQ
    refine ygo 99999 90 rfl rfl (by first | exact trivial | (simp only [true_and, eq_self, or_true, true_or, and_true, yu, ya, reduceIte, Nat.reduceEqDiff, Int32.reduceToInt, Int.toNat_natCast, Int.reduceToNat]; omega) | decide | (simp; done) | (simp; omega)) ?_
    try simp only [List.map_cons, List.map_nil, List.length_cons, List.length_nil, ylr_s, ylr_0, Nat.reduceAdd, Nat.reduceSub, List.cons_append, List.nil_append, List.set_cons_zero, List.set_cons_succ, Option.toList_none, Option.toList_some, Int32.reduceToInt, yu, ya, reduceIte, Nat.reduceEqDiff, Int.toNat_natCast, Int.reduceToNat]
    refine yi_icmpge rfl (by refine ⟨?_, ?_⟩ <;> first | exact yr_t _ | exact yr_b _ | (unfold yr; omega)) (fun c => ?_) (fun c => ?_)
    · exact hQ f A _ _ _ _ h hk0
    refine ygo 99999 90 rfl rfl (by first | exact trivial | (simp only [true_and, eq_self, or_true, true_or, and_true, yu, ya, reduceIte, Nat.reduceEqDiff, Int32.reduceToInt, Int.toNat_natCast, Int.reduceToNat]; omega) | decide | (simp; done) | (simp; omega)) ?_
    try simp only [List.map_cons, List.map_nil, List.length_cons, List.length_nil, ylr_s, ylr_0, Nat.reduceAdd, Nat.reduceSub, List.cons_append, List.nil_append, List.set_cons_zero, List.set_cons_succ, Option.toList_none, Option.toList_some, Int32.reduceToInt, yu, ya, reduceIte, Nat.reduceEqDiff, Int.toNat_natCast, Int.reduceToNat]
    refine yi_ifge rfl (by first | exact yr_t _ | exact yr_b _ | (unfold yr; omega)) (fun c2 => ?_) (fun c2 => ?_)
    · exact hQ f A _ _ _ _ h hk0
    · omega
  induction n with
  | zero =>
    intro k kz s x3 x4 x5 f A hin hkz hk1 hf1 hf2 h hk0 hQ
    cases hw : s.2.1 with
    | some w => exact wr 0 k kz s x3 x4 x5 f A w hw hkz hk1 hf1 hf2 h hk0 hQ
    | none =>
      have hi := hin hw
      refine ygo 99999 90 rfl rfl (by first | exact trivial | (simp only [true_and, eq_self, or_true, true_or, and_true, yu, ya, reduceIte, Nat.reduceEqDiff, Int32.reduceToInt, Int.toNat_natCast, Int.reduceToNat]; omega) | decide | (simp; done) | (simp; omega)) ?_
      try simp only [List.map_cons, List.map_nil, List.length_cons, List.length_nil, ylr_s, ylr_0, Nat.reduceAdd, Nat.reduceSub, List.cons_append, List.nil_append, List.set_cons_zero, List.set_cons_succ, Option.toList_none, Option.toList_some, Int32.reduceToInt, yu, ya, reduceIte, Nat.reduceEqDiff, Int.toNat_natCast, Int.reduceToNat]
      refine yi_icmpge rfl (by refine ⟨?_, ?_⟩ <;> first | exact yr_t _ | exact yr_b _ | (unfold yr; omega)) (fun c => ?_) (fun c => ?_)
      · exact hQ f A _ _ _ _ h hk0
      · omega
  | succ n ih =>
    intro k kz s x3 x4 x5 f A hin hkz hk1 hf1 hf2 h hk0 hQ
    cases hw : s.2.1 with
    | some w => exact wr (n + 1) k kz s x3 x4 x5 f A w hw hkz hk1 hf1 hf2 h hk0 hQ
    | none =>
      obtain ⟨i1, i2, i3, i4, i5⟩ := hin hw
      have h24 : f 24 = oZ s.2.1 := h.2.2.1
      have hz : f 24 = -1 := by rw [h24, hw]; rfl
      have hu : hPages bs (n + 1) k s = hPages bs n (k + 1) (hPage bs k s) := if_neg (by rw [hw]; decide)
      rw [hu] at hQ
      obtain ⟨e, he⟩ := lt_get (l := s.2.2.1.2.2.2) (j := k) (by omega)
      obtain ⟨p1, p2, p3, ⟨l, l1, l2, l3⟩, z, z1, z2, z3⟩ := i4 k e (by omega) he
      have hlz : (nI l).toInt = l := i_n (by omega)
      have hzz : (nI z).toInt = z := i_n (by omega)
      have hbut := sbut.page (bs := bs) (k := k) (s := s)
      have hPk : hPage bs k s = if e.2.1 = 1 then hPairs bs k z (nI l) s else if e.2.1 = 2 then hOps bs k z (nI l) s else hPlainPage bs k (nI l) (nI z) s := by
        unfold hPage
        dsimp only
        rw [List.getD_eq_getElem?_getD, List.getD_eq_getElem?_getD, List.getD_eq_getElem?_getD, l2, z2, he]
        dsimp only [Option.getD_some]
        rw [hzz, Int.toNat_natCast]
      have go : ∀ (f' : Nat → Int) (A' : Nat → List Int32) (y3 y4 y5 : Option yv), mRd Z pk bs (hPage bs k s) (f', A') → fkp (f, A) (f', A') → yw G (d + 4) a mX9_wrong 21 [some (.inr 0), some (.inl pz), some (.inl (kz + 1)), y3, y4, y5] [] (f', A') Q := by
        intro f' A' y3 y4 y5 hm hk
        have e27 : f' 27 = f 27 := hk.2 27 (by omega) (by omega)
        have e28 : f' 28 = f 28 := hk.2 28 (by omega) (by omega)
        exact ih (k + 1) _ (hPage bs k s) y3 y4 y5 f' A' (fun _ => ⟨by omega, by omega, by omega, i4.next hbut, by rw [hbut.2.2.2.2.1]; exact i5⟩) (by omega) (by omega) (by omega) (by omega) hm (hk0.tr hk) hQ
      generalize hPage bs k s = P at hPk go
      refine ygo 99999 90 rfl rfl (by first | exact trivial | (simp only [true_and, eq_self, or_true, true_or, and_true, yu, ya, reduceIte, Nat.reduceEqDiff, Int32.reduceToInt, Int.toNat_natCast, Int.reduceToNat]; omega) | decide | (simp; done) | (simp; omega)) ?_
      try simp only [List.map_cons, List.map_nil, List.length_cons, List.length_nil, ylr_s, ylr_0, Nat.reduceAdd, Nat.reduceSub, List.cons_append, List.nil_append, List.set_cons_zero, List.set_cons_succ, Option.toList_none, Option.toList_some, Int32.reduceToInt, yu, ya, reduceIte, Nat.reduceEqDiff, Int.toNat_natCast, Int.reduceToNat]
      refine yi_icmpge rfl (by refine ⟨?_, ?_⟩ <;> first | exact yr_t _ | exact yr_b _ | (unfold yr; omega)) (fun c => ?_) (fun c => ?_)
      · omega
      refine ygo 99999 90 rfl rfl (by first | exact trivial | (simp only [true_and, eq_self, or_true, true_or, and_true, yu, ya, reduceIte, Nat.reduceEqDiff, Int32.reduceToInt, Int.toNat_natCast, Int.reduceToNat]; omega) | decide | (simp; done) | (simp; omega)) ?_
      try simp only [List.map_cons, List.map_nil, List.length_cons, List.length_nil, ylr_s, ylr_0, Nat.reduceAdd, Nat.reduceSub, List.cons_append, List.nil_append, List.set_cons_zero, List.set_cons_succ, Option.toList_none, Option.toList_some, Int32.reduceToInt, yu, ya, reduceIte, Nat.reduceEqDiff, Int.toNat_natCast, Int.reduceToNat]
      refine yi_ifge rfl (by first | exact yr_t _ | exact yr_b _ | (unfold yr; omega)) (fun c2 => ?_) (fun c2 => ?_)
      · omega
      refine ygo 99999 90 rfl rfl (by first | exact trivial | (simp only [true_and, eq_self, or_true, true_or, and_true, yu, ya, reduceIte, Nat.reduceEqDiff, Int32.reduceToInt, Int.toNat_natCast, Int.reduceToNat]; omega) | decide | (simp; done) | (simp; omega)) ?_
      try simp only [List.map_cons, List.map_nil, List.length_cons, List.length_nil, ylr_s, ylr_0, Nat.reduceAdd, Nat.reduceSub, List.cons_append, List.nil_append, List.set_cons_zero, List.set_cons_succ, Option.toList_none, Option.toList_some, Int32.reduceToInt, yu, ya, reduceIte, Nat.reduceEqDiff, Int.toNat_natCast, Int.reduceToNat]
      refine ycV rfl rfl rfl (cm_here (i := fr + k * 6 + 3) (b := nI l) h.1 h.2.1 hp (by omega) l1) rfl kX9_here iX9_here rfl rfl rfl (Nat.le_of_ble_eq_true rfl) (fun v1 Y1 q1 => ?_)
      obtain ⟨rfl, rfl⟩ := q1
      refine ygo 99999 90 rfl rfl (by first | exact trivial | (simp only [true_and, eq_self, or_true, true_or, and_true, yu, ya, reduceIte, Nat.reduceEqDiff, Int32.reduceToInt, Int.toNat_natCast, Int.reduceToNat]; omega) | decide | (simp; done) | (simp; omega)) ?_
      try simp only [List.map_cons, List.map_nil, List.length_cons, List.length_nil, ylr_s, ylr_0, Nat.reduceAdd, Nat.reduceSub, List.cons_append, List.nil_append, List.set_cons_zero, List.set_cons_succ, Option.toList_none, Option.toList_some, Int32.reduceToInt, yu, ya, reduceIte, Nat.reduceEqDiff, Int.toNat_natCast, Int.reduceToNat]
      refine ycV rfl rfl rfl (cm_here (i := fr + k * 6 + 5) (b := nI z) h.1 h.2.1 hp (by omega) z1) rfl kX9_here iX9_here rfl rfl rfl (Nat.le_of_ble_eq_true rfl) (fun v2 Y2 q2 => ?_)
      obtain ⟨rfl, rfl⟩ := q2
      refine ygo 99999 90 rfl rfl (by first | exact trivial | (simp only [true_and, eq_self, or_true, true_or, and_true, yu, ya, reduceIte, Nat.reduceEqDiff, Int32.reduceToInt, Int.toNat_natCast, Int.reduceToNat]; omega) | decide | (simp; done) | (simp; omega)) ?_
      try simp only [List.map_cons, List.map_nil, List.length_cons, List.length_nil, ylr_s, ylr_0, Nat.reduceAdd, Nat.reduceSub, List.cons_append, List.nil_append, List.set_cons_zero, List.set_cons_succ, Option.toList_none, Option.toList_some, Int32.reduceToInt, yu, ya, reduceIte, Nat.reduceEqDiff, Int.toNat_natCast, Int.reduceToNat]
      refine ycV rfl rfl rfl (cm_here (i := fr + k * 6 + 1) (b := e.2.1) h.1 h.2.1 hp (by omega) p1) rfl kX9_here iX9_here rfl rfl rfl (Nat.le_of_ble_eq_true rfl) (fun v3 Y3 q3 => ?_)
      obtain ⟨rfl, rfl⟩ := q3
      have t0 : (0 : Int32).toInt = 0 := rfl
      have t1 : (1 : Int32).toInt = 1 := rfl
      have t2 : (2 : Int32).toInt = 2 := rfl
      have hw0 : ∃ w : Int32 × Int32 × List Int32, s.2.2.1.2.2.2[k]? = some w ∧ w.2.2.length = 0 := ⟨e, he, by rw [p3]; rfl⟩
      rcases p2 with p2 | p2 | p2
      · rw [p2, if_neg (by decide), if_neg (by decide)] at hPk
        rw [p2]
        refine ygo 99999 90 rfl rfl (by first | exact trivial | (simp only [true_and, eq_self, or_true, true_or, and_true, yu, ya, reduceIte, Nat.reduceEqDiff, Int32.reduceToInt, Int.toNat_natCast, Int.reduceToNat]; omega) | decide | (simp; done) | (simp; omega)) ?_
        try simp only [List.map_cons, List.map_nil, List.length_cons, List.length_nil, ylr_s, ylr_0, Nat.reduceAdd, Nat.reduceSub, List.cons_append, List.nil_append, List.set_cons_zero, List.set_cons_succ, Option.toList_none, Option.toList_some, Int32.reduceToInt, yu, ya, reduceIte, Nat.reduceEqDiff, Int.toNat_natCast, Int.reduceToNat]
        refine yi_ifne rfl (by first | exact yr_t _ | exact yr_b _ | (unfold yr; omega)) (fun c3 => ?_) (fun c3 => ?_)
        · omega
        · refine ygo 99999 90 rfl rfl (by first | exact trivial | (simp only [true_and, eq_self, or_true, true_or, and_true, yu, ya, reduceIte, Nat.reduceEqDiff, Int32.reduceToInt, Int.toNat_natCast, Int.reduceToNat]; omega) | decide | (simp; done) | (simp; omega)) ?_
          try simp only [List.map_cons, List.map_nil, List.length_cons, List.length_nil, ylr_s, ylr_0, Nat.reduceAdd, Nat.reduceSub, List.cons_append, List.nil_append, List.set_cons_zero, List.set_cons_succ, Option.toList_none, Option.toList_some, Int32.reduceToInt, yu, ya, reduceIte, Nat.reduceEqDiff, Int.toNat_natCast, Int.reduceToNat]
          refine ycV rfl rfl rfl (cm_readPlain (r := k) (x := nI l) (z := nI z) h hp hw rfl rfl (by omega) (by omega)) rfl kX9_readPlain iX9_readPlain rfl rfl rfl (Nat.le_of_ble_eq_true rfl) (fun v4 Y4 q4 => ?_)
          obtain ⟨rfl, h4, k4⟩ := q4
          obtain ⟨f4, A4⟩ := Y4
          rw [← hPk] at h4
          refine ygo 21 90 rfl rfl (by first | exact trivial | (simp only [true_and, eq_self, or_true, true_or, and_true, yu, ya, reduceIte, Nat.reduceEqDiff, Int32.reduceToInt, Int.toNat_natCast, Int.reduceToNat]; omega) | decide | (simp; done) | (simp; omega)) ?_
          try simp only [List.map_cons, List.map_nil, List.length_cons, List.length_nil, ylr_s, ylr_0, Nat.reduceAdd, Nat.reduceSub, List.cons_append, List.nil_append, List.set_cons_zero, List.set_cons_succ, Option.toList_none, Option.toList_some, Int32.reduceToInt, yu, ya, reduceIte, Nat.reduceEqDiff, Int.toNat_natCast, Int.reduceToNat]
          exact go f4 A4 _ _ _ h4 k4
      · rw [p2, if_pos rfl] at hPk
        rw [p2]
        refine ygo 99999 90 rfl rfl (by first | exact trivial | (simp only [true_and, eq_self, or_true, true_or, and_true, yu, ya, reduceIte, Nat.reduceEqDiff, Int32.reduceToInt, Int.toNat_natCast, Int.reduceToNat]; omega) | decide | (simp; done) | (simp; omega)) ?_
        try simp only [List.map_cons, List.map_nil, List.length_cons, List.length_nil, ylr_s, ylr_0, Nat.reduceAdd, Nat.reduceSub, List.cons_append, List.nil_append, List.set_cons_zero, List.set_cons_succ, Option.toList_none, Option.toList_some, Int32.reduceToInt, yu, ya, reduceIte, Nat.reduceEqDiff, Int.toNat_natCast, Int.reduceToNat]
        refine yi_ifne rfl (by first | exact yr_t _ | exact yr_b _ | (unfold yr; omega)) (fun c3 => ?_) (fun c3 => ?_)
        · refine ygo 99999 90 rfl rfl (by first | exact trivial | (simp only [true_and, eq_self, or_true, true_or, and_true, yu, ya, reduceIte, Nat.reduceEqDiff, Int32.reduceToInt, Int.toNat_natCast, Int.reduceToNat]; omega) | decide | (simp; done) | (simp; omega)) ?_
          try simp only [List.map_cons, List.map_nil, List.length_cons, List.length_nil, ylr_s, ylr_0, Nat.reduceAdd, Nat.reduceSub, List.cons_append, List.nil_append, List.set_cons_zero, List.set_cons_succ, Option.toList_none, Option.toList_some, Int32.reduceToInt, yu, ya, reduceIte, Nat.reduceEqDiff, Int.toNat_natCast, Int.reduceToNat]
          refine ycV rfl rfl rfl (cm_here (i := fr + k * 6 + 1) (b := e.2.1) h.1 h.2.1 hp (by omega) p1) rfl kX9_here iX9_here rfl rfl rfl (Nat.le_of_ble_eq_true rfl) (fun v5 Y5 q5 => ?_)
          obtain ⟨rfl, rfl⟩ := q5
          rw [p2]
          refine ygo 99999 90 rfl rfl (by first | exact trivial | (simp only [true_and, eq_self, or_true, true_or, and_true, yu, ya, reduceIte, Nat.reduceEqDiff, Int32.reduceToInt, Int.toNat_natCast, Int.reduceToNat]; omega) | decide | (simp; done) | (simp; omega)) ?_
          try simp only [List.map_cons, List.map_nil, List.length_cons, List.length_nil, ylr_s, ylr_0, Nat.reduceAdd, Nat.reduceSub, List.cons_append, List.nil_append, List.set_cons_zero, List.set_cons_succ, Option.toList_none, Option.toList_some, Int32.reduceToInt, yu, ya, reduceIte, Nat.reduceEqDiff, Int.toNat_natCast, Int.reduceToNat]
          refine yi_icmpne rfl (by refine ⟨?_, ?_⟩ <;> first | exact yr_t _ | exact yr_b _ | (unfold yr; omega)) (fun c4 => ?_) (fun c4 => ?_)
          · omega
          · refine ygo 99999 90 rfl rfl (by first | exact trivial | (simp only [true_and, eq_self, or_true, true_or, and_true, yu, ya, reduceIte, Nat.reduceEqDiff, Int32.reduceToInt, Int.toNat_natCast, Int.reduceToNat]; omega) | decide | (simp; done) | (simp; omega)) ?_
            try simp only [List.map_cons, List.map_nil, List.length_cons, List.length_nil, ylr_s, ylr_0, Nat.reduceAdd, Nat.reduceSub, List.cons_append, List.nil_append, List.set_cons_zero, List.set_cons_succ, Option.toList_none, Option.toList_some, Int32.reduceToInt, yu, ya, reduceIte, Nat.reduceEqDiff, Int.toNat_natCast, Int.reduceToNat]
            refine ycV rfl rfl rfl (cm_readPairs (k := k) (lr := l) (z := z) h hp hw hlz hzz (by omega) (by omega) (by omega) hw0) rfl kX9_readPairs iX9_readPairs rfl rfl rfl (Nat.le_of_ble_eq_true rfl) (fun v4 Y4 q4 => ?_)
            obtain ⟨rfl, h4, k4⟩ := q4
            obtain ⟨f4, A4⟩ := Y4
            rw [← hPk] at h4
            refine ygo 21 90 rfl rfl (by first | exact trivial | (simp only [true_and, eq_self, or_true, true_or, and_true, yu, ya, reduceIte, Nat.reduceEqDiff, Int32.reduceToInt, Int.toNat_natCast, Int.reduceToNat]; omega) | decide | (simp; done) | (simp; omega)) ?_
            try simp only [List.map_cons, List.map_nil, List.length_cons, List.length_nil, ylr_s, ylr_0, Nat.reduceAdd, Nat.reduceSub, List.cons_append, List.nil_append, List.set_cons_zero, List.set_cons_succ, Option.toList_none, Option.toList_some, Int32.reduceToInt, yu, ya, reduceIte, Nat.reduceEqDiff, Int.toNat_natCast, Int.reduceToNat]
            exact go f4 A4 _ _ _ h4 k4
        · omega
      · rw [p2, if_neg (by decide), if_pos rfl] at hPk
        rw [p2]
        refine ygo 99999 90 rfl rfl (by first | exact trivial | (simp only [true_and, eq_self, or_true, true_or, and_true, yu, ya, reduceIte, Nat.reduceEqDiff, Int32.reduceToInt, Int.toNat_natCast, Int.reduceToNat]; omega) | decide | (simp; done) | (simp; omega)) ?_
        try simp only [List.map_cons, List.map_nil, List.length_cons, List.length_nil, ylr_s, ylr_0, Nat.reduceAdd, Nat.reduceSub, List.cons_append, List.nil_append, List.set_cons_zero, List.set_cons_succ, Option.toList_none, Option.toList_some, Int32.reduceToInt, yu, ya, reduceIte, Nat.reduceEqDiff, Int.toNat_natCast, Int.reduceToNat]
        refine yi_ifne rfl (by first | exact yr_t _ | exact yr_b _ | (unfold yr; omega)) (fun c3 => ?_) (fun c3 => ?_)
        · refine ygo 99999 90 rfl rfl (by first | exact trivial | (simp only [true_and, eq_self, or_true, true_or, and_true, yu, ya, reduceIte, Nat.reduceEqDiff, Int32.reduceToInt, Int.toNat_natCast, Int.reduceToNat]; omega) | decide | (simp; done) | (simp; omega)) ?_
          try simp only [List.map_cons, List.map_nil, List.length_cons, List.length_nil, ylr_s, ylr_0, Nat.reduceAdd, Nat.reduceSub, List.cons_append, List.nil_append, List.set_cons_zero, List.set_cons_succ, Option.toList_none, Option.toList_some, Int32.reduceToInt, yu, ya, reduceIte, Nat.reduceEqDiff, Int.toNat_natCast, Int.reduceToNat]
          refine ycV rfl rfl rfl (cm_here (i := fr + k * 6 + 1) (b := e.2.1) h.1 h.2.1 hp (by omega) p1) rfl kX9_here iX9_here rfl rfl rfl (Nat.le_of_ble_eq_true rfl) (fun v5 Y5 q5 => ?_)
          obtain ⟨rfl, rfl⟩ := q5
          rw [p2]
          refine ygo 99999 90 rfl rfl (by first | exact trivial | (simp only [true_and, eq_self, or_true, true_or, and_true, yu, ya, reduceIte, Nat.reduceEqDiff, Int32.reduceToInt, Int.toNat_natCast, Int.reduceToNat]; omega) | decide | (simp; done) | (simp; omega)) ?_
          try simp only [List.map_cons, List.map_nil, List.length_cons, List.length_nil, ylr_s, ylr_0, Nat.reduceAdd, Nat.reduceSub, List.cons_append, List.nil_append, List.set_cons_zero, List.set_cons_succ, Option.toList_none, Option.toList_some, Int32.reduceToInt, yu, ya, reduceIte, Nat.reduceEqDiff, Int.toNat_natCast, Int.reduceToNat]
          refine yi_icmpne rfl (by refine ⟨?_, ?_⟩ <;> first | exact yr_t _ | exact yr_b _ | (unfold yr; omega)) (fun c4 => ?_) (fun c4 => ?_)
          · refine ygo 99999 90 rfl rfl (by first | exact trivial | (simp only [true_and, eq_self, or_true, true_or, and_true, yu, ya, reduceIte, Nat.reduceEqDiff, Int32.reduceToInt, Int.toNat_natCast, Int.reduceToNat]; omega) | decide | (simp; done) | (simp; omega)) ?_
            try simp only [List.map_cons, List.map_nil, List.length_cons, List.length_nil, ylr_s, ylr_0, Nat.reduceAdd, Nat.reduceSub, List.cons_append, List.nil_append, List.set_cons_zero, List.set_cons_succ, Option.toList_none, Option.toList_some, Int32.reduceToInt, yu, ya, reduceIte, Nat.reduceEqDiff, Int.toNat_natCast, Int.reduceToNat]
            refine ycV rfl rfl rfl (cm_readOps (k := k) (lr := l) (z := z) h hp hw hlz hzz (by omega) (by omega) (by omega) hw0) rfl kX9_readOps iX9_readOps rfl rfl rfl (Nat.le_of_ble_eq_true rfl) (fun v4 Y4 q4 => ?_)
            obtain ⟨rfl, h4, k4⟩ := q4
            obtain ⟨f4, A4⟩ := Y4
            rw [← hPk] at h4
            refine ygo 21 90 rfl rfl (by first | exact trivial | (simp only [true_and, eq_self, or_true, true_or, and_true, yu, ya, reduceIte, Nat.reduceEqDiff, Int32.reduceToInt, Int.toNat_natCast, Int.reduceToNat]; omega) | decide | (simp; done) | (simp; omega)) ?_
            try simp only [List.map_cons, List.map_nil, List.length_cons, List.length_nil, ylr_s, ylr_0, Nat.reduceAdd, Nat.reduceSub, List.cons_append, List.nil_append, List.set_cons_zero, List.set_cons_succ, Option.toList_none, Option.toList_some, Int32.reduceToInt, yu, ya, reduceIte, Nat.reduceEqDiff, Int.toNat_natCast, Int.reduceToNat]
            exact go f4 A4 _ _ _ h4 k4
          · omega
        · omega
