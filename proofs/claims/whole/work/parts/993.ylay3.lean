abbrev layP (Z : pZ) (K : cV) (f : Nat → Int) : Option yv → yS → Prop := fun w Y' => match K.2.1.findIdx? (fun nd => decide (meetI Z.2.2.2.2.2.1 nd < 0)) with
  | some i => w = some (.inl 0) ∧ mR (zW Z (nI i)) Y'
  | none => w = some (.inl 1) ∧ Y'.1 = f ∧ mR Z Y' ∧ laid Z.2.2.2.2.2.1.length K (K.2.1.map (meetI Z.2.2.2.2.2.1)) Y'.2
set_option maxRecDepth 100000 in
set_option maxHeartbeats 2000000 in
theorem l_ld0 {G : xG} {d a pk : Nat} {ez : Int} {x4 x5 : Option yv} {bs : List Int32} {K : cV} {Z : pZ} {f : Nat → Int} {A : Nat → List Int32} (hR : mR Z (f, A)) (hk : okS Z.2.2.2.2.2.1) (hB : hbs pk bs f A) (hK : LD bs K f) (hKo : okK K) (hez : ez = Z.2.2.2.2.2.1.length) (hn : Z.2.2.2.2.2.1.length < 12) (x2 : Int) (h2 : x2 = 6 + 3 * K.2.1.length) (A0 : Nat → List Int32) (h0 : fkl Z.2.2.2.2.2.1.length A A0) (c36 : (A0 36).getD Z.2.2.2.2.2.1.length 0 = K.1.1) (c37 : (A0 37).getD Z.2.2.2.2.2.1.length 0 = K.1.2.1) (c38 : (A0 38).getD Z.2.2.2.2.2.1.length 0 = K.1.2.2.1) (c40 : (A0 40).getD Z.2.2.2.2.2.1.length 0 = nI K.2.1.length) (c42 : (A0 42).getD Z.2.2.2.2.2.1.length 0 = nI K.2.2.1.length) :
    yw G (d + 2) a mX9_layDown 67 [some (.inr 0), some (.inl ez), some (.inl x2), some (.inl 0), x4, x5] [] (f, A0) (layP Z K f) := by
  refine yw.len (fun hl => ?_)
  obtain ⟨a1, a2, a3, a4, a5, a6, a7, a8, a9, a10, a11⟩ := id hK
  have l41 : (A0 41).length = 48 := hl 41 _ rfl
  have l43 : (A0 43).length = 48 := hl 43 _ rfl
  have l44 : (A0 44).length = 12 := hl 44 _ rfl
  have l45 : (A0 45).length = 96 := hl 45 _ rfl
  have l46 : (A0 46).length = 96 := hl 46 _ rfl
  have l47 : (A0 47).length = 11520 := hl 47 _ rfl
  have hB0 : hbs pk bs f A0 := hB.fk rfl (h0.1 20 (by omega))
  refine l_ld1 (A := A0) hB0 hK hez hn h2 l43 (fun A1 f1 y3 => ?_) K.2.2.1.length 0 0 A0 (by omega) rfl fil.nil
  have hB1 : hbs pk bs f A1 := hB0.fk rfl (f1.1 20 (by omega))
  have e44 : A1 44 = A0 44 := f1.1 44 (by omega)
  have hez' : ez.toNat = Z.2.2.2.2.2.1.length := by omega
  refine ygo 126 90 rfl rfl (by first | exact trivial | (simp only [true_and, eq_self, or_true, true_or, and_true, yu, ya, reduceIte, Nat.reduceEqDiff, Int32.reduceToInt, Int.toNat_natCast, Int.reduceToNat]; omega) | decide | (simp; done) | (simp; omega)) ?_
  try simp only [List.map_cons, List.map_nil, List.length_cons, List.length_nil, ylr_s, ylr_0, Nat.reduceAdd, Nat.reduceSub, List.cons_append, List.nil_append, List.set_cons_zero, List.set_cons_succ, Option.toList_none, Option.toList_some, Int32.reduceToInt, yu, ya, reduceIte, Nat.reduceEqDiff, Int.toNat_natCast, Int.reduceToNat]
  generalize hA2 : ya A1 44 ((A1 44).set ez.toNat (Int32.ofInt (f 27))) = A2
  have g2 : fkl Z.2.2.2.2.2.1.length A1 A2 := by
    rw [← hA2]
    exact fkl.set (by omega) (by show 1 * _ ≤ _; omega)
  have n2 : ∀ k, k ≠ 44 → A2 k = A1 k := fun k hk => by rw [← hA2]; exact if_neg hk
  have d44 : (A2 44).getD Z.2.2.2.2.2.1.length 0 = nI K.2.2.2.length := by
    rw [← hA2, hez']
    show ((A1 44).set _ _).getD _ 0 = _
    rw [gset_eq (by rw [e44, l44]; exact hn), a8, iofn]
  refine l_ld2 (A := A2) (hB1.fk rfl (n2 20 (by omega))) hK hez hn (fun w hw => (hKo.2.2.2.2.2.2.2.2 w hw).2.2.1) (fun A3 r3 y3 y4 y5 => ?_) K.2.2.2.length 0 (8 + K.2.1.length * 3 + K.2.2.1.length + K.2.2.2.length * 6) _ _ _ A2 (by omega) rfl (by omega) (by omega) (by rw [List.drop_zero]; exact a11) ⟨fun _ _ _ _ => rfl, by rw [n2 45 (by omega), f1.1 45 (by omega)]; exact l45, by rw [n2 46 (by omega), f1.1 46 (by omega)]; exact l46, by rw [n2 47 (by omega), f1.1 47 (by omega)]; exact l47, fun _ _ => rfl, fun _ _ => rfl, fun _ _ => rfl, fun j w hj => absurd hj (by omega)⟩
  have g3 : fkl Z.2.2.2.2.2.1.length A A3 := ((h0.tr (fkl.fil (k := 43) (by omega) f1)).tr g2).tr (fkl.rws r3)
  have hR3 := hR.lay hk g3
  have q3 : ∀ k, k ≠ 43 → k ≠ 44 → k ≠ 45 → k ≠ 46 → k ≠ 47 → A3 k = A0 k := fun k b1 b2 b3 b4 b5 => by rw [r3.1 k b3 b4 b5, n2 k b2, f1.1 k b1]
  refine ygo 229 90 rfl rfl (by first | exact trivial | (simp only [true_and, eq_self, or_true, true_or, and_true, yu, ya, reduceIte, Nat.reduceEqDiff, Int32.reduceToInt, Int.toNat_natCast, Int.reduceToNat]; omega) | decide | (simp; done) | (simp; omega)) ?_
  try simp only [List.map_cons, List.map_nil, List.length_cons, List.length_nil, ylr_s, ylr_0, Nat.reduceAdd, Nat.reduceSub, List.cons_append, List.nil_append, List.set_cons_zero, List.set_cons_succ, Option.toList_none, Option.toList_some, Int32.reduceToInt, yu, ya, reduceIte, Nat.reduceEqDiff, Int.toNat_natCast, Int.reduceToNat]
  refine (l_ld3 (A := A3) hR3 hk (hB0.fk rfl (q3 20 (by omega) (by omega) (by omega) (by omega) (by omega))) hK (fun e he => (hKo.2.2.2.2.1 e he).2.2) hez hn (by rw [q3 41 (by omega) (by omega) (by omega) (by omega) (by omega)]; exact l41) K.2.1.length 0 0 _ A3 (by omega) rfl fil.nil (fun j nd hj => absurd hj (by omega))).mono (fun w Y' hq => ?_)
  unfold layP
  cases hfi : K.2.1.findIdx? (fun nd => decide (meetI Z.2.2.2.2.2.1 nd < 0)) with
  | some i =>
    rw [hfi] at hq
    exact hq
  | none =>
    rw [hfi] at hq
    obtain ⟨q1, q2, q4⟩ := hq
    obtain ⟨f4, A4⟩ := Y'
    dsimp only at q2 q4 ⊢
    subst q2
    refine ⟨q1, rfl, hR3.lay hk (fkl.fil (k := 41) (by omega) q4), ?_⟩
    have p4 : ∀ k, k ≠ 41 → A4 k = A3 k := fun k hk => q4.1 k hk
    refine ⟨by rw [p4 36 (by omega), q3 36 (by omega) (by omega) (by omega) (by omega) (by omega)]; exact c36, by rw [p4 37 (by omega), q3 37 (by omega) (by omega) (by omega) (by omega) (by omega)]; exact c37, by rw [p4 38 (by omega), q3 38 (by omega) (by omega) (by omega) (by omega) (by omega)]; exact c38, by rw [p4 40 (by omega), q3 40 (by omega) (by omega) (by omega) (by omega) (by omega), List.length_map]; exact c40, q4.2.2.2, by rw [p4 42 (by omega), q3 42 (by omega) (by omega) (by omega) (by omega) (by omega)]; exact c42, ?_, ?_, ?_⟩
    · rw [p4 43 (by omega), r3.1 43 (by omega) (by omega) (by omega), n2 43 (by omega)]
      exact f1.2.2.2
    · rw [p4 44 (by omega), r3.1 44 (by omega) (by omega) (by omega)]
      exact d44
    · rw [p4 45 (by omega), p4 46 (by omega), p4 47 (by omega)]
      exact fun r w hw => r3.2.2.2.2.2.2.2 r w (List.getElem?_eq_some_iff.mp hw).1 hw
theorem man2 {m : Int32} (h0 : 0 ≤ m.toInt) (h3 : m.toInt ≤ 3) : Int32.ofInt (m.toInt % 2) = m - m / 2 * 2 := by
  have h : ∀ k : Nat, k ≤ 3 → Int32.ofInt ((nI k).toInt % 2) = nI k - nI k / 2 * 2 := by decide
  rw [toN h0]
  exact h _ (by omega)
set_option maxRecDepth 100000 in
set_option maxHeartbeats 2000000 in
theorem cm_layDown {G : xG} {d a pk : Nat} {ez : Int} {bs : List Int32} {K : cV} {Z : pZ} {f : Nat → Int} {A : Nat → List Int32} (hR : mR Z (f, A)) (hk : okS Z.2.2.2.2.2.1) (hB : hbs pk bs f A) (hK : LD bs K f) (hKo : okK K) (hez : ez = Z.2.2.2.2.2.1.length) (hn : Z.2.2.2.2.2.1.length < 12) : ym G (d + 2) a mX9_layDown [.inr 0, .inl ez] (f, A) (layP Z K f) := by
  refine ym.len (fun hl => ?_)
  obtain ⟨⟨t1, t2, mm, t3, t4, t5, t6, -⟩, -, a3, a4, -, a6, a7, -⟩ := id hK
  have l36 : (A 36).length = 12 := hl 36 _ rfl
  have l37 : (A 37).length = 12 := hl 37 _ rfl
  have l38 : (A 38).length = 12 := hl 38 _ rfl
  have l40 : (A 40).length = 12 := hl 40 _ rfl
  have l42 : (A 42).length = 12 := hl 42 _ rfl
  have hez' : ez.toNat = Z.2.2.2.2.2.1.length := by omega
  refine ym_at 6 rfl (by decide) (Nat.le_of_ble_eq_true rfl) tX9_layDown_ok ?_
  try simp only [List.map_cons, List.map_nil, List.length_cons, List.length_nil, ylr_s, ylr_0, Nat.reduceAdd, Nat.reduceSub, List.cons_append, List.nil_append, List.set_cons_zero, List.set_cons_succ, Option.toList_none, Option.toList_some, Int32.reduceToInt, yu, ya, reduceIte, Nat.reduceEqDiff, Int.toNat_natCast, Int.reduceToNat]
  refine ygo 99999 90 rfl rfl (by first | exact trivial | (simp only [true_and, eq_self, or_true, true_or, and_true, yu, ya, reduceIte, Nat.reduceEqDiff, Int32.reduceToInt, Int.toNat_natCast, Int.reduceToNat]; omega) | decide | (simp; done) | (simp; omega)) ?_
  try simp only [List.map_cons, List.map_nil, List.length_cons, List.length_nil, ylr_s, ylr_0, Nat.reduceAdd, Nat.reduceSub, List.cons_append, List.nil_append, List.set_cons_zero, List.set_cons_succ, Option.toList_none, Option.toList_some, Int32.reduceToInt, yu, ya, reduceIte, Nat.reduceEqDiff, Int.toNat_natCast, Int.reduceToNat]
  refine ycV rfl rfl rfl (cm_hereB (i := 2) hB rfl t1) rfl kX9_here iX9_here rfl rfl rfl (Nat.le_of_ble_eq_true rfl) (fun v1 Y1 q1 => ?_)
  obtain ⟨rfl, rfl⟩ := q1
  refine ygo 99999 90 rfl rfl (by first | exact trivial | (simp only [true_and, eq_self, or_true, true_or, and_true, yu, ya, reduceIte, Nat.reduceEqDiff, Int32.reduceToInt, Int.toNat_natCast, Int.reduceToNat]; omega) | decide | (simp; done) | (simp; omega)) ?_
  try simp only [List.map_cons, List.map_nil, List.length_cons, List.length_nil, ylr_s, ylr_0, Nat.reduceAdd, Nat.reduceSub, List.cons_append, List.nil_append, List.set_cons_zero, List.set_cons_succ, Option.toList_none, Option.toList_some, Int32.reduceToInt, yu, ya, reduceIte, Nat.reduceEqDiff, Int.toNat_natCast, Int.reduceToNat]
  refine ycV rfl rfl rfl (cm_hereB (i := 3) (hB.fk rfl rfl) rfl t2) rfl kX9_here iX9_here rfl rfl rfl (Nat.le_of_ble_eq_true rfl) (fun v2 Y2 q2 => ?_)
  obtain ⟨rfl, rfl⟩ := q2
  refine ygo 99999 90 rfl rfl (by first | exact trivial | (simp only [true_and, eq_self, or_true, true_or, and_true, yu, ya, reduceIte, Nat.reduceEqDiff, Int32.reduceToInt, Int.toNat_natCast, Int.reduceToNat]; omega) | decide | (simp; done) | (simp; omega)) ?_
  try simp only [List.map_cons, List.map_nil, List.length_cons, List.length_nil, ylr_s, ylr_0, Nat.reduceAdd, Nat.reduceSub, List.cons_append, List.nil_append, List.set_cons_zero, List.set_cons_succ, Option.toList_none, Option.toList_some, Int32.reduceToInt, yu, ya, reduceIte, Nat.reduceEqDiff, Int.toNat_natCast, Int.reduceToNat]
  refine ycV rfl rfl rfl (cm_hereB (i := 4) (hB.fk rfl rfl) rfl t3) rfl kX9_here iX9_here rfl rfl rfl (Nat.le_of_ble_eq_true rfl) (fun v3 Y3 q3 => ?_)
  obtain ⟨rfl, rfl⟩ := q3
  refine ygo 67 90 rfl rfl (by first | exact trivial | (simp only [true_and, eq_self, or_true, true_or, and_true, yu, ya, reduceIte, Nat.reduceEqDiff, Int32.reduceToInt, Int.toNat_natCast, Int.reduceToNat]; omega) | decide | (simp; done) | (simp; omega)) ?_
  try simp only [List.map_cons, List.map_nil, List.length_cons, List.length_nil, ylr_s, ylr_0, Nat.reduceAdd, Nat.reduceSub, List.cons_append, List.nil_append, List.set_cons_zero, List.set_cons_succ, Option.toList_none, Option.toList_some, Int32.reduceToInt, yu, ya, reduceIte, Nat.reduceEqDiff, Int.toNat_natCast, Int.reduceToNat]
  rw [hez', iof, iof, man2 t4 t5, a3, a6, iofn, iofn]
  have s1 : ∀ (B : Nat → List Int32) (k : Nat) (v : Int32), (36 ≤ k ∧ k ≤ 47 ∧ k ≠ 39) → mul k = 1 → fkl Z.2.2.2.2.2.1.length B (ya B k ((B k).set Z.2.2.2.2.2.1.length v)) := fun B k v h1 h2 => fkl.set h1 (by rw [h2]; omega)
  refine l_ld0 hR hk hB hK hKo hez hn _ (by omega) _ (((((s1 A 36 _ (by omega) rfl).tr (s1 _ 37 _ (by omega) rfl)).tr (s1 _ 38 _ (by omega) rfl)).tr (s1 _ 40 _ (by omega) rfl)).tr (s1 _ 42 _ (by omega) rfl)) ?_ ?_ ?_ ?_ ?_
  · show ((A 36).set _ _).getD _ 0 = _
    rw [gset_eq (by omega)]
  · show ((A 37).set _ _).getD _ 0 = _
    rw [gset_eq (by omega)]
  · show ((A 38).set _ _).getD _ 0 = _
    rw [gset_eq (by omega), t6]
  · show ((A 40).set _ _).getD _ 0 = _
    rw [gset_eq (by omega)]
  · show ((A 42).set _ _).getD _ 0 = _
    rw [gset_eq (by omega)]
