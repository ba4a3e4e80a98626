def mul (k : Nat) : Nat := if k = 41 ∨ k = 43 then 4 else if k = 45 ∨ k = 46 then 8 else if k = 47 then 960 else 1
/-- the cells of the entries ahead of n are the same -/
def fkl (n : Nat) (A A' : Nat → List Int32) : Prop := (∀ k, (k < 36 ∨ k = 39 ∨ 47 < k) → A' k = A k) ∧ ∀ k, 36 ≤ k → k ≤ 47 → ∀ i, i < mul k * n → (A' k).getD i 0 = (A k).getD i 0
theorem fkl.rf {n : Nat} {A : Nat → List Int32} : fkl n A A := ⟨fun _ _ => rfl, fun _ _ _ _ _ => rfl⟩
theorem fkl.tr {n : Nat} {A A1 A2 : Nat → List Int32} (h : fkl n A A1) (g : fkl n A1 A2) : fkl n A A2 := ⟨fun k hk => (g.1 k hk).trans (h.1 k hk), fun k a b i hi => (g.2 k a b i hi).trans (h.2 k a b i hi)⟩
theorem fkl.set {n k j : Nat} {A : Nat → List Int32} {v : Int32} (h : 36 ≤ k ∧ k ≤ 47 ∧ k ≠ 39) (hj : mul k * n ≤ j) : fkl n A (ya A k ((A k).set j v)) := by
  refine ⟨fun q hq => if_neg (by omega), fun q h1 h2 i hi => ?_⟩
  by_cases c : q = k
  · subst c
    rw [show ya A q ((A q).set j v) q = (A q).set j v from if_pos rfl, gset_ne (by omega)]
  · rw [show ya A k ((A k).set j v) q = A q from if_neg c]
theorem fkl.fil {n k : Nat} {A A' : Nat → List Int32} {xs : List Int32} (h : 36 ≤ k ∧ k ≤ 47 ∧ k ≠ 39) (hf : fil k (mul k * n) A A' xs) : fkl n A A' := by
  refine ⟨fun q hq => hf.1 q (by omega), fun q h1 h2 i hi => ?_⟩
  by_cases c : q = k
  · subst c
    exact hf.2.2.1 i hi
  · rw [hf.1 q c]
theorem fkl.rws {n r : Nat} {A A' : Nat → List Int32} {R : List (Int32 × Int32 × List Int32)} (hf : rws n r R A A') : fkl n A A' := by
  refine ⟨fun q hq => hf.1 q (by omega) (by omega) (by omega), fun q h1 h2 i hi => ?_⟩
  by_cases c : q = 45
  · subst c
    exact hf.2.2.2.2.1 i hi
  by_cases c2 : q = 46
  · subst c2
    exact hf.2.2.2.2.2.1 i hi
  by_cases c3 : q = 47
  · subst c3
    exact hf.2.2.2.2.2.2.1 i hi
  · rw [hf.1 q c c2 c3]
theorem mE.lay {n e : Nat} {V : eV} {f f' : Nat → Int} {A A' : Nat → List Int32} (h : mE e V (f, A)) (he : e < n) (hm : V.2.1.length ≤ 4) (hs : V.1.2.2.1.length ≤ 4) (hr : V.1.2.2.2.length ≤ 8) (hb : ∀ w ∈ V.1.2.2.2, w.2.2.length ≤ 120) (g : fkl n A A') : mE e V (f', A') := by
  obtain ⟨a1, a2, a3, a4, a5, a6, a7, a8, a9, a10, a11, a12⟩ := h
  have G1 : ∀ k, (k = 36 ∨ k = 37 ∨ k = 38 ∨ k = 40 ∨ k = 42 ∨ k = 44) → (A' k).getD e 0 = (A k).getD e 0 := fun k hk => g.2 k (by omega) (by omega) e (by
    have : mul k = 1 := by rcases hk with rfl | rfl | rfl | rfl | rfl | rfl <;> rfl
    rw [this]; omega)
  have G4 : ∀ k i, (k = 41 ∨ k = 43) → i < 4 * n → (A' k).getD i 0 = (A k).getD i 0 := fun k i hk hi => g.2 k (by omega) (by omega) i (by
    have : mul k = 4 := by rcases hk with rfl | rfl <;> rfl
    rw [this]; omega)
  have G8 : ∀ k i, (k = 45 ∨ k = 46) → i < 8 * n → (A' k).getD i 0 = (A k).getD i 0 := fun k i hk hi => g.2 k (by omega) (by omega) i (by
    have : mul k = 8 := by rcases hk with rfl | rfl <;> rfl
    rw [this]; omega)
  have G9 : ∀ i, i < 960 * n → (A' 47).getD i 0 = (A 47).getD i 0 := fun i hi => g.2 47 (by omega) (by omega) i (by
    have : mul 47 = 960 := rfl
    rw [this]; omega)
  unfold mE
  dsimp only at *
  refine ⟨(G1 36 (by omega)).trans a1, (G1 37 (by omega)).trans a2, (G1 38 (by omega)).trans a3, by rw [g.1 39 (by omega)]; exact a4, (G1 40 (by omega)).trans a5, fun i x hx => ?_, (G1 42 (by omega)).trans a7, fun i x hx => ?_, (G1 44 (by omega)).trans a9, fun r w hw => ?_, by rw [g.1 48 (by omega)]; exact a11, by rw [g.1 49 (by omega)]; exact a12⟩
  · have := (List.getElem?_eq_some_iff.mp hx).1
    exact (G4 41 _ (by omega) (by omega)).trans (a6 i x hx)
  · have := (List.getElem?_eq_some_iff.mp hx).1
    exact (G4 43 _ (by omega) (by omega)).trans (a8 i x hx)
  · have hwl := (List.getElem?_eq_some_iff.mp hw).1
    have hwb := hb w (List.mem_of_getElem? hw)
    obtain ⟨b1, b2, b3⟩ := a10 r w hw
    refine ⟨(G8 45 _ (by omega) (by omega)).trans b1, (G8 46 _ (by omega) (by omega)).trans b2, fun i x hx => ?_⟩
    have := (List.getElem?_eq_some_iff.mp hx).1
    exact (G9 _ (by omega)).trans (b3 i x hx)
theorem mS.lay {L : sL} {f : Nat → Int} {A A' : Nat → List Int32} (h : mS L (f, A)) (hk : okS L) (g : fkl L.length A A') : mS L (f, A') := by
  refine ⟨h.1, fun e x hx => ?_⟩
  have hV := hk.2 e x hx
  exact (h.2 e x hx).lay (List.getElem?_eq_some_iff.mp hx).1 (by rw [hV.2.2.1]; exact hV.1.2.2.2.1) hV.1.2.2.2.2.2.1 hV.1.2.2.2.2.2.2.2.1 (fun w hw => (hV.1.2.2.2.2.2.2.2.2 w hw).2.2.1) g
theorem mR.lay {Z : pZ} {f : Nat → Int} {A A' : Nat → List Int32} (h : mR Z (f, A)) (hk : okS Z.2.2.2.2.2.1) (g : fkl Z.2.2.2.2.2.1.length A A') : mR Z (f, A') := by
  obtain ⟨a1, a2, a3, a4, a5, a6⟩ := h
  refine ⟨?_, ?_, ?_, ?_, a5.lay hk g, a6⟩
  · unfold mD at a1 ⊢
    dsimp only at a1 ⊢
    rw [g.1 5 (by omega), g.1 6 (by omega), g.1 7 (by omega), g.1 9 (by omega), g.1 11 (by omega), g.1 12 (by omega), g.1 13 (by omega), g.1 14 (by omega)]
    exact a1
  · unfold mP at a2 ⊢
    dsimp only at a2 ⊢
    rw [g.1 20 (by omega), g.1 21 (by omega)]
    exact a2
  · unfold mT at a3 ⊢
    dsimp only at a3 ⊢
    rw [g.1 29 (by omega)]
    exact a3
  · unfold mB at a4 ⊢
    dsimp only at a4 ⊢
    rw [g.1 31 (by omega), g.1 32 (by omega), g.1 33 (by omega), g.1 34 (by omega)]
    exact a4
/-- an entry is laid down -/
def laid (n : Nat) (K : cV) (ms : List Int32) (A : Nat → List Int32) : Prop := (A 36).getD n 0 = K.1.1 ∧ (A 37).getD n 0 = K.1.2.1 ∧ (A 38).getD n 0 = K.1.2.2.1 ∧ (A 40).getD n 0 = nI ms.length ∧ (∀ (i : Nat) (m : Int32), ms[i]? = some m → (A 41).getD (4 * n + i) 0 = m) ∧ (A 42).getD n 0 = nI K.2.2.1.length ∧ (∀ (i : Nat) (g : Int32), K.2.2.1[i]? = some g → (A 43).getD (4 * n + i) 0 = g) ∧ (A 44).getD n 0 = nI K.2.2.2.length ∧ ∀ (r : Nat) (w : Int32 × Int32 × List Int32), K.2.2.2[r]? = some w → (A 45).getD (8 * n + r) 0 = w.1 ∧ (A 46).getD (8 * n + r) 0 = nI w.2.2.length ∧ ∀ (i : Nat) (x : Int32), w.2.2[i]? = some x → (A 47).getD (120 * (8 * n + r) + i) 0 = x
theorem yu_o {f : Nat → Int} {k q : Nat} {z : Int} (h : q ≠ k) : yu f k z q = f q := if_neg h
theorem mR.why {Z : pZ} {f : Nat → Int} {A : Nat → List Int32} {w : Int32} {z : Int} (h : mR Z (f, A)) (hz : z = w.toInt) : mR (zW Z w) (yu f 50 z, A) := by
  obtain ⟨a1, a2, a3, a4, a5, a6⟩ := h
  exact ⟨a1, a2, a3, a4, a5, hz⟩
set_option maxRecDepth 100000 in
set_option maxHeartbeats 2000000 in
theorem l_ld3 {G : xG} {d a pk : Nat} {ez : Int} {x2 x3 : Option yv} {bs : List Int32} {K : cV} {Z : pZ} {f : Nat → Int} {A : Nat → List Int32} (hR : mR Z (f, A)) (hk : okS Z.2.2.2.2.2.1) (hB : hbs pk bs f A) (hK : LD bs K f) (hKn : ∀ e ∈ K.2.1, e.2.2 = 0 ∨ e.2.2 = 1) (hez : ez = Z.2.2.2.2.2.1.length) (hn : Z.2.2.2.2.2.1.length < 12) (hl : (A 41).length = 48) : ∀ (m i : Nat) (iz : Int) (x5 : Option yv) (A' : Nat → List Int32), i + m = K.2.1.length → iz = i → fil 41 (4 * Z.2.2.2.2.2.1.length) A A' ((K.2.1.take i).map (meetI Z.2.2.2.2.2.1)) → (∀ (j : Nat) (nd : Int32 × Int32 × Int32), j < i → K.2.1[j]? = some nd → ¬ meetI Z.2.2.2.2.2.1 nd < 0) →
    yw G (d + 2) a mX9_layDown 229 [some (.inr 0), some (.inl ez), x2, x3, some (.inl iz), x5] [] (f, A') (fun w Y' => match K.2.1.findIdx? (fun nd => decide (meetI Z.2.2.2.2.2.1 nd < 0)) with
      | some i => w = some (.inl 0) ∧ mR (zW Z (nI i)) Y'
      | none => w = some (.inl 1) ∧ Y'.1 = f ∧ fil 41 (4 * Z.2.2.2.2.2.1.length) A Y'.2 (K.2.1.map (meetI Z.2.2.2.2.2.1))) := by
  obtain ⟨a1, a2, a3, a4, a5, a6, a7, a8, a9, a10, a11⟩ := id hK
  intro m
  induction m with
  | zero =>
    intro i iz x5 A' hm hi hf hno
    rw [show i = K.2.1.length by omega, List.take_length] at hf
    have hn : K.2.1.findIdx? (fun nd => decide (meetI Z.2.2.2.2.2.1 nd < 0)) = none := by
      rw [List.findIdx?_eq_none_iff]
      intro x hx
      obtain ⟨j, hj⟩ := List.getElem?_of_mem hx
      exact decide_eq_false (hno j x (by have := (List.getElem?_eq_some_iff.mp hj).1; omega) hj)
    rw [hn]
    dsimp only
    refine ygo 99999 90 rfl rfl (by first | exact trivial | (simp only [true_and, eq_self, or_true, true_or, and_true, yu, ya, reduceIte, Nat.reduceEqDiff, Int32.reduceToInt, Int.toNat_natCast, Int.reduceToNat]; omega) | decide | (simp; done) | (simp; omega)) ?_
    try simp only [List.map_cons, List.map_nil, List.length_cons, List.length_nil, ylr_s, ylr_0, Nat.reduceAdd, Nat.reduceSub, List.cons_append, List.nil_append, List.set_cons_zero, List.set_cons_succ, Option.toList_none, Option.toList_some, Int32.reduceToInt, yu, ya, reduceIte, Nat.reduceEqDiff, Int.toNat_natCast, Int.reduceToNat]
    refine yi_icmpge rfl (by refine ⟨?_, ?_⟩ <;> first | exact yr_t _ | exact yr_b _ | (unfold yr; omega)) (fun c => ?_) (fun c => ?_)
    · refine ygo 99999 90 rfl rfl (by first | exact trivial | (simp only [true_and, eq_self, or_true, true_or, and_true, yu, ya, reduceIte, Nat.reduceEqDiff, Int32.reduceToInt, Int.toNat_natCast, Int.reduceToNat]; omega) | decide | (simp; done) | (simp; omega)) ?_
      try simp only [List.map_cons, List.map_nil, List.length_cons, List.length_nil, ylr_s, ylr_0, Nat.reduceAdd, Nat.reduceSub, List.cons_append, List.nil_append, List.set_cons_zero, List.set_cons_succ, Option.toList_none, Option.toList_some, Int32.reduceToInt, yu, ya, reduceIte, Nat.reduceEqDiff, Int.toNat_natCast, Int.reduceToNat]
      refine yi_ret_z rfl rfl (by omega) ⟨rfl, rfl, hf⟩
    · omega
  | succ m ih =>
    intro i iz x5 A' hm hi hf hno
    obtain ⟨nd, hnd⟩ := lt_get (l := K.2.1) (j := i) (by omega)
    obtain ⟨b1, b2, xx, b3, b4⟩ := a2 i nd hnd
    have hz := hKn nd (List.mem_of_getElem? hnd)
    have htl : ((K.2.1.take i).map (meetI Z.2.2.2.2.2.1)).length = i := by rw [List.length_map, List.length_take]; omega
    have hfl : fkl Z.2.2.2.2.2.1.length A A' := fkl.fil (by omega) hf
    have hR' := hR.lay hk hfl
    have hB' : hbs pk bs f A' := hB.fk rfl (hf.1 20 (by omega))
    have xr := i_rng xx
    have go : ∀ x3z : Int, x3z = nd.2.2.toInt → yw G (d + 2) a mX9_layDown 281 [some (.inr 0), some (.inl ez), x2, x3, some (.inl iz), x5] [.inl x3z, .inl nd.2.1.toInt, .inl nd.1.toInt, .inr 0] (f, A') (fun w Y' => match K.2.1.findIdx? (fun nd => decide (meetI Z.2.2.2.2.2.1 nd < 0)) with
      | some i => w = some (.inl 0) ∧ mR (zW Z (nI i)) Y'
      | none => w = some (.inl 1) ∧ Y'.1 = f ∧ fil 41 (4 * Z.2.2.2.2.2.1.length) A Y'.2 (K.2.1.map (meetI Z.2.2.2.2.2.1))) := by
      intro x3z hx3
      refine ygo 99999 90 rfl rfl (by first | exact trivial | (simp only [true_and, eq_self, or_true, true_or, and_true, yu, ya, reduceIte, Nat.reduceEqDiff, Int32.reduceToInt, Int.toNat_natCast, Int.reduceToNat]; omega) | decide | (simp; done) | (simp; omega)) ?_
      try simp only [List.map_cons, List.map_nil, List.length_cons, List.length_nil, ylr_s, ylr_0, Nat.reduceAdd, Nat.reduceSub, List.cons_append, List.nil_append, List.set_cons_zero, List.set_cons_succ, Option.toList_none, Option.toList_some, Int32.reduceToInt, yu, ya, reduceIte, Nat.reduceEqDiff, Int.toNat_natCast, Int.reduceToNat]
      refine ycV rfl rfl rfl (cm_meeting (nd := nd) hR'.2.2.2.2.1 hk hz rfl rfl hx3) rfl kX9_meeting iX9_meeting rfl rfl rfl (Nat.le_of_ble_eq_true rfl) (fun v4 Y4 q4 => ?_)
      obtain ⟨rfl, rfl⟩ := q4
      have mr := i_rng (meetI Z.2.2.2.2.2.1 nd)
      have m0 : (0 : Int32).toInt = 0 := rfl
      refine ygo 99999 90 rfl rfl (by first | exact trivial | (simp only [true_and, eq_self, or_true, true_or, and_true, yu, ya, reduceIte, Nat.reduceEqDiff, Int32.reduceToInt, Int.toNat_natCast, Int.reduceToNat]; omega) | decide | (simp; done) | (simp; omega)) ?_
      try simp only [List.map_cons, List.map_nil, List.length_cons, List.length_nil, ylr_s, ylr_0, Nat.reduceAdd, Nat.reduceSub, List.cons_append, List.nil_append, List.set_cons_zero, List.set_cons_succ, Option.toList_none, Option.toList_some, Int32.reduceToInt, yu, ya, reduceIte, Nat.reduceEqDiff, Int.toNat_natCast, Int.reduceToNat]
      refine yi_ifge rfl (by first | exact yr_t _ | exact yr_b _ | (unfold yr; omega)) (fun c => ?_) (fun c => ?_)
      · refine ygo 229 90 rfl rfl (by first | exact trivial | (simp only [true_and, eq_self, or_true, true_or, and_true, yu, ya, reduceIte, Nat.reduceEqDiff, Int32.reduceToInt, Int.toNat_natCast, Int.reduceToNat]; omega) | decide | (simp; done) | (simp; omega)) ?_
        try simp only [List.map_cons, List.map_nil, List.length_cons, List.length_nil, ylr_s, ylr_0, Nat.reduceAdd, Nat.reduceSub, List.cons_append, List.nil_append, List.set_cons_zero, List.set_cons_succ, Option.toList_none, Option.toList_some, Int32.reduceToInt, yu, ya, reduceIte, Nat.reduceEqDiff, Int.toNat_natCast, Int.reduceToNat]
        have e1 : (4 * ez + iz).toNat = 4 * Z.2.2.2.2.2.1.length + ((K.2.1.take i).map (meetI Z.2.2.2.2.2.1)).length := by omega
        rw [e1, iof]
        refine ih (i + 1) _ _ _ (by omega) (by omega) ?_ (fun j nd' hj hnd' => ?_)
        · rw [List.take_succ, hnd, Option.toList_some, List.map_append]
          exact hf.put (by omega)
        · by_cases cj : j = i
          · subst cj
            rw [hnd] at hnd'
            cases hnd'
            rw [i_lt]; omega
          · exact hno j nd' (by omega) hnd'
      · have hs : K.2.1.findIdx? (fun nd => decide (meetI Z.2.2.2.2.2.1 nd < 0)) = some i := by
          rw [List.findIdx?_eq_some_iff_getElem]
          obtain ⟨hil, hie⟩ := List.getElem?_eq_some_iff.mp hnd
          refine ⟨hil, by rw [hie]; exact decide_eq_true (by rw [i_lt]; omega), fun j hj => ?_⟩
          rw [decide_eq_true_eq]
          exact hno j _ hj (List.getElem?_eq_getElem (by omega))
        rw [hs]
        dsimp only
        refine ygo 99999 90 rfl rfl (by first | exact trivial | (simp only [true_and, eq_self, or_true, true_or, and_true, yu, ya, reduceIte, Nat.reduceEqDiff, Int32.reduceToInt, Int.toNat_natCast, Int.reduceToNat]; omega) | decide | (simp; done) | (simp; omega)) ?_
        try simp only [List.map_cons, List.map_nil, List.length_cons, List.length_nil, ylr_s, ylr_0, Nat.reduceAdd, Nat.reduceSub, List.cons_append, List.nil_append, List.set_cons_zero, List.set_cons_succ, Option.toList_none, Option.toList_some, Int32.reduceToInt, yu, ya, reduceIte, Nat.reduceEqDiff, Int.toNat_natCast, Int.reduceToNat]
        refine yi_ret_z rfl rfl (by omega) ⟨rfl, hR'.why (by rw [i_n (by omega)]; exact hi)⟩
    refine ygo 99999 90 rfl rfl (by first | exact trivial | (simp only [true_and, eq_self, or_true, true_or, and_true, yu, ya, reduceIte, Nat.reduceEqDiff, Int32.reduceToInt, Int.toNat_natCast, Int.reduceToNat]; omega) | decide | (simp; done) | (simp; omega)) ?_
    try simp only [List.map_cons, List.map_nil, List.length_cons, List.length_nil, ylr_s, ylr_0, Nat.reduceAdd, Nat.reduceSub, List.cons_append, List.nil_append, List.set_cons_zero, List.set_cons_succ, Option.toList_none, Option.toList_some, Int32.reduceToInt, yu, ya, reduceIte, Nat.reduceEqDiff, Int.toNat_natCast, Int.reduceToNat]
    refine yi_icmpge rfl (by refine ⟨?_, ?_⟩ <;> first | exact yr_t _ | exact yr_b _ | (unfold yr; omega)) (fun c => ?_) (fun c => ?_)
    · omega
    · refine ygo 99999 90 rfl rfl (by first | exact trivial | (simp only [true_and, eq_self, or_true, true_or, and_true, yu, ya, reduceIte, Nat.reduceEqDiff, Int32.reduceToInt, Int.toNat_natCast, Int.reduceToNat]; omega) | decide | (simp; done) | (simp; omega)) ?_
      try simp only [List.map_cons, List.map_nil, List.length_cons, List.length_nil, ylr_s, ylr_0, Nat.reduceAdd, Nat.reduceSub, List.cons_append, List.nil_append, List.set_cons_zero, List.set_cons_succ, Option.toList_none, Option.toList_some, Int32.reduceToInt, yu, ya, reduceIte, Nat.reduceEqDiff, Int.toNat_natCast, Int.reduceToNat]
      refine ycV rfl rfl rfl (cm_hereB (i := 6 + i * 3) hB' (by omega) b1) rfl kX9_here iX9_here rfl rfl rfl (Nat.le_of_ble_eq_true rfl) (fun v1 Y1 q1 => ?_)
      obtain ⟨rfl, rfl⟩ := q1
      refine ygo 99999 90 rfl rfl (by first | exact trivial | (simp only [true_and, eq_self, or_true, true_or, and_true, yu, ya, reduceIte, Nat.reduceEqDiff, Int32.reduceToInt, Int.toNat_natCast, Int.reduceToNat]; omega) | decide | (simp; done) | (simp; omega)) ?_
      try simp only [List.map_cons, List.map_nil, List.length_cons, List.length_nil, ylr_s, ylr_0, Nat.reduceAdd, Nat.reduceSub, List.cons_append, List.nil_append, List.set_cons_zero, List.set_cons_succ, Option.toList_none, Option.toList_some, Int32.reduceToInt, yu, ya, reduceIte, Nat.reduceEqDiff, Int.toNat_natCast, Int.reduceToNat]
      refine ycV rfl rfl rfl (cm_hereB (i := 6 + i * 3 + 1) hB' (by omega) b2) rfl kX9_here iX9_here rfl rfl rfl (Nat.le_of_ble_eq_true rfl) (fun v2 Y2 q2 => ?_)
      obtain ⟨rfl, rfl⟩ := q2
      refine ygo 99999 90 rfl rfl (by first | exact trivial | (simp only [true_and, eq_self, or_true, true_or, and_true, yu, ya, reduceIte, Nat.reduceEqDiff, Int32.reduceToInt, Int.toNat_natCast, Int.reduceToNat]; omega) | decide | (simp; done) | (simp; omega)) ?_
      try simp only [List.map_cons, List.map_nil, List.length_cons, List.length_nil, ylr_s, ylr_0, Nat.reduceAdd, Nat.reduceSub, List.cons_append, List.nil_append, List.set_cons_zero, List.set_cons_succ, Option.toList_none, Option.toList_some, Int32.reduceToInt, yu, ya, reduceIte, Nat.reduceEqDiff, Int.toNat_natCast, Int.reduceToNat]
      refine ycV rfl rfl rfl (cm_hereB (i := 6 + i * 3 + 2) hB' (by omega) b3) rfl kX9_here iX9_here rfl rfl rfl (Nat.le_of_ble_eq_true rfl) (fun v3 Y3 q3 => ?_)
      obtain ⟨rfl, rfl⟩ := q3
      have t1 : (1 : Int32).toInt = 1 := rfl
      refine ygo 99999 90 rfl rfl (by first | exact trivial | (simp only [true_and, eq_self, or_true, true_or, and_true, yu, ya, reduceIte, Nat.reduceEqDiff, Int32.reduceToInt, Int.toNat_natCast, Int.reduceToNat]; omega) | decide | (simp; done) | (simp; omega)) ?_
      try simp only [List.map_cons, List.map_nil, List.length_cons, List.length_nil, ylr_s, ylr_0, Nat.reduceAdd, Nat.reduceSub, List.cons_append, List.nil_append, List.set_cons_zero, List.set_cons_succ, Option.toList_none, Option.toList_some, Int32.reduceToInt, yu, ya, reduceIte, Nat.reduceEqDiff, Int.toNat_natCast, Int.reduceToNat]
      refine yi_icmpne rfl (by refine ⟨?_, ?_⟩ <;> first | exact yr_t _ | exact yr_b _ | (unfold yr; omega)) (fun c2 => ?_) (fun c2 => ?_)
      · refine ygo 281 90 rfl rfl (by first | exact trivial | (simp only [true_and, eq_self, or_true, true_or, and_true, yu, ya, reduceIte, Nat.reduceEqDiff, Int32.reduceToInt, Int.toNat_natCast, Int.reduceToNat]; omega) | decide | (simp; done) | (simp; omega)) ?_
        try simp only [List.map_cons, List.map_nil, List.length_cons, List.length_nil, ylr_s, ylr_0, Nat.reduceAdd, Nat.reduceSub, List.cons_append, List.nil_append, List.set_cons_zero, List.set_cons_succ, Option.toList_none, Option.toList_some, Int32.reduceToInt, yu, ya, reduceIte, Nat.reduceEqDiff, Int.toNat_natCast, Int.reduceToNat]
        exact go 0 (by rw [b4, if_neg (fun hc => c2 (by rw [hc]; rfl))]; rfl)
      · refine ygo 281 90 rfl rfl (by first | exact trivial | (simp only [true_and, eq_self, or_true, true_or, and_true, yu, ya, reduceIte, Nat.reduceEqDiff, Int32.reduceToInt, Int.toNat_natCast, Int.reduceToNat]; omega) | decide | (simp; done) | (simp; omega)) ?_
        try simp only [List.map_cons, List.map_nil, List.length_cons, List.length_nil, ylr_s, ylr_0, Nat.reduceAdd, Nat.reduceSub, List.cons_append, List.nil_append, List.set_cons_zero, List.set_cons_succ, Option.toList_none, Option.toList_some, Int32.reduceToInt, yu, ya, reduceIte, Nat.reduceEqDiff, Int.toNat_natCast, Int.reduceToNat]
        exact go 1 (by rw [b4, if_pos (by rw [i_eq]; omega)]; rfl)
