def cntP (p : Nat → eV → Bool) : sL → Nat → Nat
  | [], _ => 0
  | x :: L, f => (if p f x.2.2 then 1 else 0) + cntP p L (f + 1)
theorem cahead_P (K : cV) (e : Int32) : ∀ (L : sL) (f : Nat), cahead K e L f = cntP (fun f V => ahead K e f V.1) L f
  | [], _ => rfl
  | x :: L, f => by
    unfold cahead cntP
    rw [cahead_P K e L (f + 1)]
theorem cntP_congr {p q : Nat → eV → Bool} : ∀ (L : sL) (f : Nat), (∀ (i : Nat) (x : Nat × Nat × eV), L[i]? = some x → p (f + i) x.2.2 = q (f + i) x.2.2) → cntP p L f = cntP q L f
  | [], _, _ => rfl
  | x :: L, f, h => by
    unfold cntP
    have h0 := h 0 x rfl
    rw [Nat.add_zero] at h0
    rw [h0, cntP_congr (p := p) (q := q) L (f + 1) (fun i y hy => by have := h (i + 1) y (by simpa using hy); rwa [show f + (i + 1) = f + 1 + i by omega] at this)]
theorem cntP_one {p q : Nat → eV → Bool} : ∀ (L : sL) (f j : Nat) (x : Nat × Nat × eV), L[j]? = some x → p (f + j) x.2.2 = false → q (f + j) x.2.2 = true → (∀ (i : Nat) (y : Nat × Nat × eV), i ≠ j → L[i]? = some y → p (f + i) y.2.2 = q (f + i) y.2.2) → cntP q L f = cntP p L f + 1
  | [], f, j, x, h, _, _, _ => by simp at h
  | y :: L, f, 0, x, h, h1, h2, h3 => by
    have e : y = x := by simpa using h
    subst e
    unfold cntP
    simp only [Nat.add_zero] at h1 h2
    rw [h1, h2, cntP_congr (p := p) (q := q) L (f + 1) (fun i z hz => by have := h3 (i + 1) z (by omega) (by simpa using hz); rwa [show f + (i + 1) = f + 1 + i by omega] at this)]
    simp
    omega
  | y :: L, f, j + 1, x, h, h1, h2, h3 => by
    unfold cntP
    have h0 := h3 0 y (by omega) rfl
    rw [Nat.add_zero] at h0
    rw [h0, cntP_one (p := p) (q := q) L (f + 1) j x (by simpa using h) (by rw [show f + 1 + j = f + (j + 1) by omega]; exact h1) (by rw [show f + 1 + j = f + (j + 1) by omega]; exact h2) (fun i z hi hz => by have := h3 (i + 1) z (by omega) (by simpa using hz); rwa [show f + (i + 1) = f + 1 + i by omega] at this)]
    omega
theorem cntP_le' {p q : Nat → eV → Bool} : ∀ (L : sL) (f : Nat), (∀ (i : Nat) (x : Nat × Nat × eV), L[i]? = some x → p (f + i) x.2.2 = true → q (f + i) x.2.2 = true) → cntP p L f ≤ cntP q L f
  | [], _, _ => Nat.le_refl _
  | x :: L, f, h => by
    unfold cntP
    have h1 := cntP_le' (p := p) (q := q) L (f + 1) (fun i y hy => by have := h (i + 1) y (by simpa using hy); rwa [show f + (i + 1) = f + 1 + i by omega] at this)
    have h2 := h 0 x rfl
    rw [Nat.add_zero] at h2
    by_cases hp : p f x.2.2 = true
    · rw [if_pos hp, if_pos (h2 hp)]; omega
    · rw [if_neg hp]; omega
theorem cntP_lt {p q : Nat → eV → Bool} : ∀ (L : sL) (f j : Nat) (x : Nat × Nat × eV), L[j]? = some x → p (f + j) x.2.2 = false → q (f + j) x.2.2 = true → (∀ (i : Nat) (y : Nat × Nat × eV), L[i]? = some y → p (f + i) y.2.2 = true → q (f + i) y.2.2 = true) → cntP p L f < cntP q L f
  | [], f, j, x, h, _, _, _ => by simp at h
  | y :: L, f, 0, x, h, h1, h2, h3 => by
    have e : y = x := by simpa using h
    subst e
    unfold cntP
    simp only [Nat.add_zero] at h1 h2
    have := cntP_le' (p := p) (q := q) L (f + 1) (fun i z hz => by have := h3 (i + 1) z (by simpa using hz); rwa [show f + (i + 1) = f + 1 + i by omega] at this)
    rw [h1, h2]
    simp
    omega
  | y :: L, f, j + 1, x, h, h1, h2, h3 => by
    unfold cntP
    have h0 := h3 0 y rfl
    rw [Nat.add_zero] at h0
    have := cntP_lt (p := p) (q := q) L (f + 1) j x (by simpa using h) (by rw [show f + 1 + j = f + (j + 1) by omega]; exact h1) (by rw [show f + 1 + j = f + (j + 1) by omega]; exact h2) (fun i z hz => by have := h3 (i + 1) z (by simpa using hz); rwa [show f + (i + 1) = f + 1 + i by omega] at this)
    by_cases hp : p f y.2.2 = true
    · rw [if_pos hp, if_pos (h0 hp)]; omega
    · rw [if_neg hp]; omega
theorem ahead_iff {K V : cV} {e f : Nat} (he : e < 2 ^ 31) (hf : f < 2 ^ 31) : ahead K (nI e) f V = true ↔ V.1.1 = K.1.1 ∧ (K.1.2.1.toInt < V.1.2.1.toInt ∨ (V.1.2.1.toInt = K.1.2.1.toInt ∧ e < f)) := by
  unfold ahead
  simp only [Bool.and_eq_true, Bool.or_eq_true, beq_iff_eq, decide_eq_true_eq]
  rw [i_lt, i_eq (x := V.1.2.1), i_lt, i_n he, i_n hf]
  constructor
  · rintro ⟨a1, a2⟩; exact ⟨a1, by omega⟩
  · rintro ⟨a1, a2⟩; exact ⟨a1, by omega⟩
theorem cahead_ltE {L : sL} {e e' : Nat} {x y : Nat × Nat × eV} (hl : L.length ≤ 12) (he : L[e]? = some x) (he' : L[e']? = some y) (hn : x.2.2.1.1.1 = y.2.2.1.1.1) (h : y.2.2.1.1.2.1.toInt < x.2.2.1.1.2.1.toInt ∨ (x.2.2.1.1.2.1.toInt = y.2.2.1.1.2.1.toInt ∧ e' < e)) : cahead x.2.2.1 (nI e) L 0 < cahead y.2.2.1 (nI e') L 0 := by
  have h1 := (List.getElem?_eq_some_iff.mp he).1
  have h2 := (List.getElem?_eq_some_iff.mp he').1
  rw [cahead_P, cahead_P]
  refine cntP_lt L 0 e x he ?_ ?_ (fun i z hz hp => ?_)
  · rw [Nat.zero_add]
    cases hq : ahead x.2.2.1 (nI e) e x.2.2.1 with
    | false => rfl
    | true => rw [ahead_iff (by omega) (by omega)] at hq; omega
  · rw [Nat.zero_add, ahead_iff (by omega) (by omega)]
    exact ⟨hn, by omega⟩
  · have h3 := (List.getElem?_eq_some_iff.mp hz).1
    rw [Nat.zero_add] at hp ⊢
    rw [ahead_iff (by omega) (by omega)] at hp ⊢
    exact ⟨hp.1.trans hn, by omega⟩
theorem cahead_inj {L : sL} {e e' : Nat} {x y : Nat × Nat × eV} (hl : L.length ≤ 12) (he : L[e]? = some x) (he' : L[e']? = some y) (hn : x.2.2.1.1.1 = y.2.2.1.1.1) (h : nI (cahead x.2.2.1 (nI e) L 0) = nI (cahead y.2.2.1 (nI e') L 0)) : e = e' := by
  have c1 := cahead_le x.2.2.1 (nI e) L 0
  have c2 := cahead_le y.2.2.1 (nI e') L 0
  rw [nI_inj (by omega) (by omega)] at h
  by_cases hc : e = e'
  · exact hc
  · exfalso
    by_cases ha : y.2.2.1.1.2.1.toInt < x.2.2.1.1.2.1.toInt ∨ (x.2.2.1.1.2.1.toInt = y.2.2.1.1.2.1.toInt ∧ e' < e)
    · have := cahead_ltE hl he he' hn ha; omega
    · have := cahead_ltE hl he' he hn.symm (by omega); omega
abbrev pe (L : sL) (name rank : Int32) (e : Nat) (x : Nat × Nat × eV) : Prop := x.2.2.1.1.1 = name ∧ nI (cahead x.2.2.1 (nI e) L 0) = rank
theorem rnk_s {L : sL} {name rank : Int32} {k : Nat} {x : Nat × Nat × eV} (h : L[k]? = some x) : rnkI L name rank (L.drop k) k = if x.2.2.1.1.1 = name ∧ nI (cahead x.2.2.1 (nI k) L 0) = rank then nI k else rnkI L name rank (L.drop (k + 1)) (k + 1) := by
  rw [drop_cons h]
  rfl
theorem rnk_none {L : sL} {name rank : Int32} (h : ∀ e x, L[e]? = some x → ¬ pe L name rank e x) : ∀ (n k : Nat), k + n = L.length → rnkI L name rank (L.drop k) k = -1
  | 0, k, hk => by rw [List.drop_of_length_le (by omega)]; rfl
  | n + 1, k, hk => by
    obtain ⟨x, hx⟩ := lt_get (l := L) (j := k) (by omega)
    rw [rnk_s hx, if_neg (h k x hx)]
    exact rnk_none h n (k + 1) (by omega)
theorem rnk_some {L : sL} {name rank : Int32} {e : Nat} {x : Nat × Nat × eV} (he : L[e]? = some x) (hp : pe L name rank e x) (hu : ∀ e' y, L[e']? = some y → pe L name rank e' y → e' = e) : ∀ (n k : Nat), k + n = L.length → k ≤ e → rnkI L name rank (L.drop k) k = nI e
  | 0, k, hk, hke => by have := (List.getElem?_eq_some_iff.mp he).1; omega
  | n + 1, k, hk, hke => by
    obtain ⟨y, hy⟩ := lt_get (l := L) (j := k) (by omega)
    rw [rnk_s hy]
    by_cases hc : pe L name rank k y
    · rw [if_pos hc, hu k y hy hc]
    · rw [if_neg hc]
      have hne : k ≠ e := by
        intro hq
        subst hq
        rw [he] at hy
        cases hy
        exact hc hp
      exact rnk_some he hp hu n (k + 1) (by omega) (by omega)
def vis (name : Int32) (ed ez : Int) (f : Nat) (V : eV) : Bool := (V.1.1.1 == name) && (decide (ed < V.1.1.2.1.toInt) || (decide (V.1.1.2.1.toInt = ed) && decide (ez < (f : Int))))
theorem vis_iff {name : Int32} {ed ez : Int} {f : Nat} {V : eV} : vis name ed ez f V = true ↔ V.1.1.1 = name ∧ (ed < V.1.1.2.1.toInt ∨ (V.1.1.2.1.toInt = ed ∧ ez < f)) := by
  unfold vis
  simp only [Bool.and_eq_true, Bool.or_eq_true, beq_iff_eq, decide_eq_true_eq]
theorem beq_of_iff {a b : Bool} (h : a = true ↔ b = true) : a = b := by
  cases a <;> cases b <;> simp_all
theorem cntP_len (p : Nat → eV → Bool) : ∀ (L : sL) (f : Nat), cntP p L f ≤ L.length
  | [], _ => Nat.le_refl _
  | x :: L, f => by
    unfold cntP
    have := cntP_len p L (f + 1)
    simp only [List.length_cons]
    split <;> omega
set_option maxRecDepth 100000 in
set_option maxHeartbeats 2000000 in
theorem l_ed2 {G : xG} {d a : Nat} {name i : Int32} {ed : Int} {Z : pZ} {f : Nat → Int} {A : Nat → List Int32} (h : mR Z (f, A)) (hk : okS Z.2.2.2.2.2.1) (hed : 0 ≤ ed ∧ ed ≤ 99)
    (kq : ∀ (nz ez : Int), nz = cntP (vis name ed (-1)) Z.2.2.2.2.2.1 0 → (∀ e x, Z.2.2.2.2.2.1[e]? = some x → vis name ed (-1) e x.2.2 = true → ¬ pe Z.2.2.2.2.2.1 name i e x) → yw G (d + 20) a mX9_edition 64 [some (.inr 0), some (.inl name.toInt), some (.inl i.toInt), some (.inl nz), some (.inl ed), some (.inl ez)] [] (f, A) (ypost (F_edition name i Z))) : ∀ (m : Nat) (nz ez : Int), m ≤ Z.2.2.2.2.2.1.length → ez = (m : Int) - 1 → nz = cntP (vis name ed ez) Z.2.2.2.2.2.1 0 → (∀ e x, Z.2.2.2.2.2.1[e]? = some x → vis name ed ez e x.2.2 = true → ¬ pe Z.2.2.2.2.2.1 name i e x) →
    yw G (d + 20) a mX9_edition 19 [some (.inr 0), some (.inl name.toInt), some (.inl i.toInt), some (.inl nz), some (.inl ed), some (.inl ez)] [] (f, A) (ypost (F_edition name i Z)) := by
  have hS := h.2.2.2.2.1
  have hl := hk.1
  have hir := i_rng i
  intro m
  induction m with
  | zero =>
    intro nz ez hm hez hnz hno
    have : ez = -1 := by omega
    subst this
    refine ygo 99999 90 rfl rfl (by first | exact trivial | (simp only [true_and, yu, ya, reduceIte, Nat.reduceEqDiff, Int32.reduceToInt, Int.toNat_natCast, Int.reduceToNat]; omega) | decide | (simp; done) | (simp; omega)) ?_
    try simp only [List.map_cons, List.map_nil, List.length_cons, List.length_nil, ylr_s, ylr_0, Nat.reduceAdd, Nat.reduceSub, List.cons_append, List.nil_append, List.set_cons_zero, List.set_cons_succ, Option.toList_none, Option.toList_some, Int32.reduceToInt, yu, ya, reduceIte, Nat.reduceEqDiff, Int.toNat_natCast, Int.reduceToNat]
    refine yi_iflt rfl (by first | exact yr_t _ | exact yr_b _ | (unfold yr; omega)) (fun c => ?_) (fun c => ?_)
    · exact kq nz _ hnz hno
    · omega
  | succ m ih =>
    intro nz ez hm hez hnz hno
    obtain ⟨x, hx⟩ := lt_get (l := Z.2.2.2.2.2.1) (j := m) (by omega)
    have hM := hS.2 m x hx
    have m1 : (A 36).getD m 0 = x.2.2.1.1.1 := hM.1
    have m2 : (A 37).getD m 0 = x.2.2.1.1.2.1 := hM.2.1
    have hezm : ez = m := by omega
    have hcl := cntP_len (vis name ed ez) Z.2.2.2.2.2.1 0
    subst hezm
    have skip : ¬ (x.2.2.1.1.1 = name ∧ x.2.2.1.1.2.1.toInt = ed) → yw G (d + 20) a mX9_edition 58 [some (.inr 0), some (.inl name.toInt), some (.inl i.toInt), some (.inl nz), some (.inl ed), some (.inl m)] [] (f, A) (ypost (F_edition name i Z)) := by
      intro hns
      have heq : ∀ (e : Nat) (y : Nat × Nat × eV), Z.2.2.2.2.2.1[e]? = some y → vis name ed m e y.2.2 = vis name ed (m - 1) e y.2.2 := by
        intro e y hy
        apply beq_of_iff
        rw [vis_iff, vis_iff]
        by_cases hem : e = m
        · subst hem
          rw [hx] at hy
          cases hy
          constructor
          · rintro ⟨a1, a2⟩; exact ⟨a1, by omega⟩
          · rintro ⟨a1, a2⟩
            refine ⟨a1, ?_⟩
            rcases a2 with a2 | a2
            · exact Or.inl a2
            · exact absurd ⟨a1, a2.1⟩ hns
        · constructor
          · rintro ⟨a1, a2⟩; exact ⟨a1, by omega⟩
          · rintro ⟨a1, a2⟩; exact ⟨a1, by omega⟩
      refine ygo 19 90 rfl rfl (by first | exact trivial | (simp only [true_and, yu, ya, reduceIte, Nat.reduceEqDiff, Int32.reduceToInt, Int.toNat_natCast, Int.reduceToNat]; omega) | decide | (simp; done) | (simp; omega)) ?_
      try simp only [List.map_cons, List.map_nil, List.length_cons, List.length_nil, ylr_s, ylr_0, Nat.reduceAdd, Nat.reduceSub, List.cons_append, List.nil_append, List.set_cons_zero, List.set_cons_succ, Option.toList_none, Option.toList_some, Int32.reduceToInt, yu, ya, reduceIte, Nat.reduceEqDiff, Int.toNat_natCast, Int.reduceToNat]
      refine ih nz _ (by omega) (by omega) ?_ (fun e y hy hv => hno e y hy (by rw [heq e y hy]; exact hv))
      rw [hnz]
      congr 1
      exact cntP_congr _ _ (fun e y hy => by rw [Nat.zero_add]; exact heq e y hy)
    refine ygo 99999 90 rfl rfl (by first | exact trivial | (simp only [true_and, yu, ya, reduceIte, Nat.reduceEqDiff, Int32.reduceToInt, Int.toNat_natCast, Int.reduceToNat]; omega) | decide | (simp; done) | (simp; omega)) ?_
    try simp only [List.map_cons, List.map_nil, List.length_cons, List.length_nil, ylr_s, ylr_0, Nat.reduceAdd, Nat.reduceSub, List.cons_append, List.nil_append, List.set_cons_zero, List.set_cons_succ, Option.toList_none, Option.toList_some, Int32.reduceToInt, yu, ya, reduceIte, Nat.reduceEqDiff, Int.toNat_natCast, Int.reduceToNat]
    refine yi_iflt rfl (by first | exact yr_t _ | exact yr_b _ | (unfold yr; omega)) (fun c => ?_) (fun c => ?_)
    · omega
    refine ygo 99999 90 rfl rfl (by first | exact trivial | (simp only [true_and, yu, ya, reduceIte, Nat.reduceEqDiff, Int32.reduceToInt, Int.toNat_natCast, Int.reduceToNat]; omega) | decide | (simp; done) | (simp; omega)) ?_
    try simp only [List.map_cons, List.map_nil, List.length_cons, List.length_nil, ylr_s, ylr_0, Nat.reduceAdd, Nat.reduceSub, List.cons_append, List.nil_append, List.set_cons_zero, List.set_cons_succ, Option.toList_none, Option.toList_some, Int32.reduceToInt, yu, ya, reduceIte, Nat.reduceEqDiff, Int.toNat_natCast, Int.reduceToNat]
    refine yi_icmpne rfl (by refine ⟨?_, ?_⟩ <;> first | exact yr_t _ | exact yr_b _ | (unfold yr; omega)) (fun c1 => ?_) (fun c1 => ?_)
    · rw [m1, ti] at c1
      exact skip (fun hc => c1 hc.1)
    rw [m1, ti] at c1
    refine ygo 99999 90 rfl rfl (by first | exact trivial | (simp only [true_and, yu, ya, reduceIte, Nat.reduceEqDiff, Int32.reduceToInt, Int.toNat_natCast, Int.reduceToNat]; omega) | decide | (simp; done) | (simp; omega)) ?_
    try simp only [List.map_cons, List.map_nil, List.length_cons, List.length_nil, ylr_s, ylr_0, Nat.reduceAdd, Nat.reduceSub, List.cons_append, List.nil_append, List.set_cons_zero, List.set_cons_succ, Option.toList_none, Option.toList_some, Int32.reduceToInt, yu, ya, reduceIte, Nat.reduceEqDiff, Int.toNat_natCast, Int.reduceToNat]
    refine yi_icmpne rfl (by refine ⟨?_, ?_⟩ <;> first | exact yr_t _ | exact yr_b _ | (unfold yr; omega)) (fun c2 => ?_) (fun c2 => ?_)
    · rw [m2] at c2
      exact skip (fun hc => c2 hc.2)
    rw [m2] at c2
    have hca : cahead x.2.2.1 (nI m) Z.2.2.2.2.2.1 0 = cntP (vis name ed m) Z.2.2.2.2.2.1 0 := by
      rw [cahead_P]
      refine cntP_congr _ _ (fun e y hy => ?_)
      have hyl := (List.getElem?_eq_some_iff.mp hy).1
      rw [Nat.zero_add]
      apply beq_of_iff
      rw [ahead_iff (by omega) (by omega), vis_iff, c1]
      constructor
      · rintro ⟨a1, a2⟩; exact ⟨a1, by omega⟩
      · rintro ⟨a1, a2⟩; exact ⟨a1, by omega⟩
    refine ygo 99999 90 rfl rfl (by first | exact trivial | (simp only [true_and, yu, ya, reduceIte, Nat.reduceEqDiff, Int32.reduceToInt, Int.toNat_natCast, Int.reduceToNat]; omega) | decide | (simp; done) | (simp; omega)) ?_
    try simp only [List.map_cons, List.map_nil, List.length_cons, List.length_nil, ylr_s, ylr_0, Nat.reduceAdd, Nat.reduceSub, List.cons_append, List.nil_append, List.set_cons_zero, List.set_cons_succ, Option.toList_none, Option.toList_some, Int32.reduceToInt, yu, ya, reduceIte, Nat.reduceEqDiff, Int.toNat_natCast, Int.reduceToNat]
    refine yi_icmpne rfl (by refine ⟨?_, ?_⟩ <;> first | exact yr_t _ | exact yr_b _ | (unfold yr; omega)) (fun c3 => ?_) (fun c3 => ?_)
    · have hno2 : ¬ pe Z.2.2.2.2.2.1 name i m x := by
        intro hc
        have := hc.2
        rw [hca, i_eq, i_n (by omega)] at this
        omega
      have hne : ∀ (e : Nat) (y : Nat × Nat × eV), e ≠ m → Z.2.2.2.2.2.1[e]? = some y → vis name ed m e y.2.2 = vis name ed (m - 1) e y.2.2 := by
        intro e y hem hy
        apply beq_of_iff
        rw [vis_iff, vis_iff]
        constructor
        · rintro ⟨a1, a2⟩; exact ⟨a1, by omega⟩
        · rintro ⟨a1, a2⟩; exact ⟨a1, by omega⟩
      refine ygo 19 90 rfl rfl (by first | exact trivial | (simp only [true_and, yu, ya, reduceIte, Nat.reduceEqDiff, Int32.reduceToInt, Int.toNat_natCast, Int.reduceToNat]; omega) | decide | (simp; done) | (simp; omega)) ?_
      try simp only [List.map_cons, List.map_nil, List.length_cons, List.length_nil, ylr_s, ylr_0, Nat.reduceAdd, Nat.reduceSub, List.cons_append, List.nil_append, List.set_cons_zero, List.set_cons_succ, Option.toList_none, Option.toList_some, Int32.reduceToInt, yu, ya, reduceIte, Nat.reduceEqDiff, Int.toNat_natCast, Int.reduceToNat]
      refine ih _ _ (by omega) (by omega) ?_ (fun e y hy hv => ?_)
      · have h1 : vis name ed m m x.2.2 = false := by
          cases hq : vis name ed m m x.2.2 with
          | false => rfl
          | true => rw [vis_iff] at hq; omega
        have h2 : vis name ed (m - 1) m x.2.2 = true := by
          rw [vis_iff]; exact ⟨c1, by omega⟩
        have := cntP_one (p := vis name ed m) (q := vis name ed (m - 1)) Z.2.2.2.2.2.1 0 m x hx (by rw [Nat.zero_add]; exact h1) (by rw [Nat.zero_add]; exact h2) (fun e y hem hy => by rw [Nat.zero_add]; exact hne e y hem hy)
        rw [show (m : Int) + -1 = m - 1 by omega, this, hnz]
        rfl
      · by_cases hem : e = m
        · subst hem
          rw [hx] at hy
          cases hy
          exact hno2
        · exact hno e y hy (by rw [hne e y hem hy]; exact hv)
    · have hpe : pe Z.2.2.2.2.2.1 name i m x := ⟨c1, by rw [hca, i_eq, i_n (by omega)]; omega⟩
      have hF : F_edition name i Z = (nI m, Z) := by
        unfold F_edition
        have := rnk_some hx hpe (fun e' y hy hp => cahead_inj hl hy hx (hp.1.trans hpe.1.symm) (hp.2.trans hpe.2.symm)) Z.2.2.2.2.2.1.length 0 (by omega) (by omega)
        rw [List.drop_zero] at this
        rw [this]
      refine ygo 99999 90 rfl rfl (by first | exact trivial | (simp only [true_and, yu, ya, reduceIte, Nat.reduceEqDiff, Int32.reduceToInt, Int.toNat_natCast, Int.reduceToNat]; omega) | decide | (simp; done) | (simp; omega)) ?_
      try simp only [List.map_cons, List.map_nil, List.length_cons, List.length_nil, ylr_s, ylr_0, Nat.reduceAdd, Nat.reduceSub, List.cons_append, List.nil_append, List.set_cons_zero, List.set_cons_succ, Option.toList_none, Option.toList_some, Int32.reduceToInt, yu, ya, reduceIte, Nat.reduceEqDiff, Int.toNat_natCast, Int.reduceToNat]
      refine yi_ret_i rfl rfl (ypost.same h hF (by rw [i_n (by omega)]))
set_option maxRecDepth 100000 in
set_option maxHeartbeats 2000000 in
theorem l_ed1 {G : xG} {d a : Nat} {name i : Int32} {Z : pZ} {f : Nat → Int} {A : Nat → List Int32} (h : mR Z (f, A)) (hk : okS Z.2.2.2.2.2.1) : ∀ (m : Nat) (nz ed : Int) (x5 : Option yv), m ≤ 100 → ed = (m : Int) - 1 → nz = cntP (vis name ed Z.2.2.2.2.2.1.length) Z.2.2.2.2.2.1 0 → (∀ e x, Z.2.2.2.2.2.1[e]? = some x → vis name ed Z.2.2.2.2.2.1.length e x.2.2 = true → ¬ pe Z.2.2.2.2.2.1 name i e x) →
    yw G (d + 20) a mX9_edition 6 [some (.inr 0), some (.inl name.toInt), some (.inl i.toInt), some (.inl nz), some (.inl ed), x5] [] (f, A) (ypost (F_edition name i Z)) := by
  have hS := h.2.2.2.2.1
  have h35 : f 35 = Z.2.2.2.2.2.1.length := hS.1
  have hl := hk.1
  have top : ∀ (ed ez : Int), (Z.2.2.2.2.2.1.length : Int) - 1 ≤ ez → ∀ (e : Nat) (y : Nat × Nat × eV), Z.2.2.2.2.2.1[e]? = some y → vis name ed ez e y.2.2 = vis name ed Z.2.2.2.2.2.1.length e y.2.2 := by
    intro ed ez hez e y hy
    have hyl := (List.getElem?_eq_some_iff.mp hy).1
    apply beq_of_iff
    rw [vis_iff, vis_iff]
    constructor
    · rintro ⟨a1, a2⟩; exact ⟨a1, by omega⟩
    · rintro ⟨a1, a2⟩; exact ⟨a1, by omega⟩
  intro m
  induction m with
  | zero =>
    intro nz ed x5 hm hed hnz hno
    have hF : F_edition name i Z = (-1, Z) := by
      unfold F_edition
      have := rnk_none (L := Z.2.2.2.2.2.1) (name := name) (rank := i) (fun e x hx hp => hno e x hx (by rw [vis_iff]; have := (hk.2 e x hx).1.2.1; exact ⟨hp.1, by omega⟩) hp) Z.2.2.2.2.2.1.length 0 (by omega)
      rw [List.drop_zero] at this
      rw [this]
    refine ygo 99999 90 rfl rfl (by first | exact trivial | (simp only [true_and, yu, ya, reduceIte, Nat.reduceEqDiff, Int32.reduceToInt, Int.toNat_natCast, Int.reduceToNat]; omega) | decide | (simp; done) | (simp; omega)) ?_
    try simp only [List.map_cons, List.map_nil, List.length_cons, List.length_nil, ylr_s, ylr_0, Nat.reduceAdd, Nat.reduceSub, List.cons_append, List.nil_append, List.set_cons_zero, List.set_cons_succ, Option.toList_none, Option.toList_some, Int32.reduceToInt, yu, ya, reduceIte, Nat.reduceEqDiff, Int.toNat_natCast, Int.reduceToNat]
    refine yi_iflt rfl (by first | exact yr_t _ | exact yr_b _ | (unfold yr; omega)) (fun c => ?_) (fun c => ?_)
    · refine ygo 99999 90 rfl rfl (by first | exact trivial | (simp only [true_and, yu, ya, reduceIte, Nat.reduceEqDiff, Int32.reduceToInt, Int.toNat_natCast, Int.reduceToNat]; omega) | decide | (simp; done) | (simp; omega)) ?_
      try simp only [List.map_cons, List.map_nil, List.length_cons, List.length_nil, ylr_s, ylr_0, Nat.reduceAdd, Nat.reduceSub, List.cons_append, List.nil_append, List.set_cons_zero, List.set_cons_succ, Option.toList_none, Option.toList_some, Int32.reduceToInt, yu, ya, reduceIte, Nat.reduceEqDiff, Int.toNat_natCast, Int.reduceToNat]
      refine yi_ret_i rfl rfl (ypost.same h hF rfl)
    · omega
  | succ m ih =>
    intro nz ed x5 hm hed hnz hno
    refine ygo 99999 90 rfl rfl (by first | exact trivial | (simp only [true_and, yu, ya, reduceIte, Nat.reduceEqDiff, Int32.reduceToInt, Int.toNat_natCast, Int.reduceToNat]; omega) | decide | (simp; done) | (simp; omega)) ?_
    try simp only [List.map_cons, List.map_nil, List.length_cons, List.length_nil, ylr_s, ylr_0, Nat.reduceAdd, Nat.reduceSub, List.cons_append, List.nil_append, List.set_cons_zero, List.set_cons_succ, Option.toList_none, Option.toList_some, Int32.reduceToInt, yu, ya, reduceIte, Nat.reduceEqDiff, Int.toNat_natCast, Int.reduceToNat]
    refine yi_iflt rfl (by first | exact yr_t _ | exact yr_b _ | (unfold yr; omega)) (fun c => ?_) (fun c => ?_)
    · omega
    refine ygo 19 90 rfl rfl (by first | exact trivial | (simp only [true_and, yu, ya, reduceIte, Nat.reduceEqDiff, Int32.reduceToInt, Int.toNat_natCast, Int.reduceToNat]; omega) | decide | (simp; done) | (simp; omega)) ?_
    try simp only [List.map_cons, List.map_nil, List.length_cons, List.length_nil, ylr_s, ylr_0, Nat.reduceAdd, Nat.reduceSub, List.cons_append, List.nil_append, List.set_cons_zero, List.set_cons_succ, Option.toList_none, Option.toList_some, Int32.reduceToInt, yu, ya, reduceIte, Nat.reduceEqDiff, Int.toNat_natCast, Int.reduceToNat]
    refine l_ed2 h hk (by omega) (fun nz' ez' hn' hno' => ?_) Z.2.2.2.2.2.1.length nz (f 35 - 1) (Nat.le_refl _) (by omega) ?_ (fun e x hx hv => hno e x hx (by rw [← top ed (f 35 - 1) (by omega) e x hx]; exact hv))
    · refine ygo 6 90 rfl rfl (by first | exact trivial | (simp only [true_and, yu, ya, reduceIte, Nat.reduceEqDiff, Int32.reduceToInt, Int.toNat_natCast, Int.reduceToNat]; omega) | decide | (simp; done) | (simp; omega)) ?_
      try simp only [List.map_cons, List.map_nil, List.length_cons, List.length_nil, ylr_s, ylr_0, Nat.reduceAdd, Nat.reduceSub, List.cons_append, List.nil_append, List.set_cons_zero, List.set_cons_succ, Option.toList_none, Option.toList_some, Int32.reduceToInt, yu, ya, reduceIte, Nat.reduceEqDiff, Int.toNat_natCast, Int.reduceToNat]
      have low : ∀ (e : Nat) (y : Nat × Nat × eV), Z.2.2.2.2.2.1[e]? = some y → vis name ed (-1) e y.2.2 = vis name (ed - 1) Z.2.2.2.2.2.1.length e y.2.2 := by
        intro e y hy
        have hyl := (List.getElem?_eq_some_iff.mp hy).1
        apply beq_of_iff
        rw [vis_iff, vis_iff]
        constructor
        · rintro ⟨a1, a2⟩; exact ⟨a1, by omega⟩
        · rintro ⟨a1, a2⟩; exact ⟨a1, by omega⟩
      refine ih _ _ _ (by omega) (by omega) ?_ (fun e x hx hv => hno' e x hx (by rw [low e x hx]; exact hv))
      rw [hn']
      congr 1
      exact cntP_congr _ _ (fun e y hy => by rw [Nat.zero_add]; exact low e y hy)
    · rw [hnz]
      congr 1
      exact cntP_congr _ _ (fun e y hy => by rw [Nat.zero_add]; exact (top ed (f 35 - 1) (by omega) e y hy).symm)
set_option maxRecDepth 100000 in
set_option maxHeartbeats 2000000 in
theorem o_edition {G : xG} {d a : Nat} {name i : Int32} {Z : pZ} {f : Nat → Int} {A : Nat → List Int32} (h : mR Z (f, A)) (hk : okS Z.2.2.2.2.2.1) : ym G (d + 20) a mX9_edition [.inr 0, .inl name.toInt, .inl i.toInt] (f, A) (ypost (F_edition name i Z)) := by
  have hl := hk.1
  have hz : ∀ (e : Nat) (x : Nat × Nat × eV), Z.2.2.2.2.2.1[e]? = some x → vis name 99 Z.2.2.2.2.2.1.length e x.2.2 = false := by
    intro e x hx
    have hyl := (List.getElem?_eq_some_iff.mp hx).1
    have := (hk.2 e x hx).1.2.1
    cases hq : vis name 99 Z.2.2.2.2.2.1.length e x.2.2 with
    | false => rfl
    | true => rw [vis_iff] at hq; omega
  have h0 : ∀ (L : sL) (f : Nat), cntP (fun _ _ => false) L f = 0 := by
    intro L
    induction L with
    | nil => intro f; rfl
    | cons x L ih => intro f; unfold cntP; rw [ih]; rfl
  refine ym_at 6 rfl (by decide) (Nat.le_of_ble_eq_true rfl) tX9_edition_ok ?_
  try simp only [List.map_cons, List.map_nil, List.length_cons, List.length_nil, ylr_s, ylr_0, Nat.reduceAdd, Nat.reduceSub, List.cons_append, List.nil_append, List.set_cons_zero, List.set_cons_succ, Option.toList_none, Option.toList_some, Int32.reduceToInt, yu, ya, reduceIte, Nat.reduceEqDiff, Int.toNat_natCast, Int.reduceToNat]
  refine ygo 6 90 rfl rfl (by first | exact trivial | (simp only [true_and, yu, ya, reduceIte, Nat.reduceEqDiff, Int32.reduceToInt, Int.toNat_natCast, Int.reduceToNat]; omega) | decide | (simp; done) | (simp; omega)) ?_
  try simp only [List.map_cons, List.map_nil, List.length_cons, List.length_nil, ylr_s, ylr_0, Nat.reduceAdd, Nat.reduceSub, List.cons_append, List.nil_append, List.set_cons_zero, List.set_cons_succ, Option.toList_none, Option.toList_some, Int32.reduceToInt, yu, ya, reduceIte, Nat.reduceEqDiff, Int.toNat_natCast, Int.reduceToNat]
  refine l_ed1 h hk 100 0 _ none (by omega) rfl ?_ (fun e x hx hv => by rw [hz e x hx] at hv; cases hv)
  rw [cntP_congr (q := fun _ _ => false) _ _ (fun e y hy => by rw [Nat.zero_add]; exact hz e y hy), h0]
  rfl
