theorem tdat_len {r : List Int32} (h : 9 ≤ r.length) : (tdat r).length = r.length - 8 := by
  unfold tdat
  simp only [List.length_take, List.length_drop]
  omega
theorem tdat_get {r : List Int32} {k : Nat} (h : k < r.length - 8) : (tdat r)[k]? = r[4 + k]? := by
  unfold tdat
  rw [List.getElem?_take, if_pos h, List.getElem?_drop]
theorem i8i8 (x : Int32) : Int32.ofInt x.toInt8.toInt32.toInt = x.toInt8.toInt32 := iof _
theorem i8_idem (x : Int32) : x.toInt8.toInt32.toInt8.toInt32 = x.toInt8.toInt32 := by rw [Int8.toInt8_toInt32]
set_option maxRecDepth 100000 in
set_option maxHeartbeats 2000000 in
theorem l_take {G : xG} {d a b i : Nat} {f : Nat → Int} {A : Nat → List Int32} {r : List Int32} {lz : Int} {Q : Option yv → yS → Prop} (hT : mT r (f, A)) (hr9 : 9 ≤ r.length) (hr : r.length ≤ 108) (hb : b < 16) (hi : i < 88)
    (kq : ∀ (row : List Int32) (kz : Int), (∀ (k : Nat) (x : Int32), (tdat r)[k]? = some x → row.getD (100 * (88 * b + i) + k) 0 = x.toInt8.toInt32) → (∀ q, ¬ (100 * (88 * b + i) ≤ q ∧ q < 100 * (88 * b + i) + 100) → row.getD q 0 = (A 31).getD q 0) → yw G d a mX9_take 224 [some (.inr 0), some (.inl b), some (.inl i), some (.inl lz), some (.inl kz)] [] (f, ya A 31 row) Q) : ∀ (n k : Nat) (kz : Int) (row : List Int32), k + n = r.length - 8 → kz = k → row.length = 140800 → (∀ (k' : Nat) (x : Int32), k' < k → (tdat r)[k']? = some x → row.getD (100 * (88 * b + i) + k') 0 = x.toInt8.toInt32) → (∀ q, ¬ (100 * (88 * b + i) ≤ q ∧ q < 100 * (88 * b + i) + 100) → row.getD q 0 = (A 31).getD q 0) →
    yw G d a mX9_take 179 [some (.inr 0), some (.inl b), some (.inl i), some (.inl lz), some (.inl kz)] [] (f, ya A 31 row) Q := by
  have h30 : f 30 = r.length := hT.1
  have htl := tdat_len hr9
  intro n
  induction n with
  | zero =>
    intro k kz row hk hkz hl h1 h2
    refine ygo 99999 90 rfl rfl (by first | exact trivial | (simp only [true_and, yu, ya, reduceIte, Nat.reduceEqDiff, Int32.reduceToInt, Int.toNat_natCast, Int.reduceToNat]; omega) | decide | (simp; done)) ?_
    try simp only [List.map_cons, List.map_nil, List.length_cons, List.length_nil, ylr_s, ylr_0, Nat.reduceAdd, Nat.reduceSub, List.cons_append, List.nil_append, List.set_cons_zero, List.set_cons_succ, Option.toList_none, Option.toList_some, Int32.reduceToInt, yu, ya, reduceIte, Nat.reduceEqDiff, Int.toNat_natCast, Int.reduceToNat]
    refine yi_icmpge rfl (by refine ⟨?_, ?_⟩ <;> first | exact yr_t _ | exact yr_b _ | (unfold yr; omega)) (fun c => ?_) (fun c => ?_)
    · exact kq row _ (fun k' x hx => h1 k' x (by have := (List.getElem?_eq_some_iff.mp hx).1; omega) hx) h2
    · omega
  | succ n ih =>
    intro k kz row hk hkz hl h1 h2
    obtain ⟨x, hx⟩ := lt_get (l := r) (j := 4 + k) (by omega)
    have hg : (A 29).getD (4 + k) 0 = x := hT.2 _ x hx
    have i1 : (100 * (88 * (b : Int) + i) + kz).toNat = 100 * (88 * b + i) + k := by omega
    have i2 : (4 + kz).toNat = 4 + k := by omega
    refine ygo 99999 90 rfl rfl (by first | exact trivial | (simp only [true_and, yu, ya, reduceIte, Nat.reduceEqDiff, Int32.reduceToInt, Int.toNat_natCast, Int.reduceToNat]; omega) | decide | (simp; done)) ?_
    try simp only [List.map_cons, List.map_nil, List.length_cons, List.length_nil, ylr_s, ylr_0, Nat.reduceAdd, Nat.reduceSub, List.cons_append, List.nil_append, List.set_cons_zero, List.set_cons_succ, Option.toList_none, Option.toList_some, Int32.reduceToInt, yu, ya, reduceIte, Nat.reduceEqDiff, Int.toNat_natCast, Int.reduceToNat]
    refine yi_icmpge rfl (by refine ⟨?_, ?_⟩ <;> first | exact yr_t _ | exact yr_b _ | (unfold yr; omega)) (fun c => ?_) (fun c => ?_)
    · omega
    refine ygo 179 90 rfl rfl (by first | exact trivial | (simp only [true_and, yu, ya, reduceIte, Nat.reduceEqDiff, Int32.reduceToInt, Int.toNat_natCast, Int.reduceToNat]; omega) | decide | (simp; done)) ?_
    try simp only [List.map_cons, List.map_nil, List.length_cons, List.length_nil, ylr_s, ylr_0, Nat.reduceAdd, Nat.reduceSub, List.cons_append, List.nil_append, List.set_cons_zero, List.set_cons_succ, Option.toList_none, Option.toList_some, Int32.reduceToInt, yu, ya, reduceIte, Nat.reduceEqDiff, Int.toNat_natCast, Int.reduceToNat]
    rw [i1, i2, hg, ya_ya, iof, iof, i8_idem]
    refine ih (k + 1) _ _ (by omega) (by omega) (by rw [List.length_set]; exact hl) (fun k' y hk' hy => ?_) (fun q hq => by rw [gset_ne (by omega)]; exact h2 q hq)
    by_cases e : k' = k
    · subst e
      rw [tdat_get (by omega), hx] at hy
      cases hy
      rw [gset_eq (by omega)]
    · rw [gset_ne (by omega)]
      exact h1 k' y (by omega) hy
theorem cnt_set {P : List (Option (List Int32))} {i : Nat} {x : List Int32} (h : P[i]? = some none) : (P.set i (some x)).countP Option.isSome = P.countP Option.isSome + 1 := by
  induction P generalizing i with
  | nil => simp at h
  | cons a P ih =>
    cases i with
    | zero =>
      have e : a = none := by simpa using h
      subst e
      simp
    | succ i =>
      have := ih (i := i) (by simpa using h)
      simp only [List.set_cons_succ, List.countP_cons, this]
      omega
theorem cnt_lt {P : List (Option (List Int32))} {i w : Nat} (hi : i < w) (h : P[i]? = some none) (hn : ∀ j, w ≤ j → j < P.length → P[j]? = some none) : P.countP Option.isSome < w := by
  have e : P = P.take w ++ P.drop w := (List.take_append_drop w P).symm
  have h2 : (P.drop w).countP Option.isSome = 0 := by
    rw [List.countP_eq_zero]
    intro o ho
    obtain ⟨j, hj⟩ := List.getElem?_of_mem ho
    rw [List.getElem?_drop] at hj
    have := (List.getElem?_eq_some_iff.mp hj).1
    rw [hn (w + j) (by omega) this] at hj
    cases hj
    simp
  have h1 : (P.take w).countP Option.isSome < (P.take w).length := by
    have hle := List.countP_le_length (p := Option.isSome) (l := P.take w)
    by_cases he : (P.take w).countP Option.isSome = (P.take w).length
    · exfalso
      rw [List.countP_eq_length] at he
      have hm : (none : Option (List Int32)) ∈ P.take w := by
        apply List.mem_of_getElem? (i := i)
        rw [List.getElem?_take, if_pos hi]
        exact h
      have := he _ hm
      cases this
    · omega
  have h3 : (P.take w).length ≤ w := by rw [List.length_take]; omega
  rw [e, List.countP_append, h2]
  omega
theorem okBk_put {V : bB} {i m n : Nat} {r : List Int32} (h : okBk V) (hi : i < m) (hm : m ≤ 88) (hP : V.2.2[i]? = some none) (hw : V.1.1 = 0 ∨ V.1.1 = nI m) (hr : okT r) (hr9 : 9 ≤ r.length) : okBk (bput V i (nI m) n r) := by
  obtain ⟨h1, h2, h3, h4, w, hw88, h5, h6⟩ := h
  have htl := tdat_len hr9
  have hr2 := hr.2.1
  refine ⟨?_, fun j bs hj => ?_, ?_, ?_, m, hm, rfl, fun j hj1 hj2 => ?_⟩
  · simp only [bput, List.length_set]; exact h1
  · have hj' : (V.2.2.set i (some (tdat r)))[j]? = some (some bs) := hj
    by_cases e : j = i
    · subst e
      rw [List.getElem?_set_self (by omega)] at hj'
      have e2 : tdat r = bs := by simpa using hj'
      subst e2
      refine ⟨by omega, by omega, fun x hx => ?_⟩
      unfold tdat at hx
      exact hr.2.2 x (List.mem_of_mem_drop (List.mem_of_mem_take hx))
    · rw [List.getElem?_set_ne (by omega)] at hj'
      exact h2 j bs hj'
  · simp only [bput]
    rw [cnt_set hP, h3, nI_inc]
  · simp only [bput]
    rw [pjoin_set hP, h4, nI_addN, htl]
  · have hne : j ≠ i := by omega
    have hj' : (V.2.2.set i (some (tdat r)))[j]? = V.2.2[j]? := List.getElem?_set_ne (fun e => hne e.symm)
    show (V.2.2.set i (some (tdat r)))[j]? = some none
    rw [hj']
    rcases hw with hw | hw
    · rw [h5] at hw
      have : w = 0 := by
        rw [i_eq, i_n (by omega)] at hw
        have : (0 : Int32).toInt = 0 := rfl
        omega
      exact h6 j (by omega) hj2
    · rw [h5, nI_inj (by omega) (by omega)] at hw
      exact h6 j (by omega) hj2
theorem mB_put {B : Nat → bB} {f : Nat → Int} {A : Nat → List Int32} {b i n : Nat} {m : Int32} {r row : List Int32} (h : mB B (f, A)) (hl : yok A) (hb : b < 16) (hi : i < 88) (hB : ∀ c, c < 16 → okBk (B c)) (hr9 : 9 ≤ r.length) (hr : r.length ≤ 108) (h1 : ∀ (k : Nat) (x : Int32), (tdat r)[k]? = some x → row.getD (100 * (88 * b + i) + k) 0 = x.toInt8.toInt32) (h2 : ∀ q, ¬ (100 * (88 * b + i) ≤ q ∧ q < 100 * (88 * b + i) + 100) → row.getD q 0 = (A 31).getD q 0) : mB (fun q => if q = b then bput (B b) i m n r else B q) (f, ya (ya (ya (ya A 33 ((A 33).set b m)) 34 ((A 34).set b ((B b).1.2.1 + 1))) 32 ((A 32).set (88 * b + i) (nI (r.length - 8)))) 31 row) := by
  have l33 : (A 33).length = 16 := hl 33 _ rfl
  have l34 : (A 34).length = 16 := hl 34 _ rfl
  have l32 : (A 32).length = 1408 := hl 32 _ rfl
  have htl := tdat_len hr9
  intro c hc
  simp only [ya, reduceIte, Nat.reduceEqDiff]
  have hV := hB c hc
  by_cases e : c = b
  · subst e
    rw [if_pos rfl, gset_eq (by omega), gset_eq (by omega)]
    refine ⟨rfl, rfl, fun j o ho => ?_⟩
    have ho' : ((B c).2.2.set i (some (tdat r)))[j]? = some o := ho
    by_cases hj : j = i
    · subst hj
      rw [List.getElem?_set_self (by rw [hV.1]; exact hi)] at ho'
      cases ho'
      rw [gset_eq (by omega)]
      exact ⟨by rw [show (some (tdat r)).getD [] = tdat r from rfl, htl], h1⟩
    · rw [List.getElem?_set_ne (by omega)] at ho'
      rw [gset_ne (by omega)]
      have hc' := (h c hc).2.2 j o ho'
      refine ⟨hc'.1, fun k x hx => ?_⟩
      have hk := (List.getElem?_eq_some_iff.mp hx).1
      have := (hV.len ho').2
      rw [h2 _ (by omega)]
      exact hc'.2 k x hx
  · rw [if_neg e, gset_ne e, gset_ne e]
    have hc' := h c hc
    refine ⟨hc'.1, hc'.2.1, fun j o ho => ?_⟩
    have hj := (List.getElem?_eq_some_iff.mp ho).1
    have hjl := hV.1
    rw [gset_ne (by omega)]
    have hc2 := hc'.2.2 j o ho
    refine ⟨hc2.1, fun k x hx => ?_⟩
    have hk := (List.getElem?_eq_some_iff.mp hx).1
    have := (hV.len ho).2
    rw [h2 _ (by omega)]
    exact hc2.2 k x hx
set_option maxRecDepth 100000 in
set_option maxHeartbeats 2000000 in
theorem o_take {G : xG} {d a n : Nat} {Z : pZ} {f : Nat → Int} {A : Nat → List Int32} (h : mR Z (f, A)) (hP : okP Z.2.2.1) (hk : okT Z.2.2.2.1) (hB : ∀ c, c < 16 → okBk (Z.2.2.2.2.1 c)) : ym G (d + 20) a mX9_take [.inr 0] (f, A) (ypost (F_take n Z)) := by
  have hT := h.2.2.1
  have h30 : f 30 = Z.2.2.2.1.length := hT.1
  have h19 : f 19 = Z.2.2.1.length := h.2.1.1
  have hP16 := hP.1
  have hr := hk.2.1
  unfold F_take
  dsimp only
  refine ym.len (fun hlen => ?_)
  have l31 : (A 31).length = 140800 := hlen 31 _ rfl
  refine ym_at 5 rfl (by decide) (Nat.le_of_ble_eq_true rfl) tX9_take_ok ?_
  try simp only [List.map_cons, List.map_nil, List.length_cons, List.length_nil, ylr_s, ylr_0, Nat.reduceAdd, Nat.reduceSub, List.cons_append, List.nil_append, List.set_cons_zero, List.set_cons_succ, Option.toList_none, Option.toList_some, Int32.reduceToInt, yu, ya, reduceIte, Nat.reduceEqDiff, Int.toNat_natCast, Int.reduceToNat]
  refine ygo 99999 90 rfl rfl (by first | exact trivial | (simp only [true_and, yu, ya, reduceIte, Nat.reduceEqDiff, Int32.reduceToInt, Int.toNat_natCast, Int.reduceToNat]; omega) | decide | (simp; done)) ?_
  try simp only [List.map_cons, List.map_nil, List.length_cons, List.length_nil, ylr_s, ylr_0, Nat.reduceAdd, Nat.reduceSub, List.cons_append, List.nil_append, List.set_cons_zero, List.set_cons_succ, Option.toList_none, Option.toList_some, Int32.reduceToInt, yu, ya, reduceIte, Nat.reduceEqDiff, Int.toNat_natCast, Int.reduceToNat]
  refine yi_ifne rfl (by first | exact yr_t _ | exact yr_b _ | (unfold yr; omega)) (fun c0 => ?_) (fun c0 => ?_)
  · rw [if_neg (by omega)]
    have hr9 : 9 ≤ Z.2.2.2.1.length := by have := hk.1; omega
    have g : ∀ k, k < 4 → ∃ x, Z.2.2.2.1[k]? = some x ∧ (A 29).getD k 0 = x ∧ bat Z.2.2.2.1 (nI k) = x ∧ blw x 256 := fun k hk4 => by
      obtain ⟨x, hx⟩ := lt_get (l := Z.2.2.2.1) (j := k) (by omega)
      exact ⟨x, hx, hT.2 k x hx, by rw [bat_n (by omega), getD_s hx], hk.2.2 x (List.mem_of_getElem? hx)⟩
    obtain ⟨b1, -, g1, t1, k1⟩ := g 1 (by omega)
    obtain ⟨b2, -, g2, t2, k2⟩ := g 2 (by omega)
    obtain ⟨b3, -, g3, t3, k3⟩ := g 3 (by omega)
    have t1' : bat Z.2.2.2.1 1 = b1 := t1
    have t2' : bat Z.2.2.2.1 2 = b2 := t2
    have t3' : bat Z.2.2.2.1 3 = b3 := t3
    refine ygo 99999 90 rfl rfl (by first | exact trivial | (simp only [true_and, yu, ya, reduceIte, Nat.reduceEqDiff, Int32.reduceToInt, Int.toNat_natCast, Int.reduceToNat]; omega) | decide | (simp; done)) ?_
    try simp only [List.map_cons, List.map_nil, List.length_cons, List.length_nil, ylr_s, ylr_0, Nat.reduceAdd, Nat.reduceSub, List.cons_append, List.nil_append, List.set_cons_zero, List.set_cons_succ, Option.toList_none, Option.toList_some, Int32.reduceToInt, yu, ya, reduceIte, Nat.reduceEqDiff, Int.toNat_natCast, Int.reduceToNat]
    refine ycV rfl rfl rfl (cm_isSpoiled hT hk hr9) rfl kX9_isSpoiled iX9_isSpoiled rfl rfl rfl (Nat.le_of_ble_eq_true rfl) (fun v1 Y1 q1 => ?_)
    obtain ⟨rfl, rfl⟩ := q1
    refine ygo 99999 90 rfl rfl (by first | exact trivial | (simp only [true_and, yu, ya, reduceIte, Nat.reduceEqDiff, Int32.reduceToInt, Int.toNat_natCast, Int.reduceToNat]; omega) | decide | (simp; done)) ?_
    try simp only [List.map_cons, List.map_nil, List.length_cons, List.length_nil, ylr_s, ylr_0, Nat.reduceAdd, Nat.reduceSub, List.cons_append, List.nil_append, List.set_cons_zero, List.set_cons_succ, Option.toList_none, Option.toList_some, Int32.reduceToInt, yu, ya, reduceIte, Nat.reduceEqDiff, Int.toNat_natCast, Int.reduceToNat]
    refine yi_ifeq rfl (by first | exact yr_t _ | exact yr_b _ | (unfold yr; omega)) (fun c1 => ?_) (fun c1 => ?_)
    · rw [bInt_z] at c1
      have c1 := of_decide_eq_false c1
      rw [if_neg c1]
      have hb1 : blw (bat Z.2.2.2.1 1) 16 := Classical.not_not.mp (fun hc => c1 (Or.inl hc))
      have hsp : splB Z.2.2.2.1 = false := by
        cases hs : splB Z.2.2.2.1 with
        | true => exact absurd (Or.inr hs) c1
        | false => rfl
      have hok := splB_ok hsp hk.2.2
      rw [t1'] at hb1
      rw [t2', t3'] at hok
      rw [t1', t2', t3']
      generalize hb : b1.toInt.toNat = b
      have hbz : b1.toInt = b := by omega
      have hb16 : b < 16 := by omega
      generalize hi : b2.toInt.toNat = i
      have hiz : b2.toInt = i := by omega
      have hi88 : i < 88 := by omega
      have hbi : b2 = nI i := by rw [← hi]; exact toN (by omega)
      generalize hm : b3.toInt.toNat = m
      have hmz : b3.toInt = m := by omega
      have hb3 : b3 = nI m := by rw [← hm]; exact toN (by omega)
      have hV := hB b hb16
      have hM := h.2.2.2.1 b hb16
      dsimp only at hM
      obtain ⟨w, hw88, hw, hnone⟩ := hV.2.2.2.2
      have hwz : ((A 33).getD b 0).toInt = w := by rw [hM.1, hw, i_n (by omega)]
      obtain ⟨o, ho⟩ := lt_get (l := (Z.2.2.2.2.1 b).2.2) (j := i) (by rw [hV.1]; omega)
      have hol := hV.len ho
      have hpl : ((A 32).getD (88 * b + i) 0).toInt = (o.getD []).length := by rw [(hM.2.2 i o ho).1, i_n (by omega)]
      have i0 : (88 * (b : Int) + i).toNat = 88 * b + i := by omega
      have hcle : (Z.2.2.2.2.1 b).2.2.countP Option.isSome ≤ 88 := by have := List.countP_le_length (p := Option.isSome) (l := (Z.2.2.2.2.1 b).2.2); rw [hV.1] at this; exact this
      have hcz : ((A 34).getD b 0).toInt = (Z.2.2.2.2.1 b).2.2.countP Option.isSome := by rw [hM.2.1, hV.2.2.1, i_n (by omega)]
      have g3z : ((A 29).getD 3 0).toInt = m := by rw [g3, hmz]
      have g1z : ((A 29).getD 1 0).toInt = b := by rw [g1, hbz]
      have g2z : ((A 29).getD 2 0).toInt = i := by rw [g2, hiz]
      have hpjl : (pjoin (Z.2.2.2.2.1 b).2.2).length ≤ 8800 := by
        have := pj_le hV 88 (Nat.le_refl _)
        rw [List.take_of_length_le (by rw [hV.1]; exact Nat.le_refl _)] at this
        omega
      have w0 : (Z.2.2.2.2.1 b).1.1 = 0 ↔ w = 0 := by
        rw [hw, i_eq, i_n (by omega)]
        have : (0 : Int32).toInt = 0 := rfl
        omega
      have wm : (Z.2.2.2.2.1 b).1.1 = b3 ↔ w = m := by
        rw [hw, hb3, nI_inj (by omega) (by omega)]
      have rest : (Z.2.2.2.2.1 b).1.1 = 0 ∨ (Z.2.2.2.2.1 b).1.1 = b3 → yw G (d + 20) a mX9_take 61 [some (.inr 0), some (.inl b), some (.inl i), none, none] [] (f, A) (ypost (if phas (Z.2.2.2.2.1 b).2.2 b2 = true then (-4, Z) else if (Z.2.2.2.2.1 b).1.2.1 + 1 < b3 then (0, zB Z b (bput (Z.2.2.2.2.1 b) i b3 n Z.2.2.2.1)) else if 16 ≤ Z.2.2.1.length ∨ 700 < ((Z.2.2.2.2.1 b).1.2.2 + nI Z.2.2.2.1.length - 8).toInt then (-3, Z) else (100 + nI Z.2.2.1.length, zP (zB Z b bEmpty) (Z.2.2.1 ++ [(n + 2, (pjoin (bput (Z.2.2.2.2.1 b) i b3 n Z.2.2.2.1).2.2).length, pjoin (bput (Z.2.2.2.2.1 b) i b3 n Z.2.2.2.1).2.2)])))) := by
        intro hwc
        rw [hbi, phas_n hi88 ho]
        refine ygo 99999 90 rfl rfl (by first | exact trivial | (simp only [true_and, yu, ya, reduceIte, Nat.reduceEqDiff, Int32.reduceToInt, Int.toNat_natCast, Int.reduceToNat]; omega) | decide | (simp; done)) ?_
        try simp only [List.map_cons, List.map_nil, List.length_cons, List.length_nil, ylr_s, ylr_0, Nat.reduceAdd, Nat.reduceSub, List.cons_append, List.nil_append, List.set_cons_zero, List.set_cons_succ, Option.toList_none, Option.toList_some, Int32.reduceToInt, yu, ya, reduceIte, Nat.reduceEqDiff, Int.toNat_natCast, Int.reduceToNat]
        refine yi_ifle rfl (by first | exact yr_t _ | exact yr_b _ | (unfold yr; omega)) (fun c3 => ?_) (fun c3 => ?_)
        · rw [i0, hpl] at c3
          have hos : o.isSome = false := by cases hq : o.isSome with | true => have := hol.1.mp hq; omega | false => rfl
          have hon : o = none := by cases o with | none => rfl | some x => cases hos
          subst hon
          rw [if_neg (by rw [hos]; decide)]
          have hcm : (Z.2.2.2.2.1 b).2.2.countP Option.isSome < m := by
            have hmm : m ≤ 88 := by omega
            rcases hwc with hc | hc
            · have hw00 := w0.mp hc
              exact cnt_lt (i := i) (by omega) ho (fun j h1 h2 => hnone j (by omega) (by rw [hV.1] at h2; exact h2))
            · have hwm := wm.mp hc
              exact cnt_lt (i := i) (by omega) ho (fun j h1 h2 => hnone j (by omega) (by rw [hV.1] at h2; exact h2))
          have hcl : (Z.2.2.2.2.1 b).1.2.1 + 1 < b3 ↔ (Z.2.2.2.2.1 b).2.2.countP Option.isSome + 1 < m := by
            rw [hV.2.2.1, nI_inc, hb3, i_lt, i_n (by omega), i_n (by omega)]
            omega
          have hfl : ((Z.2.2.2.2.1 b).1.2.2 + nI Z.2.2.2.1.length - 8).toInt = (pjoin (Z.2.2.2.2.1 b).2.2).length + Z.2.2.2.1.length - 8 := by
            have e1 : (Z.2.2.2.2.1 b).1.2.2 + nI Z.2.2.2.1.length - 8 = nI ((pjoin (Z.2.2.2.2.1 b).2.2).length + Z.2.2.2.1.length - 8) := by
              rw [hV.2.2.2.1, nI_addN]
              exact nI_subN (b := 8) (by omega)
            rw [e1, i_n (by omega)]
            omega
          have hoV : okBk (bput (Z.2.2.2.2.1 b) i b3 n Z.2.2.2.1) := by
            rw [hb3]
            exact okBk_put hV (by omega) (by omega) ho (by rw [← hb3]; exact hwc) hk hr9
          have go : ∀ (lz : Int) (F : Int32 × pZ), (∀ (row : List Int32) (kz : Int), mR (zB Z b (bput (Z.2.2.2.2.1 b) i b3 n Z.2.2.2.1)) (f, ya (ya (ya (ya A 33 ((A 33).set b b3)) 34 ((A 34).set b ((Z.2.2.2.2.1 b).1.2.1 + 1))) 32 ((A 32).set (88 * b + i) (nI (Z.2.2.2.1.length - 8)))) 31 row) → yw G (d + 20) a mX9_take 224 [some (.inr 0), some (.inl b), some (.inl i), some (.inl lz), some (.inl kz)] [] (f, ya (ya (ya (ya A 33 ((A 33).set b b3)) 34 ((A 34).set b ((Z.2.2.2.2.1 b).1.2.1 + 1))) 32 ((A 32).set (88 * b + i) (nI (Z.2.2.2.1.length - 8)))) 31 row) (ypost F)) → yw G (d + 20) a mX9_take 136 [some (.inr 0), some (.inl b), some (.inl i), some (.inl lz), none] [] (f, A) (ypost F) := by
            intro lz F kF
            have e34 : Int32.ofInt (((A 34).getD b 0).toInt + 1) = (Z.2.2.2.2.1 b).1.2.1 + 1 := by
              rw [Int32.ofInt_add, iof, hM.2.1]
              rfl
            have e32 : Int32.ofInt (f 30 - 8) = nI (Z.2.2.2.1.length - 8) := by
              rw [show f 30 - 8 = ((Z.2.2.2.1.length - 8 : Nat) : Int) by omega]
              exact iofn _
            refine ygo 179 90 rfl rfl (by first | exact trivial | (simp only [true_and, yu, ya, reduceIte, Nat.reduceEqDiff, Int32.reduceToInt, Int.toNat_natCast, Int.reduceToNat]; omega) | decide | (simp; done)) ?_
            try simp only [List.map_cons, List.map_nil, List.length_cons, List.length_nil, ylr_s, ylr_0, Nat.reduceAdd, Nat.reduceSub, List.cons_append, List.nil_append, List.set_cons_zero, List.set_cons_succ, Option.toList_none, Option.toList_some, Int32.reduceToInt, yu, ya, reduceIte, Nat.reduceEqDiff, Int.toNat_natCast, Int.reduceToNat]
            rw [g3, iof, e34, e32, i0]
            generalize hA1 : ya (ya (ya A 33 ((A 33).set b b3)) 34 ((A 34).set b ((Z.2.2.2.2.1 b).1.2.1 + 1))) 32 ((A 32).set (88 * b + i) (nI (Z.2.2.2.1.length - 8))) = A1 at kF ⊢
            have hA31 : A1 31 = A 31 := by rw [← hA1]; rfl
            have hT1 : mT Z.2.2.2.1 (f, A1) := by rw [← hA1]; exact hT
            have hAA : A1 = ya A1 31 (A1 31) := by
              funext q
              unfold ya
              by_cases e : q = 31
              · subst e; rfl
              · rw [if_neg e]
            rw [hAA]
            refine l_take hT1 hr9 hr hb16 hi88 (fun row kz h1 h2 => kF row kz ?_) (Z.2.2.2.1.length - 8) 0 0 (A1 31) (by omega) rfl (by rw [hA31]; exact l31) (fun k' x hk' => absurd hk' (by omega)) (fun q hq => rfl)
            rw [← hA1]
            exact ⟨h.1, h.2.1, h.2.2.1, mB_put h.2.2.2.1 hlen hb16 hi88 hB hr9 hr h1 (fun q hq => by rw [h2 q hq, hA31]), h.2.2.2.2⟩
          refine ygo 99999 90 rfl rfl (by first | exact trivial | (simp only [true_and, yu, ya, reduceIte, Nat.reduceEqDiff, Int32.reduceToInt, Int.toNat_natCast, Int.reduceToNat]; omega) | decide | (simp; done)) ?_
          try simp only [List.map_cons, List.map_nil, List.length_cons, List.length_nil, ylr_s, ylr_0, Nat.reduceAdd, Nat.reduceSub, List.cons_append, List.nil_append, List.set_cons_zero, List.set_cons_succ, Option.toList_none, Option.toList_some, Int32.reduceToInt, yu, ya, reduceIte, Nat.reduceEqDiff, Int.toNat_natCast, Int.reduceToNat]
          refine yi_icmpne rfl (by refine ⟨?_, ?_⟩ <;> first | exact yr_t _ | exact yr_b _ | (unfold yr; omega)) (fun c4 => ?_) (fun c4 => ?_)
          · have hnl : ¬ (Z.2.2.2.2.1 b).2.2.countP Option.isSome + 1 = m := by rw [g3z, hcz] at c4; omega
            rw [if_pos (hcl.mpr (by omega))]
            refine ygo 99999 90 rfl rfl (by first | exact trivial | (simp only [true_and, yu, ya, reduceIte, Nat.reduceEqDiff, Int32.reduceToInt, Int.toNat_natCast, Int.reduceToNat]; omega) | decide | (simp; done)) ?_
            try simp only [List.map_cons, List.map_nil, List.length_cons, List.length_nil, ylr_s, ylr_0, Nat.reduceAdd, Nat.reduceSub, List.cons_append, List.nil_append, List.set_cons_zero, List.set_cons_succ, Option.toList_none, Option.toList_some, Int32.reduceToInt, yu, ya, reduceIte, Nat.reduceEqDiff, Int.toNat_natCast, Int.reduceToNat]
            refine yi_ifeq rfl (by first | exact yr_t _ | exact yr_b _ | (unfold yr; omega)) (fun c5 => ?_) (fun c5 => ?_)
            · refine go 0 _ (fun row kz hR => ?_)
              refine ygo 99999 90 rfl rfl (by first | exact trivial | (simp only [true_and, yu, ya, reduceIte, Nat.reduceEqDiff, Int32.reduceToInt, Int.toNat_natCast, Int.reduceToNat]; omega) | decide | (simp; done)) ?_
              try simp only [List.map_cons, List.map_nil, List.length_cons, List.length_nil, ylr_s, ylr_0, Nat.reduceAdd, Nat.reduceSub, List.cons_append, List.nil_append, List.set_cons_zero, List.set_cons_succ, Option.toList_none, Option.toList_some, Int32.reduceToInt, yu, ya, reduceIte, Nat.reduceEqDiff, Int.toNat_natCast, Int.reduceToNat]
              refine yi_ifeq rfl (by first | exact yr_t _ | exact yr_b _ | (unfold yr; omega)) (fun c6 => ?_) (fun c6 => ?_)
              · refine ygo 99999 90 rfl rfl (by first | exact trivial | (simp only [true_and, yu, ya, reduceIte, Nat.reduceEqDiff, Int32.reduceToInt, Int.toNat_natCast, Int.reduceToNat]; omega) | decide | (simp; done)) ?_
                try simp only [List.map_cons, List.map_nil, List.length_cons, List.length_nil, ylr_s, ylr_0, Nat.reduceAdd, Nat.reduceSub, List.cons_append, List.nil_append, List.set_cons_zero, List.set_cons_succ, Option.toList_none, Option.toList_some, Int32.reduceToInt, yu, ya, reduceIte, Nat.reduceEqDiff, Int.toNat_natCast, Int.reduceToNat]
                refine yi_ret_i rfl rfl ⟨rfl, hR⟩
              · omega
            · omega
          · have hnl : (Z.2.2.2.2.1 b).2.2.countP Option.isSome + 1 = m := by rw [g3z, hcz] at c4; omega
            rw [if_neg (fun hc => by have := hcl.mp hc; omega)]
            refine ygo 99999 90 rfl rfl (by first | exact trivial | (simp only [true_and, yu, ya, reduceIte, Nat.reduceEqDiff, Int32.reduceToInt, Int.toNat_natCast, Int.reduceToNat]; omega) | decide | (simp; done)) ?_
            try simp only [List.map_cons, List.map_nil, List.length_cons, List.length_nil, ylr_s, ylr_0, Nat.reduceAdd, Nat.reduceSub, List.cons_append, List.nil_append, List.set_cons_zero, List.set_cons_succ, Option.toList_none, Option.toList_some, Int32.reduceToInt, yu, ya, reduceIte, Nat.reduceEqDiff, Int.toNat_natCast, Int.reduceToNat]
            refine yi_ifeq rfl (by first | exact yr_t _ | exact yr_b _ | (unfold yr; omega)) (fun c5 => ?_) (fun c5 => ?_)
            · omega
            refine ygo 99999 90 rfl rfl (by first | exact trivial | (simp only [true_and, yu, ya, reduceIte, Nat.reduceEqDiff, Int32.reduceToInt, Int.toNat_natCast, Int.reduceToNat]; omega) | decide | (simp; done)) ?_
            try simp only [List.map_cons, List.map_nil, List.length_cons, List.length_nil, ylr_s, ylr_0, Nat.reduceAdd, Nat.reduceSub, List.cons_append, List.nil_append, List.set_cons_zero, List.set_cons_succ, Option.toList_none, Option.toList_some, Int32.reduceToInt, yu, ya, reduceIte, Nat.reduceEqDiff, Int.toNat_natCast, Int.reduceToNat]
            refine yi_icmpeq rfl (by refine ⟨?_, ?_⟩ <;> first | exact yr_t _ | exact yr_b _ | (unfold yr; omega)) (fun c6 => ?_) (fun c6 => ?_)
            · refine ygo 99999 90 rfl rfl (by first | exact trivial | (simp only [true_and, yu, ya, reduceIte, Nat.reduceEqDiff, Int32.reduceToInt, Int.toNat_natCast, Int.reduceToNat]; omega) | decide | (simp; done)) ?_
              try simp only [List.map_cons, List.map_nil, List.length_cons, List.length_nil, ylr_s, ylr_0, Nat.reduceAdd, Nat.reduceSub, List.cons_append, List.nil_append, List.set_cons_zero, List.set_cons_succ, Option.toList_none, Option.toList_some, Int32.reduceToInt, yu, ya, reduceIte, Nat.reduceEqDiff, Int.toNat_natCast, Int.reduceToNat]
              refine yi_ret_i rfl rfl (ypost.same h (if_pos (Or.inl (by omega))) rfl)
            refine ygo 99999 90 rfl rfl (by first | exact trivial | (simp only [true_and, yu, ya, reduceIte, Nat.reduceEqDiff, Int32.reduceToInt, Int.toNat_natCast, Int.reduceToNat]; omega) | decide | (simp; done)) ?_
            try simp only [List.map_cons, List.map_nil, List.length_cons, List.length_nil, ylr_s, ylr_0, Nat.reduceAdd, Nat.reduceSub, List.cons_append, List.nil_append, List.set_cons_zero, List.set_cons_succ, Option.toList_none, Option.toList_some, Int32.reduceToInt, yu, ya, reduceIte, Nat.reduceEqDiff, Int.toNat_natCast, Int.reduceToNat]
            refine ycV rfl rfl rfl (cm_bookLength h.2.2.2.1 hV hb16) rfl kX9_bookLength iX9_bookLength rfl rfl rfl (Nat.le_of_ble_eq_true rfl) (fun v2 Y2 q2 => ?_)
            obtain ⟨rfl, rfl⟩ := q2
            refine ygo 99999 90 rfl rfl (by first | exact trivial | (simp only [true_and, yu, ya, reduceIte, Nat.reduceEqDiff, Int32.reduceToInt, Int.toNat_natCast, Int.reduceToNat]; omega) | decide | (simp; done)) ?_
            try simp only [List.map_cons, List.map_nil, List.length_cons, List.length_nil, ylr_s, ylr_0, Nat.reduceAdd, Nat.reduceSub, List.cons_append, List.nil_append, List.set_cons_zero, List.set_cons_succ, Option.toList_none, Option.toList_some, Int32.reduceToInt, yu, ya, reduceIte, Nat.reduceEqDiff, Int.toNat_natCast, Int.reduceToNat]
            refine yi_icmple rfl (by refine ⟨?_, ?_⟩ <;> first | exact yr_t _ | exact yr_b _ | (unfold yr; omega)) (fun c7 => ?_) (fun c7 => ?_)
            · rw [if_neg (by rw [hfl]; omega)]
              refine go 1 _ (fun row kz hR => ?_)
              have hpl2 : (pjoin (bput (Z.2.2.2.2.1 b) i b3 n Z.2.2.2.1).2.2).length ≤ 700 := by
                have : (bput (Z.2.2.2.2.1 b) i b3 n Z.2.2.2.1).2.2 = (Z.2.2.2.2.1 b).2.2.set i (some (tdat Z.2.2.2.1)) := rfl
                rw [this, pjoin_set ho, tdat_len hr9]
                omega
              have hzb : (zB Z b (bput (Z.2.2.2.2.1 b) i b3 n Z.2.2.2.1)).2.2.2.2.1 b = bput (Z.2.2.2.2.1 b) i b3 n Z.2.2.2.1 := if_pos rfl
              have hZ : zB (zB Z b (bput (Z.2.2.2.2.1 b) i b3 n Z.2.2.2.1)) b bEmpty = zB Z b bEmpty := by
                unfold zB
                simp only [Prod.mk.injEq, true_and, and_true]
                funext q
                by_cases hq : q = b <;> simp [hq]
              have hj := cm_join (G := G) (d := d + 18) (a := a) (n0 := n + 2) (c0 := (pjoin (bput (Z.2.2.2.2.1 b) i b3 n Z.2.2.2.1).2.2).length) hR hP (fun c hc => by
                simp only [zB]
                by_cases e : c = b
                · rw [if_pos e]; exact hoV
                · rw [if_neg e]; exact hB c hc) hb16 (by simp only [zB]; omega) (by rw [hzb]; exact hpl2)
              rw [hzb, hZ] at hj
              refine ygo 99999 90 rfl rfl (by first | exact trivial | (simp only [true_and, yu, ya, reduceIte, Nat.reduceEqDiff, Int32.reduceToInt, Int.toNat_natCast, Int.reduceToNat]; omega) | decide | (simp; done)) ?_
              try simp only [List.map_cons, List.map_nil, List.length_cons, List.length_nil, ylr_s, ylr_0, Nat.reduceAdd, Nat.reduceSub, List.cons_append, List.nil_append, List.set_cons_zero, List.set_cons_succ, Option.toList_none, Option.toList_some, Int32.reduceToInt, yu, ya, reduceIte, Nat.reduceEqDiff, Int.toNat_natCast, Int.reduceToNat]
              refine yi_ifeq rfl (by first | exact yr_t _ | exact yr_b _ | (unfold yr; omega)) (fun c8 => ?_) (fun c8 => ?_)
              · omega
              refine ygo 99999 90 rfl rfl (by first | exact trivial | (simp only [true_and, yu, ya, reduceIte, Nat.reduceEqDiff, Int32.reduceToInt, Int.toNat_natCast, Int.reduceToNat]; omega) | decide | (simp; done)) ?_
              try simp only [List.map_cons, List.map_nil, List.length_cons, List.length_nil, ylr_s, ylr_0, Nat.reduceAdd, Nat.reduceSub, List.cons_append, List.nil_append, List.set_cons_zero, List.set_cons_succ, Option.toList_none, Option.toList_some, Int32.reduceToInt, yu, ya, reduceIte, Nat.reduceEqDiff, Int.toNat_natCast, Int.reduceToNat]
              refine ycV rfl rfl rfl hj rfl kX9_join iX9_join rfl rfl rfl (Nat.le_of_ble_eq_true rfl) (fun v3 Y3 q3 => ?_)
              obtain ⟨rfl, hR2⟩ := q3
              refine ygo 99999 90 rfl rfl (by first | exact trivial | (simp only [true_and, yu, ya, reduceIte, Nat.reduceEqDiff, Int32.reduceToInt, Int.toNat_natCast, Int.reduceToNat]; omega) | decide | (simp; done)) ?_
              try simp only [List.map_cons, List.map_nil, List.length_cons, List.length_nil, ylr_s, ylr_0, Nat.reduceAdd, Nat.reduceSub, List.cons_append, List.nil_append, List.set_cons_zero, List.set_cons_succ, Option.toList_none, Option.toList_some, Int32.reduceToInt, yu, ya, reduceIte, Nat.reduceEqDiff, Int.toNat_natCast, Int.reduceToNat]
              refine yi_ret_i rfl rfl ⟨?_, hR2⟩
              have e100 : (100 : Int32) + nI Z.2.2.1.length = nI (100 + Z.2.2.1.length) := nI_addN 100 _
              rw [e100, i_n (by omega)]
              simp only [zB]
              congr 2
            · rw [if_pos (Or.inr (by rw [hfl]; omega))]
              refine ygo 99999 90 rfl rfl (by first | exact trivial | (simp only [true_and, yu, ya, reduceIte, Nat.reduceEqDiff, Int32.reduceToInt, Int.toNat_natCast, Int.reduceToNat]; omega) | decide | (simp; done)) ?_
              try simp only [List.map_cons, List.map_nil, List.length_cons, List.length_nil, ylr_s, ylr_0, Nat.reduceAdd, Nat.reduceSub, List.cons_append, List.nil_append, List.set_cons_zero, List.set_cons_succ, Option.toList_none, Option.toList_some, Int32.reduceToInt, yu, ya, reduceIte, Nat.reduceEqDiff, Int.toNat_natCast, Int.reduceToNat]
              refine yi_ret_i rfl rfl (ypost.same h rfl rfl)
        · rw [i0, hpl] at c3
          rw [if_pos (hol.1.mpr (by omega))]
          refine ygo 99999 90 rfl rfl (by first | exact trivial | (simp only [true_and, yu, ya, reduceIte, Nat.reduceEqDiff, Int32.reduceToInt, Int.toNat_natCast, Int.reduceToNat]; omega) | decide | (simp; done)) ?_
          try simp only [List.map_cons, List.map_nil, List.length_cons, List.length_nil, ylr_s, ylr_0, Nat.reduceAdd, Nat.reduceSub, List.cons_append, List.nil_append, List.set_cons_zero, List.set_cons_succ, Option.toList_none, Option.toList_some, Int32.reduceToInt, yu, ya, reduceIte, Nat.reduceEqDiff, Int.toNat_natCast, Int.reduceToNat]
          refine yi_ret_i rfl rfl (ypost.same h rfl rfl)
      refine ygo 99999 90 rfl rfl (by first | exact trivial | (simp only [true_and, yu, ya, reduceIte, Nat.reduceEqDiff, Int32.reduceToInt, Int.toNat_natCast, Int.reduceToNat]; omega) | decide | (simp; done)) ?_
      try simp only [List.map_cons, List.map_nil, List.length_cons, List.length_nil, ylr_s, ylr_0, Nat.reduceAdd, Nat.reduceSub, List.cons_append, List.nil_append, List.set_cons_zero, List.set_cons_succ, Option.toList_none, Option.toList_some, Int32.reduceToInt, yu, ya, reduceIte, Nat.reduceEqDiff, Int.toNat_natCast, Int.reduceToNat]
      rw [g1, hbz, g2, hiz]
      simp only [Int.toNat_natCast]
      refine yi_ifle rfl (yr_t _) (fun c2 => ?_) (fun c2 => ?_)
      · rw [hwz] at c2
        rw [if_neg (fun hc => hc.1 (w0.mpr (by omega)))]
        exact rest (Or.inl (w0.mpr (by omega)))
      · refine ygo 99999 90 rfl rfl (by first | exact trivial | (simp only [true_and, yu, ya, reduceIte, Nat.reduceEqDiff, Int32.reduceToInt, Int.toNat_natCast, Int.reduceToNat]; omega) | decide | (simp; done)) ?_
        try simp only [List.map_cons, List.map_nil, List.length_cons, List.length_nil, ylr_s, ylr_0, Nat.reduceAdd, Nat.reduceSub, List.cons_append, List.nil_append, List.set_cons_zero, List.set_cons_succ, Option.toList_none, Option.toList_some, Int32.reduceToInt, yu, ya, reduceIte, Nat.reduceEqDiff, Int.toNat_natCast, Int.reduceToNat]
        refine yi_icmpeq rfl (by refine ⟨?_, ?_⟩ <;> first | exact yr_t _ | exact yr_b _ | (unfold yr; omega)) (fun c3 => ?_) (fun c3 => ?_)
        · rw [hwz, g3z] at c3
          have := wm.mpr (by omega)
          rw [if_neg (fun hc => hc.2 this)]
          exact rest (Or.inr this)
        · rw [hwz, g3z] at c3
          rw [if_pos ⟨fun hc => by have := w0.mp hc; omega, fun hc => by have := wm.mp hc; omega⟩]
          refine ygo 99999 90 rfl rfl (by first | exact trivial | (simp only [true_and, yu, ya, reduceIte, Nat.reduceEqDiff, Int32.reduceToInt, Int.toNat_natCast, Int.reduceToNat]; omega) | decide | (simp; done)) ?_
          try simp only [List.map_cons, List.map_nil, List.length_cons, List.length_nil, ylr_s, ylr_0, Nat.reduceAdd, Nat.reduceSub, List.cons_append, List.nil_append, List.set_cons_zero, List.set_cons_succ, Option.toList_none, Option.toList_some, Int32.reduceToInt, yu, ya, reduceIte, Nat.reduceEqDiff, Int.toNat_natCast, Int.reduceToNat]
          refine yi_ret_i rfl rfl (ypost.same h rfl rfl)
    · rw [bInt_z, Bool.not_eq_false] at c1
      have c1 := of_decide_eq_true c1
      refine ygo 99999 90 rfl rfl (by first | exact trivial | (simp only [true_and, yu, ya, reduceIte, Nat.reduceEqDiff, Int32.reduceToInt, Int.toNat_natCast, Int.reduceToNat]; omega) | decide | (simp; done)) ?_
      try simp only [List.map_cons, List.map_nil, List.length_cons, List.length_nil, ylr_s, ylr_0, Nat.reduceAdd, Nat.reduceSub, List.cons_append, List.nil_append, List.set_cons_zero, List.set_cons_succ, Option.toList_none, Option.toList_some, Int32.reduceToInt, yu, ya, reduceIte, Nat.reduceEqDiff, Int.toNat_natCast, Int.reduceToNat]
      refine yi_ret_i rfl rfl (ypost.same h (if_pos c1) rfl)
  · refine ygo 99999 90 rfl rfl (by first | exact trivial | (simp only [true_and, yu, ya, reduceIte, Nat.reduceEqDiff, Int32.reduceToInt, Int.toNat_natCast, Int.reduceToNat]; omega) | decide | (simp; done)) ?_
    try simp only [List.map_cons, List.map_nil, List.length_cons, List.length_nil, ylr_s, ylr_0, Nat.reduceAdd, Nat.reduceSub, List.cons_append, List.nil_append, List.set_cons_zero, List.set_cons_succ, Option.toList_none, Option.toList_some, Int32.reduceToInt, yu, ya, reduceIte, Nat.reduceEqDiff, Int.toNat_natCast, Int.reduceToNat]
    refine yi_ret_i rfl rfl (ypost.same h (if_pos (by omega)) rfl)
