theorem byte_back : ∀ n : Nat, n < 256 → (nI n).toInt8.toInt32 &&& 255 = nI n := by decide +kernel
theorem byte_bk {x : Int32} (h : blw x 256) : x.toInt8.toInt32 &&& 255 = x := by
  obtain ⟨n, hn, rfl⟩ := blw_n h
  exact byte_back n hn
/-- what is written of a new pack -/
def wrt (A : Nat → List Int32) (pk : Nat) (row D : List Int32) : Prop := row.length = 11200 ∧ (∀ (j : Nat) (x : Int32), D[j]? = some x → row.getD (700 * pk + j) 0 = x) ∧ ∀ q, q < 700 * pk → row.getD q 0 = (A 20).getD q 0
theorem wrt.push {A : Nat → List Int32} {pk : Nat} {row D : List Int32} {x : Int32} (h : wrt A pk row D) (hl : 700 * pk + D.length < 11200) : wrt A pk (row.set (700 * pk + D.length) x) (D ++ [x]) := by
  obtain ⟨h1, h2, h3⟩ := h
  refine ⟨by rw [List.length_set]; exact h1, fun j y hy => ?_, fun q hq => by rw [gset_ne (by omega)]; exact h3 q hq⟩
  rcases snoc_get hy with ⟨hj, hy'⟩ | ⟨rfl, rfl⟩
  · rw [gset_ne (by omega)]; exact h2 j y hy'
  · rw [gset_eq (by omega)]
set_option maxRecDepth 100000 in
set_option maxHeartbeats 2000000 in
theorem l_join2 {G : xG} {d a b i pk : Nat} {f : Nat → Int} {A : Nat → List Int32} {B : Nat → bB} {bs D : List Int32} {iz : Int} {Q : Option yv → yS → Prop} (h : mB B (f, A)) (hb : b < 16) (hi88 : i < 88) (hiz : iz = i) (ho : (B b).2.2[i]? = some (some bs)) (hbs : ∀ x ∈ bs, blw x 256) (hbl : bs.length ≤ 100) (hpk : f 19 = pk) (hpk16 : pk < 16) (hl : D.length + bs.length ≤ 700)
    (kq : ∀ (row : List Int32) (nz kz : Int), wrt A pk row (D ++ bs) → nz = (D ++ bs).length → yw G d a mX9_join 78 [some (.inr 0), some (.inl b), some (.inl nz), some (.inl iz), some (.inl kz)] [] (f, ya A 20 row) Q) : ∀ (n k : Nat) (row : List Int32) (nz kz : Int), k + n = bs.length → kz = k → nz = D.length + k → wrt A pk row (D ++ bs.take k) →
    yw G d a mX9_join 17 [some (.inr 0), some (.inl b), some (.inl nz), some (.inl iz), some (.inl kz)] [] (f, ya A 20 row) Q := by
  have hM := (h b hb).2.2 i _ ho
  dsimp only [Option.getD_some] at hM
  have hpl : ((A 32).getD (88 * b + i) 0).toInt = bs.length := by rw [hM.1, i_n (by omega)]
  have i0 : (88 * (b : Int) + iz).toNat = 88 * b + i := by omega
  intro n
  induction n with
  | zero =>
    intro k row nz kz hk hkz hnz hw
    have : k = bs.length := by omega
    subst this
    rw [List.take_length] at hw
    refine ygo 99999 90 rfl rfl (by first | exact trivial | (simp only [true_and, yu, ya, reduceIte, Nat.reduceEqDiff, Int32.reduceToInt, Int.toNat_natCast, Int.reduceToNat]; omega) | decide | (simp; done)) ?_
    try simp only [List.map_cons, List.map_nil, List.length_cons, List.length_nil, ylr_s, ylr_0, Nat.reduceAdd, Nat.reduceSub, List.cons_append, List.nil_append, List.set_cons_zero, List.set_cons_succ, Option.toList_none, Option.toList_some, Int32.reduceToInt, yu, ya, reduceIte, Nat.reduceEqDiff, Int.toNat_natCast, Int.reduceToNat]
    refine yi_icmpge rfl (by refine ⟨?_, ?_⟩ <;> first | exact yr_t _ | exact yr_b _ | (unfold yr; omega)) (fun c => ?_) (fun c => ?_)
    · exact kq row _ _ hw (by rw [List.length_append]; omega)
    · rw [i0] at c; omega
  | succ n ih =>
    intro k row nz kz hk hkz hnz hw
    obtain ⟨x, hx⟩ := lt_get (l := bs) (j := k) (by omega)
    have hg := hM.2 k x hx
    have i1 : (100 * (88 * (b : Int) + iz) + kz).toNat = 100 * (88 * b + i) + k := by omega
    have i2 : (700 * f 19 + nz).toNat = 700 * pk + (D ++ bs.take k).length := by simp only [List.length_append, List.length_take]; omega
    have hrl := hw.1
    refine ygo 99999 90 rfl rfl (by first | exact trivial | (simp only [true_and, yu, ya, reduceIte, Nat.reduceEqDiff, Int32.reduceToInt, Int.toNat_natCast, Int.reduceToNat]; omega) | decide | (simp; done)) ?_
    try simp only [List.map_cons, List.map_nil, List.length_cons, List.length_nil, ylr_s, ylr_0, Nat.reduceAdd, Nat.reduceSub, List.cons_append, List.nil_append, List.set_cons_zero, List.set_cons_succ, Option.toList_none, Option.toList_some, Int32.reduceToInt, yu, ya, reduceIte, Nat.reduceEqDiff, Int.toNat_natCast, Int.reduceToNat]
    refine yi_icmpge rfl (by refine ⟨?_, ?_⟩ <;> first | exact yr_t _ | exact yr_b _ | (unfold yr; omega)) (fun c => ?_) (fun c => ?_)
    · rw [i0] at c; omega
    refine ygo 17 90 rfl rfl (by first | exact trivial | (simp only [true_and, yu, ya, reduceIte, Nat.reduceEqDiff, Int32.reduceToInt, Int.toNat_natCast, Int.reduceToNat]; omega) | decide | (simp; done)) ?_
    try simp only [List.map_cons, List.map_nil, List.length_cons, List.length_nil, ylr_s, ylr_0, Nat.reduceAdd, Nat.reduceSub, List.cons_append, List.nil_append, List.set_cons_zero, List.set_cons_succ, Option.toList_none, Option.toList_some, Int32.reduceToInt, yu, ya, reduceIte, Nat.reduceEqDiff, Int.toNat_natCast, Int.reduceToNat]
    rw [i1, hg, i2, ya_ya]
    have hbv : Int32.ofInt (Int32.ofInt x.toInt8.toInt32.toInt &&& Int32.ofInt 255).toInt = x := by
      rw [iof, iof]
      exact byte_bk (hbs x (List.mem_of_getElem? hx))
    rw [hbv]
    refine ih (k + 1) _ _ _ (by omega) (by omega) (by omega) ?_
    rw [List.take_succ, hx]
    have := hw.push (x := x) (by simp only [List.length_append, List.length_take]; omega)
    rw [List.append_assoc] at this
    exact this
set_option maxRecDepth 100000 in
set_option maxHeartbeats 2000000 in
theorem l_join1 {G : xG} {d a b w pk : Nat} {f : Nat → Int} {A : Nat → List Int32} {B : Nat → bB} {Q : Option yv → yS → Prop} (h : mB B (f, A)) (hV : okBk (B b)) (hb : b < 16) (hw : (B b).1.1 = nI w) (hw88 : w ≤ 88) (hpk : f 19 = pk) (hpk16 : pk < 16) (hl : (pjoin (B b).2.2).length ≤ 700)
    (kq : ∀ (row : List Int32) (nz iz : Int) (k : Option yv), wrt A pk row (pjoin ((B b).2.2.take w)) → nz = (pjoin ((B b).2.2.take w)).length → yw G d a mX9_join 84 [some (.inr 0), some (.inl b), some (.inl nz), some (.inl iz), k] [] (f, ya A 20 row) Q) : ∀ (n i : Nat) (row : List Int32) (nz iz : Int) (k : Option yv), i + n = w → iz = i → nz = (pjoin ((B b).2.2.take i)).length → wrt A pk row (pjoin ((B b).2.2.take i)) →
    yw G d a mX9_join 4 [some (.inr 0), some (.inl b), some (.inl nz), some (.inl iz), k] [] (f, ya A 20 row) Q := by
  have hM := h b hb
  dsimp only at hM
  have hwz : ((A 33).getD b 0).toInt = w := by rw [hM.1, hw, i_n (by omega)]
  intro n
  induction n with
  | zero =>
    intro i row nz iz k hi hiz hnz hwr
    have : i = w := by omega
    subst this
    refine ygo 99999 90 rfl rfl (by first | exact trivial | (simp only [true_and, yu, ya, reduceIte, Nat.reduceEqDiff, Int32.reduceToInt, Int.toNat_natCast, Int.reduceToNat]; omega) | decide | (simp; done)) ?_
    try simp only [List.map_cons, List.map_nil, List.length_cons, List.length_nil, ylr_s, ylr_0, Nat.reduceAdd, Nat.reduceSub, List.cons_append, List.nil_append, List.set_cons_zero, List.set_cons_succ, Option.toList_none, Option.toList_some, Int32.reduceToInt, yu, ya, reduceIte, Nat.reduceEqDiff, Int.toNat_natCast, Int.reduceToNat]
    refine yi_icmpge rfl (by refine ⟨?_, ?_⟩ <;> first | exact yr_t _ | exact yr_b _ | (unfold yr; omega)) (fun c => ?_) (fun c => ?_)
    · exact kq row _ _ _ hwr hnz
    · omega
  | succ n ih =>
    intro i row nz iz k hi hiz hnz hwr
    obtain ⟨o, ho⟩ := lt_get (l := (B b).2.2) (j := i) (by rw [hV.1]; omega)
    have hsn := pjoin_snoc (B b).2.2 ho
    have hle := pjoin_le (B b).2.2 (i + 1)
    have hlo := (hV.len ho).2
    have hrl := hwr.1
    refine ygo 99999 90 rfl rfl (by first | exact trivial | (simp only [true_and, yu, ya, reduceIte, Nat.reduceEqDiff, Int32.reduceToInt, Int.toNat_natCast, Int.reduceToNat]; omega) | decide | (simp; done)) ?_
    try simp only [List.map_cons, List.map_nil, List.length_cons, List.length_nil, ylr_s, ylr_0, Nat.reduceAdd, Nat.reduceSub, List.cons_append, List.nil_append, List.set_cons_zero, List.set_cons_succ, Option.toList_none, Option.toList_some, Int32.reduceToInt, yu, ya, reduceIte, Nat.reduceEqDiff, Int.toNat_natCast, Int.reduceToNat]
    refine yi_icmpge rfl (by refine ⟨?_, ?_⟩ <;> first | exact yr_t _ | exact yr_b _ | (unfold yr; omega)) (fun c => ?_) (fun c => ?_)
    · omega
    cases o with
    | none =>
      have hpl : ((A 32).getD (88 * b + i) 0).toInt = 0 := by rw [(hM.2.2 i none ho).1]; rfl
      have i0 : (88 * (b : Int) + iz).toNat = 88 * b + i := by omega
      refine ygo 17 90 rfl rfl (by first | exact trivial | (simp only [true_and, yu, ya, reduceIte, Nat.reduceEqDiff, Int32.reduceToInt, Int.toNat_natCast, Int.reduceToNat]; omega) | decide | (simp; done)) ?_
      try simp only [List.map_cons, List.map_nil, List.length_cons, List.length_nil, ylr_s, ylr_0, Nat.reduceAdd, Nat.reduceSub, List.cons_append, List.nil_append, List.set_cons_zero, List.set_cons_succ, Option.toList_none, Option.toList_some, Int32.reduceToInt, yu, ya, reduceIte, Nat.reduceEqDiff, Int.toNat_natCast, Int.reduceToNat]
      refine ygo 99999 90 rfl rfl (by first | exact trivial | (simp only [true_and, yu, ya, reduceIte, Nat.reduceEqDiff, Int32.reduceToInt, Int.toNat_natCast, Int.reduceToNat]; omega) | decide | (simp; done)) ?_
      try simp only [List.map_cons, List.map_nil, List.length_cons, List.length_nil, ylr_s, ylr_0, Nat.reduceAdd, Nat.reduceSub, List.cons_append, List.nil_append, List.set_cons_zero, List.set_cons_succ, Option.toList_none, Option.toList_some, Int32.reduceToInt, yu, ya, reduceIte, Nat.reduceEqDiff, Int.toNat_natCast, Int.reduceToNat]
      refine yi_icmpge rfl (by refine ⟨?_, ?_⟩ <;> first | exact yr_t _ | exact yr_b _ | (unfold yr; omega)) (fun c2 => ?_) (fun c2 => ?_)
      · refine ygo 4 90 rfl rfl (by first | exact trivial | (simp only [true_and, yu, ya, reduceIte, Nat.reduceEqDiff, Int32.reduceToInt, Int.toNat_natCast, Int.reduceToNat]; omega) | decide | (simp; done)) ?_
        try simp only [List.map_cons, List.map_nil, List.length_cons, List.length_nil, ylr_s, ylr_0, Nat.reduceAdd, Nat.reduceSub, List.cons_append, List.nil_append, List.set_cons_zero, List.set_cons_succ, Option.toList_none, Option.toList_some, Int32.reduceToInt, yu, ya, reduceIte, Nat.reduceEqDiff, Int.toNat_natCast, Int.reduceToNat]
        rw [show (none : Option (List Int32)).getD [] = [] from rfl, List.append_nil] at hsn
        exact ih (i + 1) row _ _ _ (by omega) (by omega) (by rw [hsn]; exact hnz) (by rw [hsn]; exact hwr)
      · rw [i0] at c2; omega
    | some bs =>
      have hbs := hV.2.1 i bs ho
      have hlen : (pjoin ((B b).2.2.take i)).length + bs.length ≤ 700 := by
        rw [hsn, List.length_append] at hle
        have : ((some bs : Option (List Int32)).getD []).length = bs.length := rfl
        omega
      refine ygo 17 90 rfl rfl (by first | exact trivial | (simp only [true_and, yu, ya, reduceIte, Nat.reduceEqDiff, Int32.reduceToInt, Int.toNat_natCast, Int.reduceToNat]; omega) | decide | (simp; done)) ?_
      try simp only [List.map_cons, List.map_nil, List.length_cons, List.length_nil, ylr_s, ylr_0, Nat.reduceAdd, Nat.reduceSub, List.cons_append, List.nil_append, List.set_cons_zero, List.set_cons_succ, Option.toList_none, Option.toList_some, Int32.reduceToInt, yu, ya, reduceIte, Nat.reduceEqDiff, Int.toNat_natCast, Int.reduceToNat]
      refine l_join2 (D := pjoin ((B b).2.2.take i)) h hb (by omega) hiz ho hbs.2.2 hbs.2.1 hpk hpk16 hlen (fun row' nz' kz' hw' hn' => ?_) bs.length 0 row _ 0 (by omega) rfl (by omega) (by rw [List.take_zero, List.append_nil]; exact hwr)
      refine ygo 4 90 rfl rfl (by first | exact trivial | (simp only [true_and, yu, ya, reduceIte, Nat.reduceEqDiff, Int32.reduceToInt, Int.toNat_natCast, Int.reduceToNat]; omega) | decide | (simp; done)) ?_
      try simp only [List.map_cons, List.map_nil, List.length_cons, List.length_nil, ylr_s, ylr_0, Nat.reduceAdd, Nat.reduceSub, List.cons_append, List.nil_append, List.set_cons_zero, List.set_cons_succ, Option.toList_none, Option.toList_some, Int32.reduceToInt, yu, ya, reduceIte, Nat.reduceEqDiff, Int.toNat_natCast, Int.reduceToNat]
      rw [show pjoin ((B b).2.2.take i) ++ bs = pjoin ((B b).2.2.take (i + 1)) from hsn.symm] at hw' hn'
      exact ih (i + 1) row' _ _ _ (by omega) (by omega) hn' hw'
theorem mP_wrt {P : List pP} {f : Nat → Int} {A : Nat → List Int32} {row bs : List Int32} {n c : Nat} (h : mP P (f, A)) (hl : yok A) (hk : okP P) (h16 : P.length < 16) (hw : wrt A P.length row bs) : mP (P ++ [(n, c, bs)]) (yu f 19 (f 19 + 1), ya (ya A 20 row) 21 ((A 21).set P.length (nI bs.length))) := by
  have l21 : (A 21).length = 16 := hl 21 _ rfl
  have h19 : f 19 = P.length := h.1
  refine ⟨by simp [yu, h19], fun p y hy => ?_⟩
  simp only [ya, reduceIte, Nat.reduceEqDiff]
  rcases snoc_get hy with ⟨hp, hy'⟩ | ⟨rfl, rfl⟩
  · have hyl := (hk.2 y (List.mem_of_getElem? hy')).2.1
    rw [gset_ne (by omega)]
    refine ⟨(h.2 p y hy').1, fun i b hb => ?_⟩
    have hi := (List.getElem?_eq_some_iff.mp hb).1
    rw [hw.2.2 _ (by omega)]
    exact (h.2 p y hy').2 i b hb
  · rw [gset_eq (by omega)]
    exact ⟨rfl, hw.2.1⟩
set_option maxRecDepth 100000 in
set_option maxHeartbeats 2000000 in
theorem cm_join {G : xG} {d a b n0 c0 : Nat} {Z : pZ} {f : Nat → Int} {A : Nat → List Int32} (h : mR Z (f, A)) (hP : okP Z.2.2.1) (hB : ∀ c, c < 16 → okBk (Z.2.2.2.2.1 c)) (hb : b < 16) (h16 : Z.2.2.1.length < 16) (hl : (pjoin (Z.2.2.2.2.1 b).2.2).length ≤ 700) : ym G (d + 1) a mX9_join [.inr 0, .inl b] (f, A) (fun v Y' => v = some (.inl (100 + Z.2.2.1.length)) ∧ mR (zP (zB Z b bEmpty) (Z.2.2.1 ++ [(n0, c0, pjoin (Z.2.2.2.2.1 b).2.2)])) Y') := by
  refine ym.len (fun hlen => ?_)
  have l20 : (A 20).length = 11200 := hlen 20 _ rfl
  have h19 : f 19 = Z.2.2.1.length := h.2.1.1
  have hV := hB b hb
  obtain ⟨w, hw88, hw, hnone⟩ := hV.2.2.2.2
  have hpj := pj_none (P := (Z.2.2.2.2.1 b).2.2) (w := w) (fun i h1 h2 => hnone i h1 (by rw [hV.1] at h2; exact h2))
  refine ym_at 5 rfl (by decide) (Nat.le_of_ble_eq_true rfl) tX9_join_ok ?_
  try simp only [List.map_cons, List.map_nil, List.length_cons, List.length_nil, ylr_s, ylr_0, Nat.reduceAdd, Nat.reduceSub, List.cons_append, List.nil_append, List.set_cons_zero, List.set_cons_succ, Option.toList_none, Option.toList_some, Int32.reduceToInt, yu, ya, reduceIte, Nat.reduceEqDiff, Int.toNat_natCast, Int.reduceToNat]
  refine ygo 4 90 rfl rfl (by first | exact trivial | (simp only [true_and, yu, ya, reduceIte, Nat.reduceEqDiff, Int32.reduceToInt, Int.toNat_natCast, Int.reduceToNat]; omega) | decide | (simp; done)) ?_
  try simp only [List.map_cons, List.map_nil, List.length_cons, List.length_nil, ylr_s, ylr_0, Nat.reduceAdd, Nat.reduceSub, List.cons_append, List.nil_append, List.set_cons_zero, List.set_cons_succ, Option.toList_none, Option.toList_some, Int32.reduceToInt, yu, ya, reduceIte, Nat.reduceEqDiff, Int.toNat_natCast, Int.reduceToNat]
  have hA : A = ya A 20 (A 20) := by
    funext q
    unfold ya
    by_cases e : q = 20
    · subst e; rfl
    · rw [if_neg e]
  rw [hA]
  refine l_join1 h.2.2.2.1 hV hb hw hw88 h19 h16 hl (fun row nz iz k hwr hnz => ?_) w 0 (A 20) 0 0 none (by omega) rfl (by simp [pjoin]) ⟨l20, fun j x hx => by simp [pjoin] at hx, fun q hq => rfl⟩
  rw [hpj] at hwr hnz
  have hmP := mP_wrt (n := n0) (c := c0) h.2.1 hlen hP h16 hwr
  have hidx : (f 19).toNat = Z.2.2.1.length := by omega
  have hof : Int32.ofInt nz = nI (pjoin (Z.2.2.2.2.1 b).2.2).length := by rw [hnz]; exact iofn _
  refine ygo 99999 90 rfl rfl (by first | exact trivial | (simp only [true_and, yu, ya, reduceIte, Nat.reduceEqDiff, Int32.reduceToInt, Int.toNat_natCast, Int.reduceToNat]; omega) | decide | (simp; done)) ?_
  try simp only [List.map_cons, List.map_nil, List.length_cons, List.length_nil, ylr_s, ylr_0, Nat.reduceAdd, Nat.reduceSub, List.cons_append, List.nil_append, List.set_cons_zero, List.set_cons_succ, Option.toList_none, Option.toList_some, Int32.reduceToInt, yu, ya, reduceIte, Nat.reduceEqDiff, Int.toNat_natCast, Int.reduceToNat]
  rw [hidx, hof]
  refine ycV rfl rfl rfl (cm_emptyBook (Z := zP Z (Z.2.2.1 ++ [(n0, c0, pjoin (Z.2.2.2.2.1 b).2.2)])) ⟨h.1, hmP, h.2.2.1, h.2.2.2.1, h.2.2.2.2⟩ (fun c hc => (hB c hc).1) hb) rfl kX9_emptyBook iX9_emptyBook rfl rfl rfl (Nat.le_of_ble_eq_true rfl) (fun v2 Y2 q2 => ?_)
  obtain ⟨rfl, hf, hR⟩ := q2
  obtain ⟨f2, A2⟩ := Y2
  dsimp only at hf
  subst hf
  refine ygo 99999 90 rfl rfl (by first | exact trivial | (simp only [true_and, yu, ya, reduceIte, Nat.reduceEqDiff, Int32.reduceToInt, Int.toNat_natCast, Int.reduceToNat]; omega) | decide | (simp; done)) ?_
  try simp only [List.map_cons, List.map_nil, List.length_cons, List.length_nil, ylr_s, ylr_0, Nat.reduceAdd, Nat.reduceSub, List.cons_append, List.nil_append, List.set_cons_zero, List.set_cons_succ, Option.toList_none, Option.toList_some, Int32.reduceToInt, yu, ya, reduceIte, Nat.reduceEqDiff, Int.toNat_natCast, Int.reduceToNat]
  refine yi_ret_i rfl rfl ⟨?_, hR⟩
  simp only [yu, reduceIte, h19]
  congr 2
  omega
