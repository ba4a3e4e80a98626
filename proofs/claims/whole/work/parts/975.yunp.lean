def fk1 (n : Nat) (A A' : Nat → List Int32) : Prop := ∀ k, k ≠ n → A' k = A k
theorem fk1.rf {n : Nat} {A : Nat → List Int32} : fk1 n A A := fun _ _ => rfl
theorem fk1.s {n : Nat} {A A' : Nat → List Int32} {x : List Int32} (h : fk1 n A A') : fk1 n A (ya A' n x) := fun k hk => by
  rw [← h k hk]
  exact if_neg hk
/-- the pack that is read, by its bytes -/
def hbs (pk : Nat) (bs : List Int32) (f : Nat → Int) (A : Nat → List Int32) : Prop := f 23 = pk ∧ pk < 16 ∧ bs.length ≤ 700 ∧ (∀ b ∈ bs, blw b 256) ∧ ∀ (i : Nat) (b : Int32), bs[i]? = some b → (A 20).getD (700 * pk + i) 0 = b
theorem hbs.of {Z : pZ} {pk : Nat} {bs : List Int32} {f : Nat → Int} {A : Nat → List Int32} (hR : mR Z (f, A)) (h23 : f 23 = pk) (hp : pkd Z pk bs) : hbs pk bs f A := by
  obtain ⟨x, hx, hxb, hp16, hl, hbb⟩ := hp
  exact ⟨h23, hp16, hl, hbb, fun i b hb => (hR.2.1.2 pk x hx).2 i b (by rw [hxb]; exact hb)⟩
theorem hbs.fk {pk : Nat} {bs : List Int32} {f f' : Nat → Int} {A A' : Nat → List Int32} (h : hbs pk bs f A) (e1 : f' 23 = f 23) (e2 : A' 20 = A 20) : hbs pk bs f' A' := by
  unfold hbs at h ⊢
  rw [e1, e2]
  exact h
set_option maxRecDepth 100000 in
set_option maxHeartbeats 2000000 in
theorem cm_hereB {G : xG} {d a pk i : Nat} {iz : Int} {b : Int32} {bs : List Int32} {f : Nat → Int} {A : Nat → List Int32} (hB : hbs pk bs f A) (hiz : iz = i) (hb : bs[i]? = some b) : ym G d a mX9_here [.inr 0, .inl iz] (f, A) (fun w Y' => w = some (.inl b.toInt) ∧ Y' = (f, A)) := by
  obtain ⟨h23, hp16, hl, hbb, hg0⟩ := hB
  have hi := (List.getElem?_eq_some_iff.mp hb).1
  have hg := hg0 i b hb
  have i1 : (700 * f 23 + iz).toNat = 700 * pk + i := by omega
  refine ym_at 2 rfl (by decide) (Nat.le_of_ble_eq_true rfl) tX9_here_ok ?_
  try simp only [List.map_cons, List.map_nil, List.length_cons, List.length_nil, ylr_s, ylr_0, Nat.reduceAdd, Nat.reduceSub, List.cons_append, List.nil_append, List.set_cons_zero, List.set_cons_succ, Option.toList_none, Option.toList_some, Int32.reduceToInt, yu, ya, reduceIte, Nat.reduceEqDiff, Int.toNat_natCast, Int.reduceToNat]
  refine ygo 99999 90 rfl rfl (by first | exact trivial | (simp only [true_and, eq_self, or_true, true_or, and_true, yu, ya, reduceIte, Nat.reduceEqDiff, Int32.reduceToInt, Int.toNat_natCast, Int.reduceToNat]; omega) | decide | (simp; done) | (simp; omega)) ?_
  try simp only [List.map_cons, List.map_nil, List.length_cons, List.length_nil, ylr_s, ylr_0, Nat.reduceAdd, Nat.reduceSub, List.cons_append, List.nil_append, List.set_cons_zero, List.set_cons_succ, Option.toList_none, Option.toList_some, Int32.reduceToInt, yu, ya, reduceIte, Nat.reduceEqDiff, Int.toNat_natCast, Int.reduceToNat]
  refine yi_ret_i rfl rfl ⟨by rw [i1, hg], rfl⟩
/-- the kept bytes of one page, so far as o -/
def kpt (A A' : Nat → List Int32) (t lr : Nat) (o : List Int32) : Prop := fk1 47 A A' ∧ (A' 47).length = 11520 ∧ (∀ i, (i < t ∨ t + lr ≤ i) → (A' 47).getD i 0 = (A 47).getD i 0) ∧ ∀ (i : Nat) (x : Int32), o[i]? = some x → (A' 47).getD (t + i) 0 = x
theorem kpt.put {A A' : Nat → List Int32} {t lr : Nat} {o : List Int32} {b : Int32} (h : kpt A A' t lr o) (hl : o.length < lr) (ht : t + lr ≤ 11520) : kpt A (ya A' 47 ((A' 47).set (t + o.length) b)) t lr (o ++ [b]) := by
  obtain ⟨h1, h2, h3, h4⟩ := h
  refine ⟨h1.s, by show ((A' 47).set _ _).length = _; rw [List.length_set]; exact h2, fun i hi => ?_, fun i x hx => ?_⟩
  · show ((A' 47).set _ _).getD i 0 = _
    rw [gset_ne (by omega)]
    exact h3 i hi
  · show ((A' 47).set _ _).getD (t + i) 0 = _
    rcases snoc_get hx with ⟨hi, hx'⟩ | ⟨rfl, rfl⟩
    · rw [gset_ne (by omega)]
      exact h4 i x hx'
    · rw [gset_eq (by omega)]
theorem kpt.b {A A' : Nat → List Int32} {t lr pk : Nat} {o bs : List Int32} {f : Nat → Int} (h : kpt A A' t lr o) (hB : hbs pk bs f A) : hbs pk bs f A' := hB.fk rfl (h.1 20 (by omega))
set_option maxRecDepth 100000 in
set_option maxHeartbeats 2000000 in
theorem l_unp1 {G : xG} {d a pk t lr p N : Nat} {b : Int32} {bs : List Int32} {x1 x2 x4 : Int} {x5 : Option yv} {tz pz : Int} {f : Nat → Int} {A : Nat → List Int32} {F : List Int32} {Q : Option yv → yS → Prop} (hB : hbs pk bs f A) (hp : pz = p) (hb0 : bs[p]? = some (nI N)) (hb1 : bs[p + 1]? = some b) (htz : tz = t) (ht : t + lr ≤ 11520) (hlr : lr ≤ 120) (hQ : ∀ (A' : Nat → List Int32) (nz pz' : Int) (x9 : Option yv), kpt A A' t lr F → nz = F.length → pz' = ((p + 2 : Nat) : Int) → yw G (d + 1) a mX9_unpack 18 [some (.inr 0), some (.inl x1), some (.inl x2), some (.inl 1), some (.inl x4), x5, some (.inl tz), some (.inl nz), some (.inl pz'), x9] [] (f, A') Q) : ∀ (q : Nat) (o : List Int32) (qz nz : Int) (A' : Nat → List Int32), qz = q → nz = o.length → o ++ List.replicate q b = F → o.length + q ≤ lr → kpt A A' t lr o →
    yw G (d + 1) a mX9_unpack 67 [some (.inr 0), some (.inl x1), some (.inl x2), some (.inl 1), some (.inl x4), x5, some (.inl tz), some (.inl nz), some (.inl pz), some (.inl qz)] [] (f, A') Q := by
  have hpl := (List.getElem?_eq_some_iff.mp hb1).1
  have h700 := hB.2.2.1
  intro q
  induction q with
  | zero =>
    intro o qz nz A' hq hn hF hl hkp
    rw [List.replicate_zero, List.append_nil] at hF
    subst hF
    refine ygo 99999 90 rfl rfl (by first | exact trivial | (simp only [true_and, eq_self, or_true, true_or, and_true, yu, ya, reduceIte, Nat.reduceEqDiff, Int32.reduceToInt, Int.toNat_natCast, Int.reduceToNat]; omega) | decide | (simp; done) | (simp; omega)) ?_
    try simp only [List.map_cons, List.map_nil, List.length_cons, List.length_nil, ylr_s, ylr_0, Nat.reduceAdd, Nat.reduceSub, List.cons_append, List.nil_append, List.set_cons_zero, List.set_cons_succ, Option.toList_none, Option.toList_some, Int32.reduceToInt, yu, ya, reduceIte, Nat.reduceEqDiff, Int.toNat_natCast, Int.reduceToNat]
    refine yi_ifle rfl (by first | exact yr_t _ | exact yr_b _ | (unfold yr; omega)) (fun c => ?_) (fun c => ?_)
    · refine ygo 18 90 rfl rfl (by first | exact trivial | (simp only [true_and, eq_self, or_true, true_or, and_true, yu, ya, reduceIte, Nat.reduceEqDiff, Int32.reduceToInt, Int.toNat_natCast, Int.reduceToNat]; omega) | decide | (simp; done) | (simp; omega)) ?_
      try simp only [List.map_cons, List.map_nil, List.length_cons, List.length_nil, ylr_s, ylr_0, Nat.reduceAdd, Nat.reduceSub, List.cons_append, List.nil_append, List.set_cons_zero, List.set_cons_succ, Option.toList_none, Option.toList_some, Int32.reduceToInt, yu, ya, reduceIte, Nat.reduceEqDiff, Int.toNat_natCast, Int.reduceToNat]
      exact hQ A' _ _ _ hkp hn (by omega)
    · omega
  | succ q ih =>
    intro o qz nz A' hq hn hF hl hkp
    refine ygo 99999 90 rfl rfl (by first | exact trivial | (simp only [true_and, eq_self, or_true, true_or, and_true, yu, ya, reduceIte, Nat.reduceEqDiff, Int32.reduceToInt, Int.toNat_natCast, Int.reduceToNat]; omega) | decide | (simp; done) | (simp; omega)) ?_
    try simp only [List.map_cons, List.map_nil, List.length_cons, List.length_nil, ylr_s, ylr_0, Nat.reduceAdd, Nat.reduceSub, List.cons_append, List.nil_append, List.set_cons_zero, List.set_cons_succ, Option.toList_none, Option.toList_some, Int32.reduceToInt, yu, ya, reduceIte, Nat.reduceEqDiff, Int.toNat_natCast, Int.reduceToNat]
    refine yi_ifle rfl (by first | exact yr_t _ | exact yr_b _ | (unfold yr; omega)) (fun c => ?_) (fun c => ?_)
    · omega
    · refine ygo 99999 90 rfl rfl (by first | exact trivial | (simp only [true_and, eq_self, or_true, true_or, and_true, yu, ya, reduceIte, Nat.reduceEqDiff, Int32.reduceToInt, Int.toNat_natCast, Int.reduceToNat]; omega) | decide | (simp; done) | (simp; omega)) ?_
      try simp only [List.map_cons, List.map_nil, List.length_cons, List.length_nil, ylr_s, ylr_0, Nat.reduceAdd, Nat.reduceSub, List.cons_append, List.nil_append, List.set_cons_zero, List.set_cons_succ, Option.toList_none, Option.toList_some, Int32.reduceToInt, yu, ya, reduceIte, Nat.reduceEqDiff, Int.toNat_natCast, Int.reduceToNat]
      refine ycV rfl rfl rfl (cm_hereB (i := p + 1) (hkp.b hB) (by omega) hb1) rfl kX9_here iX9_here rfl rfl rfl (Nat.le_of_ble_eq_true rfl) (fun v1 Y1 q1 => ?_)
      obtain ⟨rfl, rfl⟩ := q1
      refine ygo 67 90 rfl rfl (by first | exact trivial | (simp only [true_and, eq_self, or_true, true_or, and_true, yu, ya, reduceIte, Nat.reduceEqDiff, Int32.reduceToInt, Int.toNat_natCast, Int.reduceToNat]; omega) | decide | (simp; done) | (simp; omega)) ?_
      try simp only [List.map_cons, List.map_nil, List.length_cons, List.length_nil, ylr_s, ylr_0, Nat.reduceAdd, Nat.reduceSub, List.cons_append, List.nil_append, List.set_cons_zero, List.set_cons_succ, Option.toList_none, Option.toList_some, Int32.reduceToInt, yu, ya, reduceIte, Nat.reduceEqDiff, Int.toNat_natCast, Int.reduceToNat]
      have e1 : (tz + nz).toNat = t + o.length := by omega
      rw [e1, iof]
      exact ih (o ++ [b]) _ _ _ (by omega) (by simp; omega) (by rw [← hF, List.append_assoc]; rfl) (by simp; omega) (hkp.put (by omega) ht)
set_option maxRecDepth 100000 in
set_option maxHeartbeats 2000000 in
theorem l_unp2 {G : xG} {d a pk t lr p N : Nat} {bs w o0 : List Int32} {x1 x2 x4 : Int} {x5 : Option yv} {tz pz : Int} {f : Nat → Int} {A : Nat → List Int32} {Q : Option yv → yS → Prop} (hB : hbs pk bs f A) (hp : pz = p) (hb0 : bs[p]? = some (nI N)) (hN : N < 128) (hwl : w.length = N + 1) (hw : ∀ (i : Nat) (x : Int32), w[i]? = some x → bs[p + 1 + i]? = some x) (htz : tz = t) (ht : t + lr ≤ 11520) (hlr : lr ≤ 120) (ho : o0.length + w.length ≤ lr) (hQ : ∀ (A' : Nat → List Int32) (nz pz' : Int) (x9 : Option yv), kpt A A' t lr (o0 ++ w) → nz = (o0 ++ w).length → pz' = ((p + N + 2 : Nat) : Int) → yw G (d + 1) a mX9_unpack 18 [some (.inr 0), some (.inl x1), some (.inl x2), some (.inl 2), some (.inl x4), x5, some (.inl tz), some (.inl nz), some (.inl pz'), x9] [] (f, A') Q) : ∀ (n i : Nat) (iz nz : Int) (A' : Nat → List Int32), i + n = N + 1 → iz = i → nz = ((o0.length + i : Nat) : Int) → kpt A A' t lr (o0 ++ w.take i) →
    yw G (d + 1) a mX9_unpack 120 [some (.inr 0), some (.inl x1), some (.inl x2), some (.inl 2), some (.inl x4), x5, some (.inl tz), some (.inl nz), some (.inl pz), some (.inl iz)] [] (f, A') Q := by
  have hpl := (List.getElem?_eq_some_iff.mp hb0).1
  have h700 := hB.2.2.1
  have hNz : (nI N).toInt = N := i_n (by omega)
  intro n
  induction n with
  | zero =>
    intro i iz nz A' hn hi hnz hkp
    rw [show i = w.length by omega, List.take_length] at hkp
    refine ygo 99999 90 rfl rfl (by first | exact trivial | (simp only [true_and, eq_self, or_true, true_or, and_true, yu, ya, reduceIte, Nat.reduceEqDiff, Int32.reduceToInt, Int.toNat_natCast, Int.reduceToNat]; omega) | decide | (simp; done) | (simp; omega)) ?_
    try simp only [List.map_cons, List.map_nil, List.length_cons, List.length_nil, ylr_s, ylr_0, Nat.reduceAdd, Nat.reduceSub, List.cons_append, List.nil_append, List.set_cons_zero, List.set_cons_succ, Option.toList_none, Option.toList_some, Int32.reduceToInt, yu, ya, reduceIte, Nat.reduceEqDiff, Int.toNat_natCast, Int.reduceToNat]
    refine ycV rfl rfl rfl (cm_hereB (i := p) (hkp.b hB) (by omega) hb0) rfl kX9_here iX9_here rfl rfl rfl (Nat.le_of_ble_eq_true rfl) (fun v1 Y1 q1 => ?_)
    obtain ⟨rfl, rfl⟩ := q1
    refine ygo 99999 90 rfl rfl (by first | exact trivial | (simp only [true_and, eq_self, or_true, true_or, and_true, yu, ya, reduceIte, Nat.reduceEqDiff, Int32.reduceToInt, Int.toNat_natCast, Int.reduceToNat]; omega) | decide | (simp; done) | (simp; omega)) ?_
    try simp only [List.map_cons, List.map_nil, List.length_cons, List.length_nil, ylr_s, ylr_0, Nat.reduceAdd, Nat.reduceSub, List.cons_append, List.nil_append, List.set_cons_zero, List.set_cons_succ, Option.toList_none, Option.toList_some, Int32.reduceToInt, yu, ya, reduceIte, Nat.reduceEqDiff, Int.toNat_natCast, Int.reduceToNat]
    refine yi_icmpgt rfl (by refine ⟨?_, ?_⟩ <;> first | exact yr_t _ | exact yr_b _ | (unfold yr; omega)) (fun c => ?_) (fun c => ?_)
    · refine ygo 99999 90 rfl rfl (by first | exact trivial | (simp only [true_and, eq_self, or_true, true_or, and_true, yu, ya, reduceIte, Nat.reduceEqDiff, Int32.reduceToInt, Int.toNat_natCast, Int.reduceToNat]; omega) | decide | (simp; done) | (simp; omega)) ?_
      try simp only [List.map_cons, List.map_nil, List.length_cons, List.length_nil, ylr_s, ylr_0, Nat.reduceAdd, Nat.reduceSub, List.cons_append, List.nil_append, List.set_cons_zero, List.set_cons_succ, Option.toList_none, Option.toList_some, Int32.reduceToInt, yu, ya, reduceIte, Nat.reduceEqDiff, Int.toNat_natCast, Int.reduceToNat]
      refine ycV rfl rfl rfl (cm_hereB (i := p) (hkp.b hB) (by omega) hb0) rfl kX9_here iX9_here rfl rfl rfl (Nat.le_of_ble_eq_true rfl) (fun v2 Y2 q2 => ?_)
      obtain ⟨rfl, rfl⟩ := q2
      refine ygo 18 90 rfl rfl (by first | exact trivial | (simp only [true_and, eq_self, or_true, true_or, and_true, yu, ya, reduceIte, Nat.reduceEqDiff, Int32.reduceToInt, Int.toNat_natCast, Int.reduceToNat]; omega) | decide | (simp; done) | (simp; omega)) ?_
      try simp only [List.map_cons, List.map_nil, List.length_cons, List.length_nil, ylr_s, ylr_0, Nat.reduceAdd, Nat.reduceSub, List.cons_append, List.nil_append, List.set_cons_zero, List.set_cons_succ, Option.toList_none, Option.toList_some, Int32.reduceToInt, yu, ya, reduceIte, Nat.reduceEqDiff, Int.toNat_natCast, Int.reduceToNat]
      exact hQ A' _ _ _ hkp (by simp; omega) (by omega)
    · omega
  | succ n ih =>
    intro i iz nz A' hn hi hnz hkp
    obtain ⟨x, hx⟩ := lt_get (l := w) (j := i) (by omega)
    have htl : (w.take i).length = i := by rw [List.length_take]; omega
    refine ygo 99999 90 rfl rfl (by first | exact trivial | (simp only [true_and, eq_self, or_true, true_or, and_true, yu, ya, reduceIte, Nat.reduceEqDiff, Int32.reduceToInt, Int.toNat_natCast, Int.reduceToNat]; omega) | decide | (simp; done) | (simp; omega)) ?_
    try simp only [List.map_cons, List.map_nil, List.length_cons, List.length_nil, ylr_s, ylr_0, Nat.reduceAdd, Nat.reduceSub, List.cons_append, List.nil_append, List.set_cons_zero, List.set_cons_succ, Option.toList_none, Option.toList_some, Int32.reduceToInt, yu, ya, reduceIte, Nat.reduceEqDiff, Int.toNat_natCast, Int.reduceToNat]
    refine ycV rfl rfl rfl (cm_hereB (i := p) (hkp.b hB) (by omega) hb0) rfl kX9_here iX9_here rfl rfl rfl (Nat.le_of_ble_eq_true rfl) (fun v1 Y1 q1 => ?_)
    obtain ⟨rfl, rfl⟩ := q1
    refine ygo 99999 90 rfl rfl (by first | exact trivial | (simp only [true_and, eq_self, or_true, true_or, and_true, yu, ya, reduceIte, Nat.reduceEqDiff, Int32.reduceToInt, Int.toNat_natCast, Int.reduceToNat]; omega) | decide | (simp; done) | (simp; omega)) ?_
    try simp only [List.map_cons, List.map_nil, List.length_cons, List.length_nil, ylr_s, ylr_0, Nat.reduceAdd, Nat.reduceSub, List.cons_append, List.nil_append, List.set_cons_zero, List.set_cons_succ, Option.toList_none, Option.toList_some, Int32.reduceToInt, yu, ya, reduceIte, Nat.reduceEqDiff, Int.toNat_natCast, Int.reduceToNat]
    refine yi_icmpgt rfl (by refine ⟨?_, ?_⟩ <;> first | exact yr_t _ | exact yr_b _ | (unfold yr; omega)) (fun c => ?_) (fun c => ?_)
    · omega
    · refine ygo 99999 90 rfl rfl (by first | exact trivial | (simp only [true_and, eq_self, or_true, true_or, and_true, yu, ya, reduceIte, Nat.reduceEqDiff, Int32.reduceToInt, Int.toNat_natCast, Int.reduceToNat]; omega) | decide | (simp; done) | (simp; omega)) ?_
      try simp only [List.map_cons, List.map_nil, List.length_cons, List.length_nil, ylr_s, ylr_0, Nat.reduceAdd, Nat.reduceSub, List.cons_append, List.nil_append, List.set_cons_zero, List.set_cons_succ, Option.toList_none, Option.toList_some, Int32.reduceToInt, yu, ya, reduceIte, Nat.reduceEqDiff, Int.toNat_natCast, Int.reduceToNat]
      refine ycV rfl rfl rfl (cm_hereB (i := p + 1 + i) (hkp.b hB) (by omega) (hw i x hx)) rfl kX9_here iX9_here rfl rfl rfl (Nat.le_of_ble_eq_true rfl) (fun v2 Y2 q2 => ?_)
      obtain ⟨rfl, rfl⟩ := q2
      refine ygo 120 90 rfl rfl (by first | exact trivial | (simp only [true_and, eq_self, or_true, true_or, and_true, yu, ya, reduceIte, Nat.reduceEqDiff, Int32.reduceToInt, Int.toNat_natCast, Int.reduceToNat]; omega) | decide | (simp; done) | (simp; omega)) ?_
      try simp only [List.map_cons, List.map_nil, List.length_cons, List.length_nil, ylr_s, ylr_0, Nat.reduceAdd, Nat.reduceSub, List.cons_append, List.nil_append, List.set_cons_zero, List.set_cons_succ, Option.toList_none, Option.toList_some, Int32.reduceToInt, yu, ya, reduceIte, Nat.reduceEqDiff, Int.toNat_natCast, Int.reduceToNat]
      have e1 : (tz + nz).toNat = t + (o0 ++ w.take i).length := by rw [List.length_append, htl]; omega
      rw [e1, iof]
      refine ih (i + 1) _ _ _ (by omega) (by omega) (by omega) ?_
      rw [List.take_succ, hx, Option.toList_some, ← List.append_assoc]
      exact hkp.put (by rw [List.length_append, htl]; omega) ht
set_option maxRecDepth 100000 in
set_option maxHeartbeats 2000000 in
theorem l_unp3 {G : xG} {d a pk t lr p N m : Nat} {bs : List Int32} {x1 x2 x4 : Int} {x5 : Option yv} {tz pz : Int} {f : Nat → Int} {A : Nat → List Int32} {F : List Int32} {Q : Option yv → yS → Prop} (hB : hbs pk bs f A) (hp : pz = p) (hb0 : bs[p]? = some (nI N)) (hb1 : bs[p + 1]? = some (nI m)) (hm1 : 1 ≤ m) (htz : tz = t) (ht : t + lr ≤ 11520) (hlr : lr ≤ 120) (hQ : ∀ (A' : Nat → List Int32) (nz pz' : Int) (x9 : Option yv), kpt A A' t lr F → nz = F.length → pz' = ((p + 2 : Nat) : Int) → yw G (d + 1) a mX9_unpack 18 [some (.inr 0), some (.inl x1), some (.inl x2), some (.inl 2), some (.inl x4), x5, some (.inl tz), some (.inl nz), some (.inl pz'), x9] [] (f, A') Q) : ∀ (q : Nat) (o : List Int32) (qz nz : Int) (A' : Nat → List Int32), qz = q → nz = o.length → rep m q o = F → o.length + q ≤ lr → m ≤ o.length → kpt A A' t lr o →
    yw G (d + 1) a mX9_unpack 188 [some (.inr 0), some (.inl x1), some (.inl x2), some (.inl 2), some (.inl x4), x5, some (.inl tz), some (.inl nz), some (.inl pz), some (.inl qz)] [] (f, A') Q := by
  have hpl := (List.getElem?_eq_some_iff.mp hb1).1
  have h700 := hB.2.2.1
  intro q
  induction q with
  | zero =>
    intro o qz nz A' hq hn hF hl hml hkp
    have hF' : o = F := hF
    subst hF'
    refine ygo 99999 90 rfl rfl (by first | exact trivial | (simp only [true_and, eq_self, or_true, true_or, and_true, yu, ya, reduceIte, Nat.reduceEqDiff, Int32.reduceToInt, Int.toNat_natCast, Int.reduceToNat]; omega) | decide | (simp; done) | (simp; omega)) ?_
    try simp only [List.map_cons, List.map_nil, List.length_cons, List.length_nil, ylr_s, ylr_0, Nat.reduceAdd, Nat.reduceSub, List.cons_append, List.nil_append, List.set_cons_zero, List.set_cons_succ, Option.toList_none, Option.toList_some, Int32.reduceToInt, yu, ya, reduceIte, Nat.reduceEqDiff, Int.toNat_natCast, Int.reduceToNat]
    refine yi_ifle rfl (by first | exact yr_t _ | exact yr_b _ | (unfold yr; omega)) (fun c => ?_) (fun c => ?_)
    · refine ygo 18 90 rfl rfl (by first | exact trivial | (simp only [true_and, eq_self, or_true, true_or, and_true, yu, ya, reduceIte, Nat.reduceEqDiff, Int32.reduceToInt, Int.toNat_natCast, Int.reduceToNat]; omega) | decide | (simp; done) | (simp; omega)) ?_
      try simp only [List.map_cons, List.map_nil, List.length_cons, List.length_nil, ylr_s, ylr_0, Nat.reduceAdd, Nat.reduceSub, List.cons_append, List.nil_append, List.set_cons_zero, List.set_cons_succ, Option.toList_none, Option.toList_some, Int32.reduceToInt, yu, ya, reduceIte, Nat.reduceEqDiff, Int.toNat_natCast, Int.reduceToNat]
      exact hQ A' _ _ _ hkp hn (by omega)
    · omega
  | succ q ih =>
    intro o qz nz A' hq hn hF hl hml hkp
    obtain ⟨x, hx⟩ := lt_get (l := o) (j := o.length - m) (by omega)
    have hg := hkp.2.2.2 _ x hx
    have hmz : (nI m).toInt = m := i_n (by omega)
    refine ygo 99999 90 rfl rfl (by first | exact trivial | (simp only [true_and, eq_self, or_true, true_or, and_true, yu, ya, reduceIte, Nat.reduceEqDiff, Int32.reduceToInt, Int.toNat_natCast, Int.reduceToNat]; omega) | decide | (simp; done) | (simp; omega)) ?_
    try simp only [List.map_cons, List.map_nil, List.length_cons, List.length_nil, ylr_s, ylr_0, Nat.reduceAdd, Nat.reduceSub, List.cons_append, List.nil_append, List.set_cons_zero, List.set_cons_succ, Option.toList_none, Option.toList_some, Int32.reduceToInt, yu, ya, reduceIte, Nat.reduceEqDiff, Int.toNat_natCast, Int.reduceToNat]
    refine yi_ifle rfl (by first | exact yr_t _ | exact yr_b _ | (unfold yr; omega)) (fun c => ?_) (fun c => ?_)
    · omega
    · refine ygo 99999 90 rfl rfl (by first | exact trivial | (simp only [true_and, eq_self, or_true, true_or, and_true, yu, ya, reduceIte, Nat.reduceEqDiff, Int32.reduceToInt, Int.toNat_natCast, Int.reduceToNat]; omega) | decide | (simp; done) | (simp; omega)) ?_
      try simp only [List.map_cons, List.map_nil, List.length_cons, List.length_nil, ylr_s, ylr_0, Nat.reduceAdd, Nat.reduceSub, List.cons_append, List.nil_append, List.set_cons_zero, List.set_cons_succ, Option.toList_none, Option.toList_some, Int32.reduceToInt, yu, ya, reduceIte, Nat.reduceEqDiff, Int.toNat_natCast, Int.reduceToNat]
      refine ycV rfl rfl rfl (cm_hereB (i := p + 1) (hkp.b hB) (by omega) hb1) rfl kX9_here iX9_here rfl rfl rfl (Nat.le_of_ble_eq_true rfl) (fun v1 Y1 q1 => ?_)
      obtain ⟨rfl, rfl⟩ := q1
      refine ygo 188 90 rfl rfl (by first | exact trivial | (simp only [true_and, eq_self, or_true, true_or, and_true, yu, ya, reduceIte, Nat.reduceEqDiff, Int32.reduceToInt, Int.toNat_natCast, Int.reduceToNat]; omega) | decide | (simp; done) | (simp; omega)) ?_
      try simp only [List.map_cons, List.map_nil, List.length_cons, List.length_nil, ylr_s, ylr_0, Nat.reduceAdd, Nat.reduceSub, List.cons_append, List.nil_append, List.set_cons_zero, List.set_cons_succ, Option.toList_none, Option.toList_some, Int32.reduceToInt, yu, ya, reduceIte, Nat.reduceEqDiff, Int.toNat_natCast, Int.reduceToNat]
      have e1 : (tz + nz).toNat = t + o.length := by omega
      have e2 : (tz + nz - (nI m).toInt).toNat = t + (o.length - m) := by omega
      rw [e1, e2, hg, iof]
      have hF' : rep m q (o ++ [o.getD (o.length - m) (-1)]) = F := hF
      rw [List.getD_eq_getElem?_getD, hx, Option.getD_some] at hF'
      exact ih (o ++ [x]) _ _ _ (by omega) (by simp; omega) hF' (by simp; omega) (by simp; omega) (hkp.put (by omega) ht)
set_option maxRecDepth 100000 in
set_option maxHeartbeats 2000000 in
theorem l_unp {G : xG} {d a pk t lr pe : Nat} {pq : Int32} {bs F : List Int32} {x1 x2 x4 : Int} {x5 : Option yv} {tz : Int} {f : Nat → Int} {A : Nat → List Int32} (hB : hbs pk bs f A) (h4 : x4 = lr) (htz : tz = t) (ht : t + lr ≤ 11520) (hlr : lr ≤ 120) (hFl : F.length = lr) : ∀ (m p : Nat) (o : List Int32) (nz pz : Int) (x9 : Option yv) (A' : Nat → List Int32), dcs bs pq lr m p o pe F → nz = o.length → pz = p → o.length ≤ lr → kpt A A' t lr o →
    yw G (d + 1) a mX9_unpack 18 [some (.inr 0), some (.inl x1), some (.inl x2), some (.inl pq.toInt), some (.inl x4), x5, some (.inl tz), some (.inl nz), some (.inl pz), x9] [] (f, A') (fun w Y' => w = none ∧ Y'.1 = f ∧ kpt A Y'.2 t lr F) := by
  have h700 := hB.2.2.1
  intro m
  induction m with
  | zero =>
    intro p o nz pz x9 A' hd hn hp hol hkp
    obtain ⟨-, hd2⟩ := hd
    subst hd2
    refine ygo 99999 90 rfl rfl (by first | exact trivial | (simp only [true_and, eq_self, or_true, true_or, and_true, yu, ya, reduceIte, Nat.reduceEqDiff, Int32.reduceToInt, Int.toNat_natCast, Int.reduceToNat]; omega) | decide | (simp; done) | (simp; omega)) ?_
    try simp only [List.map_cons, List.map_nil, List.length_cons, List.length_nil, ylr_s, ylr_0, Nat.reduceAdd, Nat.reduceSub, List.cons_append, List.nil_append, List.set_cons_zero, List.set_cons_succ, Option.toList_none, Option.toList_some, Int32.reduceToInt, yu, ya, reduceIte, Nat.reduceEqDiff, Int.toNat_natCast, Int.reduceToNat]
    refine yi_icmpge rfl (by refine ⟨?_, ?_⟩ <;> first | exact yr_t _ | exact yr_b _ | (unfold yr; omega)) (fun c => ?_) (fun c => ?_)
    · refine ygo 99999 90 rfl rfl (by first | exact trivial | (simp only [true_and, eq_self, or_true, true_or, and_true, yu, ya, reduceIte, Nat.reduceEqDiff, Int32.reduceToInt, Int.toNat_natCast, Int.reduceToNat]; omega) | decide | (simp; done) | (simp; omega)) ?_
      try simp only [List.map_cons, List.map_nil, List.length_cons, List.length_nil, ylr_s, ylr_0, Nat.reduceAdd, Nat.reduceSub, List.cons_append, List.nil_append, List.set_cons_zero, List.set_cons_succ, Option.toList_none, Option.toList_some, Int32.reduceToInt, yu, ya, reduceIte, Nat.reduceEqDiff, Int.toNat_natCast, Int.reduceToNat]
      refine yi_ret_v rfl rfl ⟨rfl, rfl, hkp⟩
    · omega
  | succ m ih =>
    intro p o nz pz x9 A' hd hn hp hol hkp
    obtain ⟨p1, o1, h1, hl1, hd1⟩ := hd
    have hlt := dc1_len h1
    rcases h1 with ⟨rfl, b, b1, b2, b3⟩ | ⟨rfl, n, b, b1, b2, b3, b4, b5, b6⟩ | ⟨rfl, q, w, b1, b2, b3, b4, b5, b6⟩ | ⟨rfl, q, m', b1, b2, b3, b4, b5, b6, b7, b8⟩
    · have hpl := (List.getElem?_eq_some_iff.mp b1).1
      subst b2 b3
      refine ygo 99999 90 rfl rfl (by first | exact trivial | (simp only [true_and, eq_self, or_true, true_or, and_true, yu, ya, reduceIte, Nat.reduceEqDiff, Int32.reduceToInt, Int.toNat_natCast, Int.reduceToNat]; omega) | decide | (simp; done) | (simp; omega)) ?_
      try simp only [List.map_cons, List.map_nil, List.length_cons, List.length_nil, ylr_s, ylr_0, Nat.reduceAdd, Nat.reduceSub, List.cons_append, List.nil_append, List.set_cons_zero, List.set_cons_succ, Option.toList_none, Option.toList_some, Int32.reduceToInt, yu, ya, reduceIte, Nat.reduceEqDiff, Int.toNat_natCast, Int.reduceToNat]
      refine yi_icmpge rfl (by refine ⟨?_, ?_⟩ <;> first | exact yr_t _ | exact yr_b _ | (unfold yr; omega)) (fun c => ?_) (fun c => ?_)
      · omega
      refine ygo 99999 90 rfl rfl (by first | exact trivial | (simp only [true_and, eq_self, or_true, true_or, and_true, yu, ya, reduceIte, Nat.reduceEqDiff, Int32.reduceToInt, Int.toNat_natCast, Int.reduceToNat]; omega) | decide | (simp; done) | (simp; omega)) ?_
      try simp only [List.map_cons, List.map_nil, List.length_cons, List.length_nil, ylr_s, ylr_0, Nat.reduceAdd, Nat.reduceSub, List.cons_append, List.nil_append, List.set_cons_zero, List.set_cons_succ, Option.toList_none, Option.toList_some, Int32.reduceToInt, yu, ya, reduceIte, Nat.reduceEqDiff, Int.toNat_natCast, Int.reduceToNat]
      refine yi_ifne rfl (by first | exact yr_t _ | exact yr_b _ | (unfold yr; omega)) (fun c1 => ?_) (fun c1 => ?_)
      · omega
      · refine ygo 99999 90 rfl rfl (by first | exact trivial | (simp only [true_and, eq_self, or_true, true_or, and_true, yu, ya, reduceIte, Nat.reduceEqDiff, Int32.reduceToInt, Int.toNat_natCast, Int.reduceToNat]; omega) | decide | (simp; done) | (simp; omega)) ?_
        try simp only [List.map_cons, List.map_nil, List.length_cons, List.length_nil, ylr_s, ylr_0, Nat.reduceAdd, Nat.reduceSub, List.cons_append, List.nil_append, List.set_cons_zero, List.set_cons_succ, Option.toList_none, Option.toList_some, Int32.reduceToInt, yu, ya, reduceIte, Nat.reduceEqDiff, Int.toNat_natCast, Int.reduceToNat]
        refine ycV rfl rfl rfl (cm_hereB (i := p) (hkp.b hB) (by omega) b1) rfl kX9_here iX9_here rfl rfl rfl (Nat.le_of_ble_eq_true rfl) (fun v1 Y1 q1 => ?_)
        obtain ⟨rfl, rfl⟩ := q1
        refine ygo 18 90 rfl rfl (by first | exact trivial | (simp only [true_and, eq_self, or_true, true_or, and_true, yu, ya, reduceIte, Nat.reduceEqDiff, Int32.reduceToInt, Int.toNat_natCast, Int.reduceToNat]; omega) | decide | (simp; done) | (simp; omega)) ?_
        try simp only [List.map_cons, List.map_nil, List.length_cons, List.length_nil, ylr_s, ylr_0, Nat.reduceAdd, Nat.reduceSub, List.cons_append, List.nil_append, List.set_cons_zero, List.set_cons_succ, Option.toList_none, Option.toList_some, Int32.reduceToInt, yu, ya, reduceIte, Nat.reduceEqDiff, Int.toNat_natCast, Int.reduceToNat]
        have e1 : (tz + nz).toNat = t + o.length := by omega
        rw [e1, iof]
        exact ih (p + 1) (o ++ [b]) _ _ _ _ hd1 (by simp; omega) (by omega) (by omega) (hkp.put (by omega) ht)
    · have hpl := (List.getElem?_eq_some_iff.mp b4).1
      have hnz : (nI n).toInt = n := i_n (by omega)
      subst b5 b6
      refine ygo 99999 90 rfl rfl (by first | exact trivial | (simp only [true_and, eq_self, or_true, true_or, and_true, yu, ya, reduceIte, Nat.reduceEqDiff, Int32.reduceToInt, Int.toNat_natCast, Int.reduceToNat]; omega) | decide | (simp; done) | (simp; omega)) ?_
      try simp only [List.map_cons, List.map_nil, List.length_cons, List.length_nil, ylr_s, ylr_0, Nat.reduceAdd, Nat.reduceSub, List.cons_append, List.nil_append, List.set_cons_zero, List.set_cons_succ, Option.toList_none, Option.toList_some, Int32.reduceToInt, yu, ya, reduceIte, Nat.reduceEqDiff, Int.toNat_natCast, Int.reduceToNat]
      refine yi_icmpge rfl (by refine ⟨?_, ?_⟩ <;> first | exact yr_t _ | exact yr_b _ | (unfold yr; omega)) (fun c => ?_) (fun c => ?_)
      · omega
      refine ygo 99999 90 rfl rfl (by first | exact trivial | (simp only [true_and, eq_self, or_true, true_or, and_true, yu, ya, reduceIte, Nat.reduceEqDiff, Int32.reduceToInt, Int.toNat_natCast, Int.reduceToNat]; omega) | decide | (simp; done) | (simp; omega)) ?_
      try simp only [List.map_cons, List.map_nil, List.length_cons, List.length_nil, ylr_s, ylr_0, Nat.reduceAdd, Nat.reduceSub, List.cons_append, List.nil_append, List.set_cons_zero, List.set_cons_succ, Option.toList_none, Option.toList_some, Int32.reduceToInt, yu, ya, reduceIte, Nat.reduceEqDiff, Int.toNat_natCast, Int.reduceToNat]
      refine yi_ifne rfl (by first | exact yr_t _ | exact yr_b _ | (unfold yr; omega)) (fun c1 => ?_) (fun c1 => ?_)
      · refine ygo 99999 90 rfl rfl (by first | exact trivial | (simp only [true_and, eq_self, or_true, true_or, and_true, yu, ya, reduceIte, Nat.reduceEqDiff, Int32.reduceToInt, Int.toNat_natCast, Int.reduceToNat]; omega) | decide | (simp; done) | (simp; omega)) ?_
        try simp only [List.map_cons, List.map_nil, List.length_cons, List.length_nil, ylr_s, ylr_0, Nat.reduceAdd, Nat.reduceSub, List.cons_append, List.nil_append, List.set_cons_zero, List.set_cons_succ, Option.toList_none, Option.toList_some, Int32.reduceToInt, yu, ya, reduceIte, Nat.reduceEqDiff, Int.toNat_natCast, Int.reduceToNat]
        refine yi_icmpne rfl (by refine ⟨?_, ?_⟩ <;> first | exact yr_t _ | exact yr_b _ | (unfold yr; omega)) (fun c2 => ?_) (fun c2 => ?_)
        · omega
        · refine ygo 99999 90 rfl rfl (by first | exact trivial | (simp only [true_and, eq_self, or_true, true_or, and_true, yu, ya, reduceIte, Nat.reduceEqDiff, Int32.reduceToInt, Int.toNat_natCast, Int.reduceToNat]; omega) | decide | (simp; done) | (simp; omega)) ?_
          try simp only [List.map_cons, List.map_nil, List.length_cons, List.length_nil, ylr_s, ylr_0, Nat.reduceAdd, Nat.reduceSub, List.cons_append, List.nil_append, List.set_cons_zero, List.set_cons_succ, Option.toList_none, Option.toList_some, Int32.reduceToInt, yu, ya, reduceIte, Nat.reduceEqDiff, Int.toNat_natCast, Int.reduceToNat]
          refine ycV rfl rfl rfl (cm_hereB (i := p) (hkp.b hB) (by omega) b3) rfl kX9_here iX9_here rfl rfl rfl (Nat.le_of_ble_eq_true rfl) (fun v1 Y1 q1 => ?_)
          obtain ⟨rfl, rfl⟩ := q1
          refine ygo 67 90 rfl rfl (by first | exact trivial | (simp only [true_and, eq_self, or_true, true_or, and_true, yu, ya, reduceIte, Nat.reduceEqDiff, Int32.reduceToInt, Int.toNat_natCast, Int.reduceToNat]; omega) | decide | (simp; done) | (simp; omega)) ?_
          try simp only [List.map_cons, List.map_nil, List.length_cons, List.length_nil, ylr_s, ylr_0, Nat.reduceAdd, Nat.reduceSub, List.cons_append, List.nil_append, List.set_cons_zero, List.set_cons_succ, Option.toList_none, Option.toList_some, Int32.reduceToInt, yu, ya, reduceIte, Nat.reduceEqDiff, Int.toNat_natCast, Int.reduceToNat]
          exact l_unp1 hB hp b3 b4 htz ht hlr (fun A2 n2 p2 y9 hk2 hn2 hp2 => ih (p + 2) _ n2 p2 y9 A2 hd1 hn2 hp2 hl1 hk2) n o _ _ A' hnz hn rfl (by simp at hl1; omega) hkp
      · omega
    · have hpl := (List.getElem?_eq_some_iff.mp b1).1
      have hqz : (nI q).toInt = q := i_n (by omega)
      subst b5 b6
      have hlw : o.length + w.length ≤ lr := by simpa using hl1
      refine ygo 99999 90 rfl rfl (by first | exact trivial | (simp only [true_and, eq_self, or_true, true_or, and_true, yu, ya, reduceIte, Nat.reduceEqDiff, Int32.reduceToInt, Int.toNat_natCast, Int.reduceToNat]; omega) | decide | (simp; done) | (simp; omega)) ?_
      try simp only [List.map_cons, List.map_nil, List.length_cons, List.length_nil, ylr_s, ylr_0, Nat.reduceAdd, Nat.reduceSub, List.cons_append, List.nil_append, List.set_cons_zero, List.set_cons_succ, Option.toList_none, Option.toList_some, Int32.reduceToInt, yu, ya, reduceIte, Nat.reduceEqDiff, Int.toNat_natCast, Int.reduceToNat]
      refine yi_icmpge rfl (by refine ⟨?_, ?_⟩ <;> first | exact yr_t _ | exact yr_b _ | (unfold yr; omega)) (fun c => ?_) (fun c => ?_)
      · omega
      refine ygo 99999 90 rfl rfl (by first | exact trivial | (simp only [true_and, eq_self, or_true, true_or, and_true, yu, ya, reduceIte, Nat.reduceEqDiff, Int32.reduceToInt, Int.toNat_natCast, Int.reduceToNat]; omega) | decide | (simp; done) | (simp; omega)) ?_
      try simp only [List.map_cons, List.map_nil, List.length_cons, List.length_nil, ylr_s, ylr_0, Nat.reduceAdd, Nat.reduceSub, List.cons_append, List.nil_append, List.set_cons_zero, List.set_cons_succ, Option.toList_none, Option.toList_some, Int32.reduceToInt, yu, ya, reduceIte, Nat.reduceEqDiff, Int.toNat_natCast, Int.reduceToNat]
      refine yi_ifne rfl (by first | exact yr_t _ | exact yr_b _ | (unfold yr; omega)) (fun c1 => ?_) (fun c1 => ?_)
      · refine ygo 99999 90 rfl rfl (by first | exact trivial | (simp only [true_and, eq_self, or_true, true_or, and_true, yu, ya, reduceIte, Nat.reduceEqDiff, Int32.reduceToInt, Int.toNat_natCast, Int.reduceToNat]; omega) | decide | (simp; done) | (simp; omega)) ?_
        try simp only [List.map_cons, List.map_nil, List.length_cons, List.length_nil, ylr_s, ylr_0, Nat.reduceAdd, Nat.reduceSub, List.cons_append, List.nil_append, List.set_cons_zero, List.set_cons_succ, Option.toList_none, Option.toList_some, Int32.reduceToInt, yu, ya, reduceIte, Nat.reduceEqDiff, Int.toNat_natCast, Int.reduceToNat]
        refine yi_icmpne rfl (by refine ⟨?_, ?_⟩ <;> first | exact yr_t _ | exact yr_b _ | (unfold yr; omega)) (fun c2 => ?_) (fun c2 => ?_)
        · refine ygo 99999 90 rfl rfl (by first | exact trivial | (simp only [true_and, eq_self, or_true, true_or, and_true, yu, ya, reduceIte, Nat.reduceEqDiff, Int32.reduceToInt, Int.toNat_natCast, Int.reduceToNat]; omega) | decide | (simp; done) | (simp; omega)) ?_
          try simp only [List.map_cons, List.map_nil, List.length_cons, List.length_nil, ylr_s, ylr_0, Nat.reduceAdd, Nat.reduceSub, List.cons_append, List.nil_append, List.set_cons_zero, List.set_cons_succ, Option.toList_none, Option.toList_some, Int32.reduceToInt, yu, ya, reduceIte, Nat.reduceEqDiff, Int.toNat_natCast, Int.reduceToNat]
          refine ycV rfl rfl rfl (cm_hereB (i := p) (hkp.b hB) (by omega) b1) rfl kX9_here iX9_here rfl rfl rfl (Nat.le_of_ble_eq_true rfl) (fun v1 Y1 q1 => ?_)
          obtain ⟨rfl, rfl⟩ := q1
          refine ygo 99999 90 rfl rfl (by first | exact trivial | (simp only [true_and, eq_self, or_true, true_or, and_true, yu, ya, reduceIte, Nat.reduceEqDiff, Int32.reduceToInt, Int.toNat_natCast, Int.reduceToNat]; omega) | decide | (simp; done) | (simp; omega)) ?_
          try simp only [List.map_cons, List.map_nil, List.length_cons, List.length_nil, ylr_s, ylr_0, Nat.reduceAdd, Nat.reduceSub, List.cons_append, List.nil_append, List.set_cons_zero, List.set_cons_succ, Option.toList_none, Option.toList_some, Int32.reduceToInt, yu, ya, reduceIte, Nat.reduceEqDiff, Int.toNat_natCast, Int.reduceToNat]
          refine yi_icmpge rfl (by refine ⟨?_, ?_⟩ <;> first | exact yr_t _ | exact yr_b _ | (unfold yr; omega)) (fun c3 => ?_) (fun c3 => ?_)
          · omega
          · refine ygo 120 90 rfl rfl (by first | exact trivial | (simp only [true_and, eq_self, or_true, true_or, and_true, yu, ya, reduceIte, Nat.reduceEqDiff, Int32.reduceToInt, Int.toNat_natCast, Int.reduceToNat]; omega) | decide | (simp; done) | (simp; omega)) ?_
            try simp only [List.map_cons, List.map_nil, List.length_cons, List.length_nil, ylr_s, ylr_0, Nat.reduceAdd, Nat.reduceSub, List.cons_append, List.nil_append, List.set_cons_zero, List.set_cons_succ, Option.toList_none, Option.toList_some, Int32.reduceToInt, yu, ya, reduceIte, Nat.reduceEqDiff, Int.toNat_natCast, Int.reduceToNat]
            exact l_unp2 (w := w) (o0 := o) hB hp b1 b2 b3 b4 htz ht hlr hlw (fun A2 n2 p2 y9 hk2 hn2 hp2 => ih _ _ n2 p2 y9 A2 hd1 hn2 hp2 hl1 hk2) (q + 1) 0 0 _ A' (by omega) rfl (by omega) (by simpa using hkp)
        · omega
      · omega
    · have hpl := (List.getElem?_eq_some_iff.mp b4).1
      have hqz : (nI q).toInt = q := i_n (by omega)
      subst b7 b8
      have hlr' : o.length + (q - 125) ≤ lr := by rw [rep_len] at hl1; exact hl1
      refine ygo 99999 90 rfl rfl (by first | exact trivial | (simp only [true_and, eq_self, or_true, true_or, and_true, yu, ya, reduceIte, Nat.reduceEqDiff, Int32.reduceToInt, Int.toNat_natCast, Int.reduceToNat]; omega) | decide | (simp; done) | (simp; omega)) ?_
      try simp only [List.map_cons, List.map_nil, List.length_cons, List.length_nil, ylr_s, ylr_0, Nat.reduceAdd, Nat.reduceSub, List.cons_append, List.nil_append, List.set_cons_zero, List.set_cons_succ, Option.toList_none, Option.toList_some, Int32.reduceToInt, yu, ya, reduceIte, Nat.reduceEqDiff, Int.toNat_natCast, Int.reduceToNat]
      refine yi_icmpge rfl (by refine ⟨?_, ?_⟩ <;> first | exact yr_t _ | exact yr_b _ | (unfold yr; omega)) (fun c => ?_) (fun c => ?_)
      · omega
      refine ygo 99999 90 rfl rfl (by first | exact trivial | (simp only [true_and, eq_self, or_true, true_or, and_true, yu, ya, reduceIte, Nat.reduceEqDiff, Int32.reduceToInt, Int.toNat_natCast, Int.reduceToNat]; omega) | decide | (simp; done) | (simp; omega)) ?_
      try simp only [List.map_cons, List.map_nil, List.length_cons, List.length_nil, ylr_s, ylr_0, Nat.reduceAdd, Nat.reduceSub, List.cons_append, List.nil_append, List.set_cons_zero, List.set_cons_succ, Option.toList_none, Option.toList_some, Int32.reduceToInt, yu, ya, reduceIte, Nat.reduceEqDiff, Int.toNat_natCast, Int.reduceToNat]
      refine yi_ifne rfl (by first | exact yr_t _ | exact yr_b _ | (unfold yr; omega)) (fun c1 => ?_) (fun c1 => ?_)
      · refine ygo 99999 90 rfl rfl (by first | exact trivial | (simp only [true_and, eq_self, or_true, true_or, and_true, yu, ya, reduceIte, Nat.reduceEqDiff, Int32.reduceToInt, Int.toNat_natCast, Int.reduceToNat]; omega) | decide | (simp; done) | (simp; omega)) ?_
        try simp only [List.map_cons, List.map_nil, List.length_cons, List.length_nil, ylr_s, ylr_0, Nat.reduceAdd, Nat.reduceSub, List.cons_append, List.nil_append, List.set_cons_zero, List.set_cons_succ, Option.toList_none, Option.toList_some, Int32.reduceToInt, yu, ya, reduceIte, Nat.reduceEqDiff, Int.toNat_natCast, Int.reduceToNat]
        refine yi_icmpne rfl (by refine ⟨?_, ?_⟩ <;> first | exact yr_t _ | exact yr_b _ | (unfold yr; omega)) (fun c2 => ?_) (fun c2 => ?_)
        · refine ygo 99999 90 rfl rfl (by first | exact trivial | (simp only [true_and, eq_self, or_true, true_or, and_true, yu, ya, reduceIte, Nat.reduceEqDiff, Int32.reduceToInt, Int.toNat_natCast, Int.reduceToNat]; omega) | decide | (simp; done) | (simp; omega)) ?_
          try simp only [List.map_cons, List.map_nil, List.length_cons, List.length_nil, ylr_s, ylr_0, Nat.reduceAdd, Nat.reduceSub, List.cons_append, List.nil_append, List.set_cons_zero, List.set_cons_succ, Option.toList_none, Option.toList_some, Int32.reduceToInt, yu, ya, reduceIte, Nat.reduceEqDiff, Int.toNat_natCast, Int.reduceToNat]
          refine ycV rfl rfl rfl (cm_hereB (i := p) (hkp.b hB) (by omega) b1) rfl kX9_here iX9_here rfl rfl rfl (Nat.le_of_ble_eq_true rfl) (fun v1 Y1 q1 => ?_)
          obtain ⟨rfl, rfl⟩ := q1
          refine ygo 99999 90 rfl rfl (by first | exact trivial | (simp only [true_and, eq_self, or_true, true_or, and_true, yu, ya, reduceIte, Nat.reduceEqDiff, Int32.reduceToInt, Int.toNat_natCast, Int.reduceToNat]; omega) | decide | (simp; done) | (simp; omega)) ?_
          try simp only [List.map_cons, List.map_nil, List.length_cons, List.length_nil, ylr_s, ylr_0, Nat.reduceAdd, Nat.reduceSub, List.cons_append, List.nil_append, List.set_cons_zero, List.set_cons_succ, Option.toList_none, Option.toList_some, Int32.reduceToInt, yu, ya, reduceIte, Nat.reduceEqDiff, Int.toNat_natCast, Int.reduceToNat]
          refine yi_icmpge rfl (by refine ⟨?_, ?_⟩ <;> first | exact yr_t _ | exact yr_b _ | (unfold yr; omega)) (fun c3 => ?_) (fun c3 => ?_)
          · refine ygo 99999 90 rfl rfl (by first | exact trivial | (simp only [true_and, eq_self, or_true, true_or, and_true, yu, ya, reduceIte, Nat.reduceEqDiff, Int32.reduceToInt, Int.toNat_natCast, Int.reduceToNat]; omega) | decide | (simp; done) | (simp; omega)) ?_
            try simp only [List.map_cons, List.map_nil, List.length_cons, List.length_nil, ylr_s, ylr_0, Nat.reduceAdd, Nat.reduceSub, List.cons_append, List.nil_append, List.set_cons_zero, List.set_cons_succ, Option.toList_none, Option.toList_some, Int32.reduceToInt, yu, ya, reduceIte, Nat.reduceEqDiff, Int.toNat_natCast, Int.reduceToNat]
            refine ycV rfl rfl rfl (cm_hereB (i := p) (hkp.b hB) (by omega) b1) rfl kX9_here iX9_here rfl rfl rfl (Nat.le_of_ble_eq_true rfl) (fun v2 Y2 q2 => ?_)
            obtain ⟨rfl, rfl⟩ := q2
            refine ygo 188 90 rfl rfl (by first | exact trivial | (simp only [true_and, eq_self, or_true, true_or, and_true, yu, ya, reduceIte, Nat.reduceEqDiff, Int32.reduceToInt, Int.toNat_natCast, Int.reduceToNat]; omega) | decide | (simp; done) | (simp; omega)) ?_
            try simp only [List.map_cons, List.map_nil, List.length_cons, List.length_nil, ylr_s, ylr_0, Nat.reduceAdd, Nat.reduceSub, List.cons_append, List.nil_append, List.set_cons_zero, List.set_cons_succ, Option.toList_none, Option.toList_some, Int32.reduceToInt, yu, ya, reduceIte, Nat.reduceEqDiff, Int.toNat_natCast, Int.reduceToNat]
            exact l_unp3 hB hp b1 b4 b5 htz ht hlr (fun A2 n2 p2 y9 hk2 hn2 hp2 => ih _ _ n2 p2 y9 A2 hd1 hn2 hp2 hl1 hk2) (q - 125) o _ _ A' (by omega) hn rfl hlr' b6 hkp
          · omega
        · omega
      · omega
set_option maxRecDepth 100000 in
set_option maxHeartbeats 2000000 in
theorem cm_unpack {G : xG} {d a pk e r lr p pe m : Nat} {pq : Int32} {bs F : List Int32} {x1 x2 x3 x4 x5 : Int} {f : Nat → Int} {A : Nat → List Int32} (hB : hbs pk bs f A) (h1 : x1 = e) (h2 : x2 = r) (h3 : x3 = pq.toInt) (h4 : x4 = lr) (h5 : x5 = p) (he : e < 12) (hr : r < 8) (hlr : lr ≤ 120) (hFl : F.length = lr) (hd : dcs bs pq lr m p [] pe F) (hp : p ≤ 3000) : ym G (d + 1) a mX9_unpack [.inr 0, .inl x1, .inl x2, .inl x3, .inl x4, .inl x5] (f, A) (fun w Y' => w = none ∧ Y'.1 = f ∧ kpt A Y'.2 (120 * (8 * e + r)) lr F) := by
  subst h3
  refine ym.len (fun hlen => ?_)
  refine ym_at 10 rfl (by decide) (Nat.le_of_ble_eq_true rfl) tX9_unpack_ok ?_
  try simp only [List.map_cons, List.map_nil, List.length_cons, List.length_nil, ylr_s, ylr_0, Nat.reduceAdd, Nat.reduceSub, List.cons_append, List.nil_append, List.set_cons_zero, List.set_cons_succ, Option.toList_none, Option.toList_some, Int32.reduceToInt, yu, ya, reduceIte, Nat.reduceEqDiff, Int.toNat_natCast, Int.reduceToNat]
  refine ygo 18 90 rfl rfl (by first | exact trivial | (simp only [true_and, eq_self, or_true, true_or, and_true, yu, ya, reduceIte, Nat.reduceEqDiff, Int32.reduceToInt, Int.toNat_natCast, Int.reduceToNat]; omega) | decide | (simp; done) | (simp; omega)) ?_
  try simp only [List.map_cons, List.map_nil, List.length_cons, List.length_nil, ylr_s, ylr_0, Nat.reduceAdd, Nat.reduceSub, List.cons_append, List.nil_append, List.set_cons_zero, List.set_cons_succ, Option.toList_none, Option.toList_some, Int32.reduceToInt, yu, ya, reduceIte, Nat.reduceEqDiff, Int.toNat_natCast, Int.reduceToNat]
  exact l_unp hB h4 (by omega) (by omega) hlr hFl m p [] _ _ _ A hd rfl h5 (by simp) ⟨fk1.rf, hlen 47 _ rfl, fun i _ => rfl, fun i x hx => by simp at hx⟩
