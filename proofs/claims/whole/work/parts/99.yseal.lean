theorem mE_mEc {e : Nat} {V : eV} {f : Nat → Int} {A : Nat → List Int32} (h : mE e V (f, A)) : mEc e V.1 A := ⟨h.2.2.2.2.2.2.1, h.2.2.2.2.2.2.2.1, h.2.2.2.2.2.2.2.2.1, fun i x hx => (h.2.2.2.2.2.2.2.2.2.1 i x hx).1⟩
theorem okK_key {K : cV} (h : okK K) : ∀ x ∈ K.2.2.2, blw x.1 256 := fun x hx => (h.2.2.2.2.2.2.2.2 x hx).1
set_option maxRecDepth 100000 in
set_option maxHeartbeats 2000000 in
theorem l_sg1 {G : xG} {d a e g : Nat} {gz ez : Int} {K : cV} {L : sL} {S : Int32} {f : Nat → Int} {A : Nat → List Int32} {Q : Option yv → yS → Prop} (h : mS L (f, A)) (hk : okS L) (he : mEc e K A) (hez : ez = e) (he12 : e < 12) (hK : okK K) (hs : sn A (sbit S)) (hgz : gz = g) (hg : g < 16) (kt : sany (nI g) K S L 0 = true → Q (some (.inl gz)) (f, A)) (kf : sany (nI g) K S L 0 = false → ∀ x3, yw G (d + 1) a mX9_sealedGroup 7 [some (.inr 0), some (.inl ez), some (.inl (gz + 1)), x3] [] (f, A) Q) : ∀ (n k : Nat) (kz : Int), k + n = L.length → kz = k → sany (nI g) K S (L.drop k) k = sany (nI g) K S L 0 →
    yw G (d + 1) a mX9_sealedGroup 15 [some (.inr 0), some (.inl ez), some (.inl gz), some (.inl kz)] [] (f, A) Q := by
  have h35 : f 35 = L.length := h.1
  have hL := hk.1
  have hgi : gz = (nI g).toInt := by rw [i_n (by omega)]; exact hgz
  have hK4 : K.2.2.1.length ≤ 4 := hK.2.2.2.2.2.1
  have hK8 : K.2.2.2.length ≤ 8 := hK.2.2.2.2.2.2.2.1
  have hKb := okK_key hK
  have t0 : (bI false).toInt = 0 := rfl
  have t1 : (bI true).toInt = 1 := rfl
  intro n
  induction n with
  | zero =>
    intro k kz hn hkz hs0
    have e : L.drop k = [] := List.drop_eq_nil_of_le (by omega)
    rw [e] at hs0
    have hs1 : sany (nI g) K S L 0 = false := hs0.symm
    refine ygo 99999 90 rfl rfl (by first | exact trivial | (simp only [true_and, eq_self, or_true, true_or, and_true, yu, ya, reduceIte, Nat.reduceEqDiff, Int32.reduceToInt, Int.toNat_natCast, Int.reduceToNat]; omega) | decide | (simp; done) | (simp; omega)) ?_
    try simp only [List.map_cons, List.map_nil, List.length_cons, List.length_nil, ylr_s, ylr_0, Nat.reduceAdd, Nat.reduceSub, List.cons_append, List.nil_append, List.set_cons_zero, List.set_cons_succ, Option.toList_none, Option.toList_some, Int32.reduceToInt, yu, ya, reduceIte, Nat.reduceEqDiff, Int.toNat_natCast, Int.reduceToNat]
    refine yi_icmpge rfl (by refine ⟨?_, ?_⟩ <;> first | exact yr_t _ | exact yr_b _ | (unfold yr; omega)) (fun c => ?_) (fun c => ?_)
    · refine ygo 7 90 rfl rfl (by first | exact trivial | (simp only [true_and, eq_self, or_true, true_or, and_true, yu, ya, reduceIte, Nat.reduceEqDiff, Int32.reduceToInt, Int.toNat_natCast, Int.reduceToNat]; omega) | decide | (simp; done) | (simp; omega)) ?_
      try simp only [List.map_cons, List.map_nil, List.length_cons, List.length_nil, ylr_s, ylr_0, Nat.reduceAdd, Nat.reduceSub, List.cons_append, List.nil_append, List.set_cons_zero, List.set_cons_succ, Option.toList_none, Option.toList_some, Int32.reduceToInt, yu, ya, reduceIte, Nat.reduceEqDiff, Int.toNat_natCast, Int.reduceToNat]
      exact kf hs1 _
    · omega
  | succ n ih =>
    intro k kz hn hkz hs0
    obtain ⟨x, hx⟩ := lt_get (l := L) (j := k) (by omega)
    have hE := mE_mEc (h.2 k x hx)
    have hV := hk.2 k x hx
    have hV4 : x.2.2.1.2.2.1.length ≤ 4 := hV.1.2.2.2.2.2.1
    have hV8 : x.2.2.1.2.2.2.length ≤ 8 := hV.1.2.2.2.2.2.2.2.1
    have hVb := okK_key hV.1
    have hkt : kz.toNat = k := by omega
    rw [drop_cons hx] at hs0
    have hs1 : ((sbit S k && betw (nI g) K x.2.2.1) || sany (nI g) K S (L.drop (k + 1)) (k + 1)) = sany (nI g) K S L 0 := hs0
    have e51 : (A 51).getD kz.toNat 0 = bI (sbit S k) := by rw [hkt]; exact hs.2 k (by omega)
    have no : (sbit S k && betw (nI g) K x.2.2.1) = false → yw G (d + 1) a mX9_sealedGroup 70 [some (.inr 0), some (.inl ez), some (.inl gz), some (.inl kz)] [] (f, A) Q := by
      intro hb
      rw [hb, Bool.false_or] at hs1
      refine ygo 15 90 rfl rfl (by first | exact trivial | (simp only [true_and, eq_self, or_true, true_or, and_true, yu, ya, reduceIte, Nat.reduceEqDiff, Int32.reduceToInt, Int.toNat_natCast, Int.reduceToNat]; omega) | decide | (simp; done) | (simp; omega)) ?_
      try simp only [List.map_cons, List.map_nil, List.length_cons, List.length_nil, ylr_s, ylr_0, Nat.reduceAdd, Nat.reduceSub, List.cons_append, List.nil_append, List.set_cons_zero, List.set_cons_succ, Option.toList_none, Option.toList_some, Int32.reduceToInt, yu, ya, reduceIte, Nat.reduceEqDiff, Int.toNat_natCast, Int.reduceToNat]
      exact ih (k + 1) _ (by omega) (by omega) hs1
    have yes : (sbit S k && betw (nI g) K x.2.2.1) = true → yw G (d + 1) a mX9_sealedGroup 68 [some (.inr 0), some (.inl ez), some (.inl gz), some (.inl kz)] [] (f, A) Q := by
      intro hb
      rw [hb, Bool.true_or] at hs1
      refine ygo 99999 90 rfl rfl (by first | exact trivial | (simp only [true_and, eq_self, or_true, true_or, and_true, yu, ya, reduceIte, Nat.reduceEqDiff, Int32.reduceToInt, Int.toNat_natCast, Int.reduceToNat]; omega) | decide | (simp; done) | (simp; omega)) ?_
      try simp only [List.map_cons, List.map_nil, List.length_cons, List.length_nil, ylr_s, ylr_0, Nat.reduceAdd, Nat.reduceSub, List.cons_append, List.nil_append, List.set_cons_zero, List.set_cons_succ, Option.toList_none, Option.toList_some, Int32.reduceToInt, yu, ya, reduceIte, Nat.reduceEqDiff, Int.toNat_natCast, Int.reduceToNat]
      refine yi_ret_i rfl rfl (kt hs1.symm)
    unfold betw at no yes
    have b1 := bInt_01 (x.2.2.1.2.2.1.any (fun e => e == nI g))
    have b2 := bInt_01 (K.2.2.2.any (fun e => e.1 / 16 == nI g))
    have b3 := bInt_01 (K.2.2.1.any (fun e => e == nI g))
    have b4 := bInt_01 (x.2.2.1.2.2.2.any (fun e => e.1 / 16 == nI g))
    have k1 := cm_seals (G := G) (d := d) (a := a) (f := f) hE hkz hgi (by omega) hV4
    have k2 := cm_hasRowOf (G := G) (d := d) (a := a) (f := f) he hez hgi he12 hK8 hKb
    have k3 := cm_seals (G := G) (d := d) (a := a) (f := f) he hez hgi he12 hK4
    have k4 := cm_hasRowOf (G := G) (d := d) (a := a) (f := f) hE hkz hgi (by omega) hV8 hVb
    generalize x.2.2.1.2.2.1.any (fun e => e == nI g) = B1 at *
    generalize K.2.2.2.any (fun e => e.1 / 16 == nI g) = B2 at *
    generalize K.2.2.1.any (fun e => e == nI g) = B3 at *
    generalize x.2.2.1.2.2.2.any (fun e => e.1 / 16 == nI g) = B4 at *
    generalize sbit S k = B0 at *
    refine ygo 99999 90 rfl rfl (by first | exact trivial | (simp only [true_and, eq_self, or_true, true_or, and_true, yu, ya, reduceIte, Nat.reduceEqDiff, Int32.reduceToInt, Int.toNat_natCast, Int.reduceToNat]; omega) | decide | (simp; done) | (simp; omega)) ?_
    try simp only [List.map_cons, List.map_nil, List.length_cons, List.length_nil, ylr_s, ylr_0, Nat.reduceAdd, Nat.reduceSub, List.cons_append, List.nil_append, List.set_cons_zero, List.set_cons_succ, Option.toList_none, Option.toList_some, Int32.reduceToInt, yu, ya, reduceIte, Nat.reduceEqDiff, Int.toNat_natCast, Int.reduceToNat]
    refine yi_icmpge rfl (by refine ⟨?_, ?_⟩ <;> first | exact yr_t _ | exact yr_b _ | (unfold yr; omega)) (fun c => ?_) (fun c => ?_)
    · omega
    refine ygo 99999 90 rfl rfl (by first | exact trivial | (simp only [true_and, eq_self, or_true, true_or, and_true, yu, ya, reduceIte, Nat.reduceEqDiff, Int32.reduceToInt, Int.toNat_natCast, Int.reduceToNat]; omega) | decide | (simp; done) | (simp; omega)) ?_
    try simp only [List.map_cons, List.map_nil, List.length_cons, List.length_nil, ylr_s, ylr_0, Nat.reduceAdd, Nat.reduceSub, List.cons_append, List.nil_append, List.set_cons_zero, List.set_cons_succ, Option.toList_none, Option.toList_some, Int32.reduceToInt, yu, ya, reduceIte, Nat.reduceEqDiff, Int.toNat_natCast, Int.reduceToNat]
    refine yi_ifeq rfl (by first | exact yr_t _ | exact yr_b _ | (unfold yr; omega)) (fun c0 => ?_) (fun c0 => ?_)
    · rw [e51] at c0
      have hB : B0 = false := by cases B0 with
        | false => rfl
        | true => rw [t1] at c0; omega
      exact no (by rw [hB]; rfl)
    rw [e51] at c0
    have hB : B0 = true := by cases B0 with
      | true => rfl
      | false => rw [t0] at c0; omega
    have second : (B1 && B2) = false → yw G (d + 1) a mX9_sealedGroup 50 [some (.inr 0), some (.inl ez), some (.inl gz), some (.inl kz)] [] (f, A) Q := by
      intro h12
      refine ygo 99999 90 rfl rfl (by first | exact trivial | (simp only [true_and, eq_self, or_true, true_or, and_true, yu, ya, reduceIte, Nat.reduceEqDiff, Int32.reduceToInt, Int.toNat_natCast, Int.reduceToNat]; omega) | decide | (simp; done) | (simp; omega)) ?_
      try simp only [List.map_cons, List.map_nil, List.length_cons, List.length_nil, ylr_s, ylr_0, Nat.reduceAdd, Nat.reduceSub, List.cons_append, List.nil_append, List.set_cons_zero, List.set_cons_succ, Option.toList_none, Option.toList_some, Int32.reduceToInt, yu, ya, reduceIte, Nat.reduceEqDiff, Int.toNat_natCast, Int.reduceToNat]
      refine ycV rfl rfl rfl k3 rfl kX9_seals iX9_seals rfl rfl rfl (Nat.le_of_ble_eq_true rfl) (fun v3 Y3 q3 => ?_)
      obtain ⟨rfl, rfl⟩ := q3
      refine ygo 99999 90 rfl rfl (by first | exact trivial | (simp only [true_and, eq_self, or_true, true_or, and_true, yu, ya, reduceIte, Nat.reduceEqDiff, Int32.reduceToInt, Int.toNat_natCast, Int.reduceToNat]; omega) | decide | (simp; done) | (simp; omega)) ?_
      try simp only [List.map_cons, List.map_nil, List.length_cons, List.length_nil, ylr_s, ylr_0, Nat.reduceAdd, Nat.reduceSub, List.cons_append, List.nil_append, List.set_cons_zero, List.set_cons_succ, Option.toList_none, Option.toList_some, Int32.reduceToInt, yu, ya, reduceIte, Nat.reduceEqDiff, Int.toNat_natCast, Int.reduceToNat]
      refine yi_ifeq rfl (by first | exact yr_t _ | exact yr_b _ | (unfold yr; omega)) (fun c3 => ?_) (fun c3 => ?_)
      · rw [bInt_z] at c3
        exact no (by rw [h12, c3]; simp)
      rw [bInt_z, Bool.not_eq_false] at c3
      refine ygo 99999 90 rfl rfl (by first | exact trivial | (simp only [true_and, eq_self, or_true, true_or, and_true, yu, ya, reduceIte, Nat.reduceEqDiff, Int32.reduceToInt, Int.toNat_natCast, Int.reduceToNat]; omega) | decide | (simp; done) | (simp; omega)) ?_
      try simp only [List.map_cons, List.map_nil, List.length_cons, List.length_nil, ylr_s, ylr_0, Nat.reduceAdd, Nat.reduceSub, List.cons_append, List.nil_append, List.set_cons_zero, List.set_cons_succ, Option.toList_none, Option.toList_some, Int32.reduceToInt, yu, ya, reduceIte, Nat.reduceEqDiff, Int.toNat_natCast, Int.reduceToNat]
      refine ycV rfl rfl rfl k4 rfl kX9_hasRowOf iX9_hasRowOf rfl rfl rfl (Nat.le_of_ble_eq_true rfl) (fun v4 Y4 q4 => ?_)
      obtain ⟨rfl, rfl⟩ := q4
      refine ygo 99999 90 rfl rfl (by first | exact trivial | (simp only [true_and, eq_self, or_true, true_or, and_true, yu, ya, reduceIte, Nat.reduceEqDiff, Int32.reduceToInt, Int.toNat_natCast, Int.reduceToNat]; omega) | decide | (simp; done) | (simp; omega)) ?_
      try simp only [List.map_cons, List.map_nil, List.length_cons, List.length_nil, ylr_s, ylr_0, Nat.reduceAdd, Nat.reduceSub, List.cons_append, List.nil_append, List.set_cons_zero, List.set_cons_succ, Option.toList_none, Option.toList_some, Int32.reduceToInt, yu, ya, reduceIte, Nat.reduceEqDiff, Int.toNat_natCast, Int.reduceToNat]
      refine yi_ifeq rfl (by first | exact yr_t _ | exact yr_b _ | (unfold yr; omega)) (fun c4 => ?_) (fun c4 => ?_)
      · rw [bInt_z] at c4
        exact no (by rw [h12, c4]; simp)
      rw [bInt_z, Bool.not_eq_false] at c4
      exact yes (by rw [hB, c3, c4]; simp)
    refine ygo 99999 90 rfl rfl (by first | exact trivial | (simp only [true_and, eq_self, or_true, true_or, and_true, yu, ya, reduceIte, Nat.reduceEqDiff, Int32.reduceToInt, Int.toNat_natCast, Int.reduceToNat]; omega) | decide | (simp; done) | (simp; omega)) ?_
    try simp only [List.map_cons, List.map_nil, List.length_cons, List.length_nil, ylr_s, ylr_0, Nat.reduceAdd, Nat.reduceSub, List.cons_append, List.nil_append, List.set_cons_zero, List.set_cons_succ, Option.toList_none, Option.toList_some, Int32.reduceToInt, yu, ya, reduceIte, Nat.reduceEqDiff, Int.toNat_natCast, Int.reduceToNat]
    refine ycV rfl rfl rfl k1 rfl kX9_seals iX9_seals rfl rfl rfl (Nat.le_of_ble_eq_true rfl) (fun v1 Y1 q1 => ?_)
    obtain ⟨rfl, rfl⟩ := q1
    refine ygo 99999 90 rfl rfl (by first | exact trivial | (simp only [true_and, eq_self, or_true, true_or, and_true, yu, ya, reduceIte, Nat.reduceEqDiff, Int32.reduceToInt, Int.toNat_natCast, Int.reduceToNat]; omega) | decide | (simp; done) | (simp; omega)) ?_
    try simp only [List.map_cons, List.map_nil, List.length_cons, List.length_nil, ylr_s, ylr_0, Nat.reduceAdd, Nat.reduceSub, List.cons_append, List.nil_append, List.set_cons_zero, List.set_cons_succ, Option.toList_none, Option.toList_some, Int32.reduceToInt, yu, ya, reduceIte, Nat.reduceEqDiff, Int.toNat_natCast, Int.reduceToNat]
    refine yi_ifeq rfl (by first | exact yr_t _ | exact yr_b _ | (unfold yr; omega)) (fun c1 => ?_) (fun c1 => ?_)
    · rw [bInt_z] at c1
      exact second (by rw [c1]; rfl)
    rw [bInt_z, Bool.not_eq_false] at c1
    refine ygo 99999 90 rfl rfl (by first | exact trivial | (simp only [true_and, eq_self, or_true, true_or, and_true, yu, ya, reduceIte, Nat.reduceEqDiff, Int32.reduceToInt, Int.toNat_natCast, Int.reduceToNat]; omega) | decide | (simp; done) | (simp; omega)) ?_
    try simp only [List.map_cons, List.map_nil, List.length_cons, List.length_nil, ylr_s, ylr_0, Nat.reduceAdd, Nat.reduceSub, List.cons_append, List.nil_append, List.set_cons_zero, List.set_cons_succ, Option.toList_none, Option.toList_some, Int32.reduceToInt, yu, ya, reduceIte, Nat.reduceEqDiff, Int.toNat_natCast, Int.reduceToNat]
    refine ycV rfl rfl rfl k2 rfl kX9_hasRowOf iX9_hasRowOf rfl rfl rfl (Nat.le_of_ble_eq_true rfl) (fun v2 Y2 q2 => ?_)
    obtain ⟨rfl, rfl⟩ := q2
    refine ygo 99999 90 rfl rfl (by first | exact trivial | (simp only [true_and, eq_self, or_true, true_or, and_true, yu, ya, reduceIte, Nat.reduceEqDiff, Int32.reduceToInt, Int.toNat_natCast, Int.reduceToNat]; omega) | decide | (simp; done) | (simp; omega)) ?_
    try simp only [List.map_cons, List.map_nil, List.length_cons, List.length_nil, ylr_s, ylr_0, Nat.reduceAdd, Nat.reduceSub, List.cons_append, List.nil_append, List.set_cons_zero, List.set_cons_succ, Option.toList_none, Option.toList_some, Int32.reduceToInt, yu, ya, reduceIte, Nat.reduceEqDiff, Int.toNat_natCast, Int.reduceToNat]
    refine yi_ifne rfl (by first | exact yr_t _ | exact yr_b _ | (unfold yr; omega)) (fun c2 => ?_) (fun c2 => ?_)
    · rw [bInt_z, Bool.not_eq_false] at c2
      exact yes (by rw [hB, c1, c2]; simp)
    · have c2' : B2 = false := by
        rw [← bInt_z]; omega
      exact second (by rw [c2']; simp)
set_option maxRecDepth 100000 in
set_option maxHeartbeats 2000000 in
theorem l_sg2 {G : xG} {d a e : Nat} {ez : Int} {K : cV} {L : sL} {S : Int32} {f : Nat → Int} {A : Nat → List Int32} {R : Int32} (h : mS L (f, A)) (hk : okS L) (he : mEc e K A) (hez : ez = e) (he12 : e < 12) (hK : okK K) (hs : sn A (sbit S)) : ∀ (n g : Nat) (gz : Int) (x3 : Option yv), g + n = 16 → gz = g → least (fun g => sany (nI g) K S L 0) n g = R →
    yw G (d + 1) a mX9_sealedGroup 7 [some (.inr 0), some (.inl ez), some (.inl gz), x3] [] (f, A) (fun w Y' => w = some (.inl R.toInt) ∧ Y' = (f, A)) := by
  intro n
  induction n with
  | zero =>
    intro g gz x3 hn hgz hR
    have hR' : R = -1 := hR.symm
    refine ygo 99999 90 rfl rfl (by first | exact trivial | (simp only [true_and, eq_self, or_true, true_or, and_true, yu, ya, reduceIte, Nat.reduceEqDiff, Int32.reduceToInt, Int.toNat_natCast, Int.reduceToNat]; omega) | decide | (simp; done) | (simp; omega)) ?_
    try simp only [List.map_cons, List.map_nil, List.length_cons, List.length_nil, ylr_s, ylr_0, Nat.reduceAdd, Nat.reduceSub, List.cons_append, List.nil_append, List.set_cons_zero, List.set_cons_succ, Option.toList_none, Option.toList_some, Int32.reduceToInt, yu, ya, reduceIte, Nat.reduceEqDiff, Int.toNat_natCast, Int.reduceToNat]
    refine yi_icmpge rfl (by refine ⟨?_, ?_⟩ <;> first | exact yr_t _ | exact yr_b _ | (unfold yr; omega)) (fun c => ?_) (fun c => ?_)
    · refine ygo 99999 90 rfl rfl (by first | exact trivial | (simp only [true_and, eq_self, or_true, true_or, and_true, yu, ya, reduceIte, Nat.reduceEqDiff, Int32.reduceToInt, Int.toNat_natCast, Int.reduceToNat]; omega) | decide | (simp; done) | (simp; omega)) ?_
      try simp only [List.map_cons, List.map_nil, List.length_cons, List.length_nil, ylr_s, ylr_0, Nat.reduceAdd, Nat.reduceSub, List.cons_append, List.nil_append, List.set_cons_zero, List.set_cons_succ, Option.toList_none, Option.toList_some, Int32.reduceToInt, yu, ya, reduceIte, Nat.reduceEqDiff, Int.toNat_natCast, Int.reduceToNat]
      refine yi_ret_i rfl rfl ⟨by rw [hR']; rfl, rfl⟩
    · omega
  | succ n ih =>
    intro g gz x3 hn hgz hR
    have hR' : (if sany (nI g) K S L 0 then nI g else least (fun g => sany (nI g) K S L 0) n (g + 1)) = R := hR
    refine ygo 99999 90 rfl rfl (by first | exact trivial | (simp only [true_and, eq_self, or_true, true_or, and_true, yu, ya, reduceIte, Nat.reduceEqDiff, Int32.reduceToInt, Int.toNat_natCast, Int.reduceToNat]; omega) | decide | (simp; done) | (simp; omega)) ?_
    try simp only [List.map_cons, List.map_nil, List.length_cons, List.length_nil, ylr_s, ylr_0, Nat.reduceAdd, Nat.reduceSub, List.cons_append, List.nil_append, List.set_cons_zero, List.set_cons_succ, Option.toList_none, Option.toList_some, Int32.reduceToInt, yu, ya, reduceIte, Nat.reduceEqDiff, Int.toNat_natCast, Int.reduceToNat]
    refine yi_icmpge rfl (by refine ⟨?_, ?_⟩ <;> first | exact yr_t _ | exact yr_b _ | (unfold yr; omega)) (fun c => ?_) (fun c => ?_)
    · omega
    · refine ygo 15 90 rfl rfl (by first | exact trivial | (simp only [true_and, eq_self, or_true, true_or, and_true, yu, ya, reduceIte, Nat.reduceEqDiff, Int32.reduceToInt, Int.toNat_natCast, Int.reduceToNat]; omega) | decide | (simp; done) | (simp; omega)) ?_
      try simp only [List.map_cons, List.map_nil, List.length_cons, List.length_nil, ylr_s, ylr_0, Nat.reduceAdd, Nat.reduceSub, List.cons_append, List.nil_append, List.set_cons_zero, List.set_cons_succ, Option.toList_none, Option.toList_some, Int32.reduceToInt, yu, ya, reduceIte, Nat.reduceEqDiff, Int.toNat_natCast, Int.reduceToNat]
      refine l_sg1 (g := g) h hk he hez he12 hK hs hgz (by omega) (fun ht => ?_) (fun hf x3 => ?_) L.length 0 0 (by omega) rfl rfl
      · rw [if_pos ht] at hR'
        exact ⟨by rw [← hR', i_n (by omega), hgz], rfl⟩
      · rw [if_neg (by rw [hf]; decide)] at hR'
        exact ih (g + 1) _ _ (by omega) (by omega) hR'
theorem mS.fk {L : sL} {f : Nat → Int} {A A' : Nat → List Int32} (h : mS L (f, A)) (g : ∀ k, 36 ≤ k → k ≤ 49 → A' k = A k) : mS L (f, A') := by
  refine ⟨h.1, fun e x hx => ?_⟩
  have := h.2 e x hx
  unfold mE at this ⊢
  dsimp only at this ⊢
  rw [g 36 (by omega) (by omega), g 37 (by omega) (by omega), g 38 (by omega) (by omega), g 39 (by omega) (by omega), g 40 (by omega) (by omega), g 41 (by omega) (by omega), g 42 (by omega) (by omega), g 43 (by omega) (by omega), g 44 (by omega) (by omega), g 45 (by omega) (by omega), g 46 (by omega) (by omega), g 47 (by omega) (by omega), g 48 (by omega) (by omega), g 49 (by omega) (by omega)]
  exact this
set_option maxRecDepth 100000 in
set_option maxHeartbeats 2000000 in
theorem cm_sealedGroup {G : xG} {d a : Nat} {ez : Int} {K : cV} {ms : List Int32} {f : Nat → Int} {A : Nat → List Int32} {L : sL} (h : mS L (f, A)) (hk : okS L) (hMk : okM L) (hl : L.length < 12) (hez : ez = L.length) (h40 : (A 40).getD L.length 0 = nI ms.length) (h41 : ∀ (i : Nat) (m : Int32), ms[i]? = some m → (A 41).getD (4 * L.length + i) 0 = m) (hm4 : ms.length ≤ 4) (hin : inL L ms) (he : mEc L.length K A) (hK : okK K) : ym G (d + 1) a mX9_sealedGroup [.inr 0, .inl ez] (f, A) (fun w Y' => w = some (.inl (least (fun g => sany (nI g) K (smask L ms) L 0) 16 0).toInt) ∧ Y'.1 = f ∧ fk1 51 A Y'.2) := by
  refine ym_at 4 rfl (by decide) (Nat.le_of_ble_eq_true rfl) tX9_sealedGroup_ok ?_
  try simp only [List.map_cons, List.map_nil, List.length_cons, List.length_nil, ylr_s, ylr_0, Nat.reduceAdd, Nat.reduceSub, List.cons_append, List.nil_append, List.set_cons_zero, List.set_cons_succ, Option.toList_none, Option.toList_some, Int32.reduceToInt, yu, ya, reduceIte, Nat.reduceEqDiff, Int.toNat_natCast, Int.reduceToNat]
  refine ygo 99999 90 rfl rfl (by first | exact trivial | (simp only [true_and, eq_self, or_true, true_or, and_true, yu, ya, reduceIte, Nat.reduceEqDiff, Int32.reduceToInt, Int.toNat_natCast, Int.reduceToNat]; omega) | decide | (simp; done) | (simp; omega)) ?_
  try simp only [List.map_cons, List.map_nil, List.length_cons, List.length_nil, ylr_s, ylr_0, Nat.reduceAdd, Nat.reduceSub, List.cons_append, List.nil_append, List.set_cons_zero, List.set_cons_succ, Option.toList_none, Option.toList_some, Int32.reduceToInt, yu, ya, reduceIte, Nat.reduceEqDiff, Int.toNat_natCast, Int.reduceToNat]
  refine ycV rfl rfl rfl (cm_findSeen h hk hMk hl hez h40 h41 hm4 hin) rfl kX9_findSeen iX9_findSeen rfl rfl rfl (Nat.le_of_ble_eq_true rfl) (fun v1 Y1 q1 => ?_)
  obtain ⟨rfl, r1, r2, r3⟩ := q1
  obtain ⟨f1, A1⟩ := Y1
  dsimp only at r1 r2 r3
  subst r1
  have hm1 : mS L (f1, A1) := h.fk (fun k h1 h2 => r2 k (by omega))
  have he1 : mEc L.length K A1 := by
    unfold mEc at he ⊢
    rw [r2 42 (by omega), r2 43 (by omega), r2 44 (by omega), r2 45 (by omega)]
    exact he
  refine ygo 7 90 rfl rfl (by first | exact trivial | (simp only [true_and, eq_self, or_true, true_or, and_true, yu, ya, reduceIte, Nat.reduceEqDiff, Int32.reduceToInt, Int.toNat_natCast, Int.reduceToNat]; omega) | decide | (simp; done) | (simp; omega)) ?_
  try simp only [List.map_cons, List.map_nil, List.length_cons, List.length_nil, ylr_s, ylr_0, Nat.reduceAdd, Nat.reduceSub, List.cons_append, List.nil_append, List.set_cons_zero, List.set_cons_succ, Option.toList_none, Option.toList_some, Int32.reduceToInt, yu, ya, reduceIte, Nat.reduceEqDiff, Int.toNat_natCast, Int.reduceToNat]
  exact (l_sg2 hm1 hk he1 hez hl hK r3 16 0 0 _ (by omega) rfl rfl).mono (fun w Y' hq => ⟨hq.1, by rw [hq.2], by rw [hq.2]; exact r2⟩)
