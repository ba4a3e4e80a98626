set_option maxRecDepth 100000 in
set_option maxHeartbeats 2000000 in
theorem cm_signer {G : xG} {d a j : Nat} {x : pP} {sec : Int32} {K : cV} {ln sz : List Int32} {Z : pZ} {f : Nat → Int} {A : Nat → List Int32} (h : mR Z (f, A)) (hk : okP Z.2.2.1) (hj : Z.2.2.1[j]? = some x) (l1 : ln.length = 8) (l2 : sz.length = 8) : ym G (d + 6) a mX9_signer [.inr 0, .inl (nI j).toInt, .inl sec.toInt] (f, A) (fun w Y' => w = some (.inl (if (parse x.2.2 K ln sz).2.1 = none ∧ sgnOk x.2.2 sec (parse x.2.2 K ln sz) = true then 1 else 0)) ∧ mR Z Y' ∧ Y'.1 23 = j ∧ ((parse x.2.2 K ln sz).2.1 = none → HD x.2.2 (headS x.2.2 K ln sz) Y'.1)) := by
  have hP := h.2.1
  have h19 : f 19 = Z.2.2.1.length := hP.1
  have hl := hk.1
  have hjl := (List.getElem?_eq_some_iff.mp hj).1
  have hj16 : j < 16 := by omega
  have hjz : (nI j).toInt = j := i_n (by omega)
  have hx := hk.2 x (List.mem_of_getElem? hj)
  have hpk : pkd Z j x.2.2 := ⟨x, hj, rfl, hj16, hx.2.1, hx.2.2⟩
  have hcm := cm_wrong (G := G) (d := d + 1) (a := a) (K := K) h hpk hjz l1 l2
  have hpt := parse_t x.2.2 K ln sz
  unfold sgnOk
  generalize parse x.2.2 K ln sz = P at hcm hpt ⊢
  rw [hpt]
  generalize headS x.2.2 K ln sz = H at hcm ⊢
  have hor := i_rng (oI P.2.1)
  refine ym_at 7 rfl (by decide) (Nat.le_of_ble_eq_true rfl) tX9_signer_ok ?_
  try simp only [List.map_cons, List.map_nil, List.length_cons, List.length_nil, ylr_s, ylr_0, Nat.reduceAdd, Nat.reduceSub, List.cons_append, List.nil_append, List.set_cons_zero, List.set_cons_succ, Option.toList_none, Option.toList_some, Int32.reduceToInt, yu, ya, reduceIte, Nat.reduceEqDiff, Int.toNat_natCast, Int.reduceToNat]
  refine ygo 99999 90 rfl rfl (by first | exact trivial | (simp only [true_and, eq_self, or_true, true_or, and_true, yu, ya, reduceIte, Nat.reduceEqDiff, Int32.reduceToInt, Int.toNat_natCast, Int.reduceToNat]; omega) | decide | (simp; done) | (simp; omega)) ?_
  try simp only [List.map_cons, List.map_nil, List.length_cons, List.length_nil, ylr_s, ylr_0, Nat.reduceAdd, Nat.reduceSub, List.cons_append, List.nil_append, List.set_cons_zero, List.set_cons_succ, Option.toList_none, Option.toList_some, Int32.reduceToInt, yu, ya, reduceIte, Nat.reduceEqDiff, Int.toNat_natCast, Int.reduceToNat]
  refine ycV rfl rfl rfl (cm_isPack (yr_t _) (mP_r hP hl)) rfl kX9_isPack iX9_isPack rfl rfl rfl (Nat.le_of_ble_eq_true rfl) (fun v1 Y1 q1 => ?_)
  obtain ⟨rfl, rfl⟩ := q1
  refine ygo 99999 90 rfl rfl (by first | exact trivial | (simp only [true_and, eq_self, or_true, true_or, and_true, yu, ya, reduceIte, Nat.reduceEqDiff, Int32.reduceToInt, Int.toNat_natCast, Int.reduceToNat]; omega) | decide | (simp; done) | (simp; omega)) ?_
  try simp only [List.map_cons, List.map_nil, List.length_cons, List.length_nil, ylr_s, ylr_0, Nat.reduceAdd, Nat.reduceSub, List.cons_append, List.nil_append, List.set_cons_zero, List.set_cons_succ, Option.toList_none, Option.toList_some, Int32.reduceToInt, yu, ya, reduceIte, Nat.reduceEqDiff, Int.toNat_natCast, Int.reduceToNat]
  refine yi_ifne rfl (by first | exact yr_t _ | exact yr_b _ | (unfold yr; omega)) (fun c1 => ?_) (fun c1 => ?_)
  · refine ygo 99999 90 rfl rfl (by first | exact trivial | (simp only [true_and, eq_self, or_true, true_or, and_true, yu, ya, reduceIte, Nat.reduceEqDiff, Int32.reduceToInt, Int.toNat_natCast, Int.reduceToNat]; omega) | decide | (simp; done) | (simp; omega)) ?_
    try simp only [List.map_cons, List.map_nil, List.length_cons, List.length_nil, ylr_s, ylr_0, Nat.reduceAdd, Nat.reduceSub, List.cons_append, List.nil_append, List.set_cons_zero, List.set_cons_succ, Option.toList_none, Option.toList_some, Int32.reduceToInt, yu, ya, reduceIte, Nat.reduceEqDiff, Int.toNat_natCast, Int.reduceToNat]
    refine ycV rfl rfl rfl hcm rfl kX9_wrong iX9_wrong rfl rfl rfl (Nat.le_of_ble_eq_true rfl) (fun v2 Y2 q2 => ?_)
    obtain ⟨rfl, hR, h23, -, hD, hps0⟩ := q2
    have hps : ∀ w, P.2.1 = some w → w < 2 ^ 31 := fun w hw => by have := hps0 w hw; omega
    have hoi : (oI P.2.1).toInt < 0 ↔ P.2.1 = none := by
      have := oI_lt hps
      rw [i_lt] at this
      exact this
    obtain ⟨f2, A2⟩ := Y2
    refine ygo 99999 90 rfl rfl (by first | exact trivial | (simp only [true_and, eq_self, or_true, true_or, and_true, yu, ya, reduceIte, Nat.reduceEqDiff, Int32.reduceToInt, Int.toNat_natCast, Int.reduceToNat]; omega) | decide | (simp; done) | (simp; omega)) ?_
    try simp only [List.map_cons, List.map_nil, List.length_cons, List.length_nil, ylr_s, ylr_0, Nat.reduceAdd, Nat.reduceSub, List.cons_append, List.nil_append, List.set_cons_zero, List.set_cons_succ, Option.toList_none, Option.toList_some, Int32.reduceToInt, yu, ya, reduceIte, Nat.reduceEqDiff, Int.toNat_natCast, Int.reduceToNat]
    refine yi_ifge rfl (by first | exact yr_t _ | exact yr_b _ | (unfold yr; omega)) (fun c2 => ?_) (fun c2 => ?_)
    · rw [if_neg (fun hc => by have := hoi.mpr hc.1; omega)]
      refine ygo 99999 90 rfl rfl (by first | exact trivial | (simp only [true_and, eq_self, or_true, true_or, and_true, yu, ya, reduceIte, Nat.reduceEqDiff, Int32.reduceToInt, Int.toNat_natCast, Int.reduceToNat]; omega) | decide | (simp; done) | (simp; omega)) ?_
      try simp only [List.map_cons, List.map_nil, List.length_cons, List.length_nil, ylr_s, ylr_0, Nat.reduceAdd, Nat.reduceSub, List.cons_append, List.nil_append, List.set_cons_zero, List.set_cons_succ, Option.toList_none, Option.toList_some, Int32.reduceToInt, yu, ya, reduceIte, Nat.reduceEqDiff, Int.toNat_natCast, Int.reduceToNat]
      refine yi_ret_i rfl rfl ⟨rfl, hR, h23, hD⟩
    · have hn := hoi.mp (by omega)
      have hT := (hD hn).1
      have h5 : 5 ≤ x.2.2.length := by
        obtain ⟨-, -, m, hm, -⟩ := hT
        exact (List.getElem?_eq_some_iff.mp hm).1
      refine ygo 99999 90 rfl rfl (by first | exact trivial | (simp only [true_and, eq_self, or_true, true_or, and_true, yu, ya, reduceIte, Nat.reduceEqDiff, Int32.reduceToInt, Int.toNat_natCast, Int.reduceToNat]; omega) | decide | (simp; done) | (simp; omega)) ?_
      try simp only [List.map_cons, List.map_nil, List.length_cons, List.length_nil, ylr_s, ylr_0, Nat.reduceAdd, Nat.reduceSub, List.cons_append, List.nil_append, List.set_cons_zero, List.set_cons_succ, Option.toList_none, Option.toList_some, Int32.reduceToInt, yu, ya, reduceIte, Nat.reduceEqDiff, Int.toNat_natCast, Int.reduceToNat]
      refine ycV rfl rfl rfl (cm_isSigned hR h23 hpk hT) rfl kX9_isSigned iX9_isSigned rfl rfl rfl (Nat.le_of_ble_eq_true rfl) (fun v3 Y3 q3 => ?_)
      obtain ⟨rfl, rfl⟩ := q3
      have hsp : (if H.2.2.1.1.2.2.2 = 0 then (0 : Int) else 1) = 0 ↔ H.2.2.1.1.2.2.2 = 0 := by split <;> simp_all
      refine yi_ifne rfl (by unfold yr; split <;> omega) (fun c3 => ?_) (fun c3 => ?_)
      · have c4 : H.2.2.1.1.2.2.2 ≠ 0 := fun hc => c3 (hsp.mpr hc)
        have h21 : (A2 21).getD j 0 = nI x.2.2.length := (hR.2.1.2 j x hj).1
        have hlen : ((A2 21).getD j 0).toInt = x.2.2.length := by rw [h21, i_n (by omega)]
        have hpt2 : (nI j).toInt.toNat = j := by omega
        have hnum := num4_eq (r := x.2.2) (p := x.2.2.length - 4) (S := ssum sec (x.2.2.take (x.2.2.length - 4))) (by omega) (by omega) hx.2.2
        refine ygo 99999 90 rfl rfl (by first | exact trivial | (simp only [true_and, eq_self, or_true, true_or, and_true, yu, ya, reduceIte, Nat.reduceEqDiff, Int32.reduceToInt, Int.toNat_natCast, Int.reduceToNat]; omega) | decide | (simp; done) | (simp; omega)) ?_
        try simp only [List.map_cons, List.map_nil, List.length_cons, List.length_nil, ylr_s, ylr_0, Nat.reduceAdd, Nat.reduceSub, List.cons_append, List.nil_append, List.set_cons_zero, List.set_cons_succ, Option.toList_none, Option.toList_some, Int32.reduceToInt, yu, ya, reduceIte, Nat.reduceEqDiff, Int.toNat_natCast, Int.reduceToNat]
        refine ycV rfl rfl rfl (cm_sumOf (s0 := sec) (n := x.2.2.length - 4) hR h23 hpk (by rw [hpt2, hlen]; omega) (by omega) rfl) rfl kX9_sumOf iX9_sumOf rfl rfl rfl (Nat.le_of_ble_eq_true rfl) (fun v4 Y4 q4 => ?_)
        obtain ⟨rfl, rfl⟩ := q4
        refine ygo 50 90 rfl rfl (by first | exact trivial | (simp only [true_and, eq_self, or_true, true_or, and_true, yu, ya, reduceIte, Nat.reduceEqDiff, Int32.reduceToInt, Int.toNat_natCast, Int.reduceToNat]; omega) | decide | (simp; done) | (simp; omega)) ?_
        try simp only [List.map_cons, List.map_nil, List.length_cons, List.length_nil, ylr_s, ylr_0, Nat.reduceAdd, Nat.reduceSub, List.cons_append, List.nil_append, List.set_cons_zero, List.set_cons_succ, Option.toList_none, Option.toList_some, Int32.reduceToInt, yu, ya, reduceIte, Nat.reduceEqDiff, Int.toNat_natCast, Int.reduceToNat]
        refine (l_signer (S := ssum sec (x.2.2.take (x.2.2.length - 4))) hR h23 hpk (by omega) (by rw [hpt2, hlen]) 4 0 1 0 (by omega) rfl (by simp [eq4, bInt])).mono (fun w Y' hq => ?_)
        obtain ⟨rfl, rfl⟩ := hq
        refine ⟨?_, hR, h23, hD⟩
        cases he : eq4 x.2.2 (x.2.2.length - 4) (ssum sec (x.2.2.take (x.2.2.length - 4))) 4 with
        | true => rw [if_pos ⟨hn, decide_eq_true ⟨c4, hnum.mpr he⟩⟩]; rfl
        | false => rw [if_neg (fun hc => by have := (of_decide_eq_true hc.2).2; rw [hnum, he] at this; cases this)]; rfl
      · have c4 : H.2.2.1.1.2.2.2 = 0 := hsp.mp (by omega)
        rw [if_neg (fun hc => (of_decide_eq_true hc.2).1 c4)]
        refine ygo 99999 90 rfl rfl (by first | exact trivial | (simp only [true_and, eq_self, or_true, true_or, and_true, yu, ya, reduceIte, Nat.reduceEqDiff, Int32.reduceToInt, Int.toNat_natCast, Int.reduceToNat]; omega) | decide | (simp; done) | (simp; omega)) ?_
        try simp only [List.map_cons, List.map_nil, List.length_cons, List.length_nil, ylr_s, ylr_0, Nat.reduceAdd, Nat.reduceSub, List.cons_append, List.nil_append, List.set_cons_zero, List.set_cons_succ, Option.toList_none, Option.toList_some, Int32.reduceToInt, yu, ya, reduceIte, Nat.reduceEqDiff, Int.toNat_natCast, Int.reduceToNat]
        refine yi_ret_i rfl rfl ⟨rfl, hR, h23, hD⟩
  · omega
theorem mR.fk {Z : pZ} {f : Nat → Int} {A A' : Nat → List Int32} (h : mR Z (f, A)) (g : ∀ k, k ≤ 49 → A' k = A k) : mR Z (f, A') := by
  obtain ⟨a1, a2, a3, a4, a5, a6⟩ := h
  refine ⟨?_, ?_, ?_, ?_, a5.fk (fun k _ hk => g k hk), a6⟩
  · unfold mD at a1 ⊢
    dsimp only at a1 ⊢
    rw [g 5 (by omega), g 6 (by omega), g 7 (by omega), g 9 (by omega), g 11 (by omega), g 12 (by omega), g 13 (by omega), g 14 (by omega)]
    exact a1
  · unfold mP at a2 ⊢
    dsimp only at a2 ⊢
    rw [g 20 (by omega), g 21 (by omega)]
    exact a2
  · unfold mT at a3 ⊢
    dsimp only at a3 ⊢
    rw [g 29 (by omega)]
    exact a3
  · unfold mB at a4 ⊢
    dsimp only at a4 ⊢
    rw [g 31 (by omega), g 32 (by omega), g 33 (by omega), g 34 (by omega)]
    exact a4
theorem laid.fk {n : Nat} {K : cV} {ms : List Int32} {A A' : Nat → List Int32} (h : laid n K ms A) (g : ∀ k, k ≤ 49 → A' k = A k) : laid n K ms A' := by
  unfold laid at h ⊢
  rw [g 36 (by omega), g 37 (by omega), g 38 (by omega), g 40 (by omega), g 41 (by omega), g 42 (by omega), g 43 (by omega), g 44 (by omega), g 45 (by omega), g 46 (by omega), g 47 (by omega)]
  exact h
theorem laid.mEc {n : Nat} {K : cV} {ms : List Int32} {A : Nat → List Int32} (h : laid n K ms A) : mEc n K A := ⟨h.2.2.2.2.2.1, h.2.2.2.2.2.2.1, h.2.2.2.2.2.2.2.1, fun i x hx => (h.2.2.2.2.2.2.2.2 i x hx).1⟩
/-- one entry more -/
theorem mR.add {Z : pZ} {K : cV} {ms : List Int32} {q c : Nat} {sm : Int32} {f : Nat → Int} {A : Nat → List Int32} {z : Int} {n : Nat} (h : mR Z (f, A)) (hn : n = Z.2.2.2.2.2.1.length) (hl : laid n K ms A) (l39 : (A 39).length = 12) (l48 : (A 48).length = 12) (hn12 : n < 12) (hz : z = n + 1) : mR (zL Z (Z.2.2.2.2.2.1 ++ [(q, c, (K, ms, sm, 0, []))])) (yu f 35 z, ya (ya A 39 ((A 39).set n 0)) 48 ((A 48).set n 0)) := by
  obtain ⟨a1, a2, a3, a4, a5, a6⟩ := h
  refine ⟨a1, a2, a3, a4, ⟨?_, fun e x hx => ?_⟩, a6⟩
  · show z = ((Z.2.2.2.2.2.1 ++ [(q, c, (K, ms, sm, 0, []))]).length : Nat)
    rw [List.length_append, List.length_singleton, hz, hn]
    push_cast
    rfl
  · rcases snoc_get (show (Z.2.2.2.2.2.1 ++ [(q, c, (K, ms, sm, 0, []))])[e]? = some x from hx) with ⟨hi, hx'⟩ | ⟨rfl, rfl⟩
    · have hE := a5.2 e x hx'
      unfold mE at hE ⊢
      obtain ⟨b1, b2, b3, b4, b5, b6, b7, b8, b9, b10, b11, b12⟩ := hE
      refine ⟨b1, b2, b3, ?_, b5, b6, b7, b8, b9, b10, ?_, b12⟩
      · show ((A 39).set n 0).getD e 0 = _
        rw [gset_ne (by omega)]
        exact b4
      · show ((A 48).set n 0).getD e 0 = _
        rw [gset_ne (by omega)]
        exact b11
    · rw [hn] at hl hn12
      obtain ⟨b1, b2, b3, b4, b5, b6, b7, b8, b9⟩ := hl
      subst hn
      refine ⟨b1, b2, b3, ?_, b4, b5, b6, b7, b8, b9, ?_, fun i m hm => by simp at hm⟩
      · show ((A 39).set _ 0).getD _ 0 = _
        rw [gset_eq (by omega)]
      · show ((A 48).set _ 0).getD _ 0 = _
        rw [gset_eq (by omega)]
        rfl
