set_option maxRecDepth 100000 in
set_option maxHeartbeats 2000000 in
theorem o_signer {G : xG} {d a : Nat} {p sec : Int32} {pf : List Int32 → pS} {Z : pZ} {f : Nat → Int} {A : Nat → List Int32} (h : mR Z (f, A)) (hk : okP Z.2.2.1) (hh : hears pf) : ym G (d + 20) a mX9_signer [.inr 0, .inl p.toInt, .inl sec.toInt] (f, A) (ypost (F_signer p sec pf Z)) := by
  have hP := h.2.1
  have h19 : f 19 = Z.2.2.1.length := hP.1
  have hl := hk.1
  obtain ⟨K, ln, sz, l1, l2, hpf⟩ := hh
  unfold F_signer
  cases hp : pget Z.2.2.1 p with
  | none =>
    have hn := pget_n hp
    refine ym_at 7 rfl (by decide) (Nat.le_of_ble_eq_true rfl) tX9_signer_ok ?_
    try simp only [List.map_cons, List.map_nil, List.length_cons, List.length_nil, ylr_s, ylr_0, Nat.reduceAdd, Nat.reduceSub, List.cons_append, List.nil_append, List.set_cons_zero, List.set_cons_succ, Option.toList_none, Option.toList_some, Int32.reduceToInt, yu, ya, reduceIte, Nat.reduceEqDiff, Int.toNat_natCast, Int.reduceToNat]
    refine ygo 99999 90 rfl rfl (by first | exact trivial | (simp only [true_and, eq_self, or_true, true_or, and_true, yu, ya, reduceIte, Nat.reduceEqDiff, Int32.reduceToInt, Int.toNat_natCast, Int.reduceToNat]; omega) | decide | (simp; done) | (simp; omega)) ?_
    try simp only [List.map_cons, List.map_nil, List.length_cons, List.length_nil, ylr_s, ylr_0, Nat.reduceAdd, Nat.reduceSub, List.cons_append, List.nil_append, List.set_cons_zero, List.set_cons_succ, Option.toList_none, Option.toList_some, Int32.reduceToInt, yu, ya, reduceIte, Nat.reduceEqDiff, Int.toNat_natCast, Int.reduceToNat]
    refine ycV rfl rfl rfl (cm_isPack (yr_t _) (mP_r hP hl)) rfl kX9_isPack iX9_isPack rfl rfl rfl (Nat.le_of_ble_eq_true rfl) (fun v1 Y1 q1 => ?_)
    obtain ⟨rfl, rfl⟩ := q1
    refine ygo 99999 90 rfl rfl (by first | exact trivial | (simp only [true_and, eq_self, or_true, true_or, and_true, yu, ya, reduceIte, Nat.reduceEqDiff, Int32.reduceToInt, Int.toNat_natCast, Int.reduceToNat]; omega) | decide | (simp; done) | (simp; omega)) ?_
    try simp only [List.map_cons, List.map_nil, List.length_cons, List.length_nil, ylr_s, ylr_0, Nat.reduceAdd, Nat.reduceSub, List.cons_append, List.nil_append, List.set_cons_zero, List.set_cons_succ, Option.toList_none, Option.toList_some, Int32.reduceToInt, yu, ya, reduceIte, Nat.reduceEqDiff, Int.toNat_natCast, Int.reduceToNat]
    refine yi_ifne rfl (by first | exact yr_t _ | exact yr_b _ | (unfold yr; omega)) (fun c1 => ?_) (fun c1 => ?_)
    · omega
    · refine ygo 99999 90 rfl rfl (by first | exact trivial | (simp only [true_and, eq_self, or_true, true_or, and_true, yu, ya, reduceIte, Nat.reduceEqDiff, Int32.reduceToInt, Int.toNat_natCast, Int.reduceToNat]; omega) | decide | (simp; done) | (simp; omega)) ?_
      try simp only [List.map_cons, List.map_nil, List.length_cons, List.length_nil, ylr_s, ylr_0, Nat.reduceAdd, Nat.reduceSub, List.cons_append, List.nil_append, List.set_cons_zero, List.set_cons_succ, Option.toList_none, Option.toList_some, Int32.reduceToInt, yu, ya, reduceIte, Nat.reduceEqDiff, Int.toNat_natCast, Int.reduceToNat]
      refine yi_ret_i rfl rfl (ypost.same h rfl rfl)
  | some x =>
    obtain ⟨j, rfl, hj, hj16, hjn⟩ := pget_s hp hl
    have hjl := (List.getElem?_eq_some_iff.mp hj).1
    have hjz : (nI j).toInt = j := i_n (by omega)
    have hx := hk.2 x (List.mem_of_getElem? hj)
    have hpk : pkd Z j x.2.2 := ⟨x, hj, rfl, hj16, hx.2.1, hx.2.2⟩
    have hcm := cm_wrong (G := G) (d := d + 15) (a := a) (K := K) h hpk hjz l1 l2
    have hpt := parse_t x.2.2 K ln sz
    dsimp only
    rw [hpf]
    unfold sgnOk
    generalize parse x.2.2 K ln sz = P at hcm hpt
    rw [hpt]
    generalize headS x.2.2 K ln sz = H at hcm
    have hor := i_rng (oI P.2.1)
    refine ym_at 7 rfl (by decide) (Nat.le_of_ble_eq_true rfl) tX9_signer_ok ?_
    try simp only [List.map_cons, List.map_nil, List.length_cons, List.length_nil, ylr_s, ylr_0, Nat.reduceAdd, Nat.reduceSub, List.cons_append, List.nil_append, List.set_cons_zero, List.set_cons_succ, Option.toList_none, Option.toList_some, Int32.reduceToInt, yu, ya, reduceIte, Nat.reduceEqDiff, Int.toNat_natCast, Int.reduceToNat]
    refine ygo 99999 90 rfl rfl (by first | exact trivial | (simp only [true_and, eq_self, or_true, true_or, and_true, yu, ya, reduceIte, Nat.reduceEqDiff, Int32.reduceToInt, Int.toNat_natCast, Int.reduceToNat]; omega) | decide | (simp; done) | (simp; omega)) ?_
    try simp only [List.map_cons, List.map_nil, List.length_cons, List.length_nil, ylr_s, ylr_0, Nat.reduceAdd, Nat.reduceSub, List.cons_append, List.nil_append, List.set_cons_zero, List.set_cons_succ, Option.toList_none, Option.toList_some, Int32.reduceToInt, yu, ya, reduceIte, Nat.reduceEqDiff, Int.toNat_natCast, Int.reduceToNat]
    refine ycV rfl rfl rfl (cm_isPack (yr_t _) (mP_r hP hl)) rfl kX9_isPack iX9_isPack rfl rfl rfl (Nat.le_of_ble_eq_true rfl) (fun v1 Y1 q1 => ?_)
    obtain ⟨rfl, rfl⟩ := q1
    refine ygo 99999 90 rfl rfl (by first | exact trivial | (simp only [true_and, eq_self, or_true, true_or, and_true, yu, ya, reduceIte, Nat.reduceEqDiff, Int32.reduceToInt, Int.toNat_natCast, Int.reduceToNat]; omega) | decide | (simp; done) | (simp; omega)) ?_
    try simp only [List.map_cons, List.map_nil, List.length_cons, List.length_nil, ylr_s, ylr_0, Nat.reduceAdd, Nat.reduceSub, List.cons_append, List.nil_append, List.set_cons_zero, List.set_cons_succ, Option.toList_none, Option.toList_some, Int32.reduceToInt, yu, ya, reduceIte, Nat.reduceEqDiff, Int.toNat_natCast, Int.reduceToNat]
    refine yi_ifne rfl (by first | exact yr_t _ | exact yr_b _ | (unfold yr; omega)) (fun c1 => ?_) (fun c1 => ?_)
    · refine ygo 99999 90 rfl rfl (by first | exact trivial | (simp only [true_and, eq_self, or_true, true_or, and_true, yu, ya, reduceIte, Nat.reduceEqDiff, Int32.reduceToInt, Int.toNat_natCast, Int.reduceToNat]; omega) | decide | (simp; done) | (simp; omega)) ?_
      try simp only [List.map_cons, List.map_nil, List.length_cons, List.length_nil, ylr_s, ylr_0, Nat.reduceAdd, Nat.reduceSub, List.cons_append, List.nil_append, List.set_cons_zero, List.set_cons_succ, Option.toList_none, Option.toList_some, Int32.reduceToInt, yu, ya, reduceIte, Nat.reduceEqDiff, Int.toNat_natCast, Int.reduceToNat]
      refine ycV rfl rfl rfl hcm rfl kX9_wrong iX9_wrong rfl rfl rfl (Nat.le_of_ble_eq_true rfl) (fun v2 Y2 q2 => ?_)
      obtain ⟨rfl, hR, h23, -, hD, hps0⟩ := q2
      have hps : ∀ w, P.2.1 = some w → w < 2 ^ 31 := fun w hw => by have := hps0 w hw; omega
      have hoi : (oI P.2.1).toInt < 0 ↔ P.2.1 = none := by
        have := oI_lt hps
        rw [i_lt] at this
        exact this
      obtain ⟨f2, A2⟩ := Y2
      refine ygo 99999 90 rfl rfl (by first | exact trivial | (simp only [true_and, eq_self, or_true, true_or, and_true, yu, ya, reduceIte, Nat.reduceEqDiff, Int32.reduceToInt, Int.toNat_natCast, Int.reduceToNat]; omega) | decide | (simp; done) | (simp; omega)) ?_
      try simp only [List.map_cons, List.map_nil, List.length_cons, List.length_nil, ylr_s, ylr_0, Nat.reduceAdd, Nat.reduceSub, List.cons_append, List.nil_append, List.set_cons_zero, List.set_cons_succ, Option.toList_none, Option.toList_some, Int32.reduceToInt, yu, ya, reduceIte, Nat.reduceEqDiff, Int.toNat_natCast, Int.reduceToNat]
      refine yi_ifge rfl (by first | exact yr_t _ | exact yr_b _ | (unfold yr; omega)) (fun c2 => ?_) (fun c2 => ?_)
      · rw [if_neg (fun hc => by have := hoi.mpr hc.1; omega)]
        refine ygo 99999 90 rfl rfl (by first | exact trivial | (simp only [true_and, eq_self, or_true, true_or, and_true, yu, ya, reduceIte, Nat.reduceEqDiff, Int32.reduceToInt, Int.toNat_natCast, Int.reduceToNat]; omega) | decide | (simp; done) | (simp; omega)) ?_
        try simp only [List.map_cons, List.map_nil, List.length_cons, List.length_nil, ylr_s, ylr_0, Nat.reduceAdd, Nat.reduceSub, List.cons_append, List.nil_append, List.set_cons_zero, List.set_cons_succ, Option.toList_none, Option.toList_some, Int32.reduceToInt, yu, ya, reduceIte, Nat.reduceEqDiff, Int.toNat_natCast, Int.reduceToNat]
        refine yi_ret_i rfl rfl ⟨rfl, hR⟩
      · have hn := hoi.mp (by omega)
        have hT := (hD hn).1
        have h5 : 5 ≤ x.2.2.length := by
          obtain ⟨-, -, m, hm, -⟩ := hT
          exact (List.getElem?_eq_some_iff.mp hm).1
        refine ygo 99999 90 rfl rfl (by first | exact trivial | (simp only [true_and, eq_self, or_true, true_or, and_true, yu, ya, reduceIte, Nat.reduceEqDiff, Int32.reduceToInt, Int.toNat_natCast, Int.reduceToNat]; omega) | decide | (simp; done) | (simp; omega)) ?_
        try simp only [List.map_cons, List.map_nil, List.length_cons, List.length_nil, ylr_s, ylr_0, Nat.reduceAdd, Nat.reduceSub, List.cons_append, List.nil_append, List.set_cons_zero, List.set_cons_succ, Option.toList_none, Option.toList_some, Int32.reduceToInt, yu, ya, reduceIte, Nat.reduceEqDiff, Int.toNat_natCast, Int.reduceToNat]
        refine ycV rfl rfl rfl (cm_isSigned hR h23 hpk hT) rfl kX9_isSigned iX9_isSigned rfl rfl rfl (Nat.le_of_ble_eq_true rfl) (fun v3 Y3 q3 => ?_)
        obtain ⟨rfl, rfl⟩ := q3
        have hsp : (if H.2.2.1.1.2.2.2 = 0 then (0 : Int) else 1) = 0 ↔ H.2.2.1.1.2.2.2 = 0 := by split <;> simp_all
        refine yi_ifne rfl (by unfold yr; split <;> omega) (fun c3 => ?_) (fun c3 => ?_)
        · have c4 : H.2.2.1.1.2.2.2 ≠ 0 := fun hc => c3 (hsp.mpr hc)
          have h21 : (A2 21).getD j 0 = nI x.2.2.length := (hR.2.1.2 j x hj).1
          have hlen : ((A2 21).getD j 0).toInt = x.2.2.length := by rw [h21, i_n (by omega)]
          have hpt2 : (nI j).toInt.toNat = j := by omega
          have hnum := num4_eq (r := x.2.2) (p := x.2.2.length - 4) (S := ssum sec (x.2.2.take (x.2.2.length - 4))) (by omega) (by omega) hx.2.2
          refine ygo 99999 90 rfl rfl (by first | exact trivial | (simp only [true_and, eq_self, or_true, true_or, and_true, yu, ya, reduceIte, Nat.reduceEqDiff, Int32.reduceToInt, Int.toNat_natCast, Int.reduceToNat]; omega) | decide | (simp; done) | (simp; omega)) ?_
          try simp only [List.map_cons, List.map_nil, List.length_cons, List.length_nil, ylr_s, ylr_0, Nat.reduceAdd, Nat.reduceSub, List.cons_append, List.nil_append, List.set_cons_zero, List.set_cons_succ, Option.toList_none, Option.toList_some, Int32.reduceToInt, yu, ya, reduceIte, Nat.reduceEqDiff, Int.toNat_natCast, Int.reduceToNat]
          refine ycV rfl rfl rfl (cm_sumOf (s0 := sec) (n := x.2.2.length - 4) hR h23 hpk (by rw [hpt2, hlen]; omega) (by omega) rfl) rfl kX9_sumOf iX9_sumOf rfl rfl rfl (Nat.le_of_ble_eq_true rfl) (fun v4 Y4 q4 => ?_)
          obtain ⟨rfl, rfl⟩ := q4
          refine ygo 50 90 rfl rfl (by first | exact trivial | (simp only [true_and, eq_self, or_true, true_or, and_true, yu, ya, reduceIte, Nat.reduceEqDiff, Int32.reduceToInt, Int.toNat_natCast, Int.reduceToNat]; omega) | decide | (simp; done) | (simp; omega)) ?_
          try simp only [List.map_cons, List.map_nil, List.length_cons, List.length_nil, ylr_s, ylr_0, Nat.reduceAdd, Nat.reduceSub, List.cons_append, List.nil_append, List.set_cons_zero, List.set_cons_succ, Option.toList_none, Option.toList_some, Int32.reduceToInt, yu, ya, reduceIte, Nat.reduceEqDiff, Int.toNat_natCast, Int.reduceToNat]
          refine (l_signer (S := ssum sec (x.2.2.take (x.2.2.length - 4))) hR h23 hpk (by omega) (by rw [hpt2, hlen]) 4 0 1 0 (by omega) rfl (by simp [eq4, bInt])).mono (fun w Y' hq => ?_)
          obtain ⟨rfl, rfl⟩ := hq
          refine ⟨?_, hR⟩
          cases he : eq4 x.2.2 (x.2.2.length - 4) (ssum sec (x.2.2.take (x.2.2.length - 4))) 4 with
          | true => rw [if_pos ⟨hn, decide_eq_true ⟨c4, hnum.mpr he⟩⟩]; rfl
          | false => rw [if_neg (fun hc => by have := (of_decide_eq_true hc.2).2; rw [hnum, he] at this; cases this)]; rfl
        · have c4 : H.2.2.1.1.2.2.2 = 0 := hsp.mp (by omega)
          rw [if_neg (fun hc => (of_decide_eq_true hc.2).1 c4)]
          refine ygo 99999 90 rfl rfl (by first | exact trivial | (simp only [true_and, eq_self, or_true, true_or, and_true, yu, ya, reduceIte, Nat.reduceEqDiff, Int32.reduceToInt, Int.toNat_natCast, Int.reduceToNat]; omega) | decide | (simp; done) | (simp; omega)) ?_
          try simp only [List.map_cons, List.map_nil, List.length_cons, List.length_nil, ylr_s, ylr_0, Nat.reduceAdd, Nat.reduceSub, List.cons_append, List.nil_append, List.set_cons_zero, List.set_cons_succ, Option.toList_none, Option.toList_some, Int32.reduceToInt, yu, ya, reduceIte, Nat.reduceEqDiff, Int.toNat_natCast, Int.reduceToNat]
          refine yi_ret_i rfl rfl ⟨rfl, hR⟩
    · omega
