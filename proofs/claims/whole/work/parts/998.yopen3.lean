set_option maxRecDepth 100000 in
set_option maxHeartbeats 2000000 in
theorem o_open {G : xG} {d a n rc : Nat} {p sec : Int32} {pf : List Int32 → pS} {Z : pZ} {f : Nat → Int} {A : Nat → List Int32} (h : mR Z (f, A)) (hO : OK Z) (hh : hears pf) : ym G (d + 20) a mX9_open [.inr 0, .inl p.toInt, .inl sec.toInt] (f, A) (fun w Y' => ypost (F_open p sec pf n rc Z) w Y' ∧ OK (F_open p sec pf n rc Z).2) := by
  have hkP := hO.2.1
  have hk := hO.2.2.2.2.1
  have hMk := hO.2.2.2.2.2
  have hP := h.2.1
  have h19 : f 19 = Z.2.2.1.length := hP.1
  have hl := hkP.1
  have hL12 := hk.1
  have h35 : f 35 = Z.2.2.2.2.2.1.length := h.2.2.2.2.1.1
  obtain ⟨K, ln, sz, l1, l2, hpf⟩ := hh
  unfold F_open
  cases hp : pget Z.2.2.1 p with
  | none =>
    have hn := pget_n hp
    refine ym_at 5 rfl (by decide) (Nat.le_of_ble_eq_true rfl) tX9_open_ok ?_
    try simp only [List.map_cons, List.map_nil, List.length_cons, List.length_nil, ylr_s, ylr_0, Nat.reduceAdd, Nat.reduceSub, List.cons_append, List.nil_append, List.set_cons_zero, List.set_cons_succ, Option.toList_none, Option.toList_some, Int32.reduceToInt, yu, ya, reduceIte, Nat.reduceEqDiff, Int.toNat_natCast, Int.reduceToNat]
    refine ygo 99999 90 rfl rfl (by first | exact trivial | (simp only [true_and, eq_self, or_true, true_or, and_true, yu, ya, reduceIte, Nat.reduceEqDiff, Int32.reduceToInt, Int.toNat_natCast, Int.reduceToNat]; omega) | decide | (simp; done) | (simp; omega)) ?_
    try simp only [List.map_cons, List.map_nil, List.length_cons, List.length_nil, ylr_s, ylr_0, Nat.reduceAdd, Nat.reduceSub, List.cons_append, List.nil_append, List.set_cons_zero, List.set_cons_succ, Option.toList_none, Option.toList_some, Int32.reduceToInt, yu, ya, reduceIte, Nat.reduceEqDiff, Int.toNat_natCast, Int.reduceToNat]
    refine ycV rfl rfl rfl (cm_isPack (yr_t _) (mP_r hP hl)) rfl kX9_isPack iX9_isPack rfl rfl rfl (Nat.le_of_ble_eq_true rfl) (fun v1 Y1 q1 => ?_)
    obtain ⟨rfl, rfl⟩ := q1
    refine ygo 99999 90 rfl rfl (by first | exact trivial | (simp only [true_and, eq_self, or_true, true_or, and_true, yu, ya, reduceIte, Nat.reduceEqDiff, Int32.reduceToInt, Int.toNat_natCast, Int.reduceToNat]; omega) | decide | (simp; done) | (simp; omega)) ?_
    try simp only [List.map_cons, List.map_nil, List.length_cons, List.length_nil, ylr_s, ylr_0, Nat.reduceAdd, Nat.reduceSub, List.cons_append, List.nil_append, List.set_cons_zero, List.set_cons_succ, Option.toList_none, Option.toList_some, Int32.reduceToInt, yu, ya, reduceIte, Nat.reduceEqDiff, Int.toNat_natCast, Int.reduceToNat]
    refine yi_ifne rfl (by first | exact yr_t _ | exact yr_b _ | (unfold yr; omega)) (fun c1 => ?_) (fun c1 => ?_)
    · omega
    · refine ygo 99999 90 rfl rfl (by first | exact trivial | (simp only [true_and, eq_self, or_true, true_or, and_true, yu, ya, reduceIte, Nat.reduceEqDiff, Int32.reduceToInt, Int.toNat_natCast, Int.reduceToNat]; omega) | decide | (simp; done) | (simp; omega)) ?_
      try simp only [List.map_cons, List.map_nil, List.length_cons, List.length_nil, ylr_s, ylr_0, Nat.reduceAdd, Nat.reduceSub, List.cons_append, List.nil_append, List.set_cons_zero, List.set_cons_succ, Option.toList_none, Option.toList_some, Int32.reduceToInt, yu, ya, reduceIte, Nat.reduceEqDiff, Int.toNat_natCast, Int.reduceToNat]
      refine yi_ret_i rfl rfl ⟨ypost.same h rfl rfl, hO⟩
  | some x =>
    obtain ⟨j, rfl, hj, hj16, hjn⟩ := pget_s hp hl
    have hjl := (List.getElem?_eq_some_iff.mp hj).1
    have hjz : (nI j).toInt = j := i_n (by omega)
    have hx := hkP.2 x (List.mem_of_getElem? hj)
    have hpk : pkd Z j x.2.2 := ⟨x, hj, rfl, hj16, hx.2.1, hx.2.2⟩
    have hcm := cm_wrong (G := G) (d := d + 15) (a := a) (K := K) h hpk hjz l1 l2
    have hsg := fun (f2 : Nat → Int) (A2 : Nat → List Int32) (h2 : mR Z (f2, A2)) => cm_signer (G := G) (d := d + 13) (a := a) (sec := sec) (K := K) h2 hkP hj l1 l2
    have hld := fun (f2 : Nat → Int) (hd : HD x.2.2 (headS x.2.2 K ln sz) f2) => HD_LD hx.2.1 hd
    have hok := fun (f2 : Nat → Int) (hd : HD x.2.2 (headS x.2.2 K ln sz) f2) => parse_ok hx.2.1 hx.2.2 hd
    dsimp only
    rw [hpf]
    generalize parse x.2.2 K ln sz = P at hcm hsg hld hok ⊢
    generalize headS x.2.2 K ln sz = H at hcm hsg hld hok
    have hor := i_rng (oI P.2.1)
    have rest : ∀ (f2 : Nat → Int) (A2 : Nat → List Int32) (x3 x4 : Option yv), mR Z (f2, A2) → f2 23 = j → HD x.2.2 H f2 → P.2.1 = none → Z.2.2.2.2.2.1.length < 12 → yw G (d + 20) a mX9_open 57 [some (.inr 0), some (.inl (nI j).toInt), some (.inl sec.toInt), x3, x4] [] (f2, A2) (fun w Y' => ypost (match P.2.2.1.2.1.findIdx? (fun nd => decide (meetI Z.2.2.2.2.2.1 nd < 0)) with
          | some i => (-7, zW Z (nI i))
          | none => if 0 ≤ lsealI Z.2.2.2.2.2.1 P.2.2.1 then (-8, zW Z (lsealI Z.2.2.2.2.2.1 P.2.2.1)) else
            (nI Z.2.2.2.2.2.1.length, zL Z (Z.2.2.2.2.2.1 ++ [(n + 17, rc, (P.2.2.1, P.2.2.1.2.1.map (meetI Z.2.2.2.2.2.1), seenI Z.2.2.2.2.2.1 P.2.2.1, 0, []))]))) w Y' ∧ OK (match P.2.2.1.2.1.findIdx? (fun nd => decide (meetI Z.2.2.2.2.2.1 nd < 0)) with
          | some i => (-7, zW Z (nI i))
          | none => if 0 ≤ lsealI Z.2.2.2.2.2.1 P.2.2.1 then (-8, zW Z (lsealI Z.2.2.2.2.2.1 P.2.2.1)) else
            (nI Z.2.2.2.2.2.1.length, zL Z (Z.2.2.2.2.2.1 ++ [(n + 17, rc, (P.2.2.1, P.2.2.1.2.1.map (meetI Z.2.2.2.2.2.1), seenI Z.2.2.2.2.2.1 P.2.2.1, 0, []))]))).2) := by
      intro f2 A2 x3 x4 hR h23 hD hn hL
      have hLD := hld f2 hD hn
      have hokK := (hok f2 hD hn).1
      have h35' : f2 35 = Z.2.2.2.2.2.1.length := hR.2.2.2.2.1.1
      refine ygo 99999 90 rfl rfl (by first | exact trivial | (simp only [true_and, eq_self, or_true, true_or, and_true, yu, ya, reduceIte, Nat.reduceEqDiff, Int32.reduceToInt, Int.toNat_natCast, Int.reduceToNat]; omega) | decide | (simp; done) | (simp; omega)) ?_
      try simp only [List.map_cons, List.map_nil, List.length_cons, List.length_nil, ylr_s, ylr_0, Nat.reduceAdd, Nat.reduceSub, List.cons_append, List.nil_append, List.set_cons_zero, List.set_cons_succ, Option.toList_none, Option.toList_some, Int32.reduceToInt, yu, ya, reduceIte, Nat.reduceEqDiff, Int.toNat_natCast, Int.reduceToNat]
      refine ycV rfl rfl rfl (cm_layDown (pk := j) hR hk (hbs.of hR h23 hpk) hLD hokK h35' hL) rfl kX9_layDown iX9_layDown rfl rfl rfl (Nat.le_of_ble_eq_true rfl) (fun v3 Y3 q3 => ?_)
      unfold layP at q3
      cases hfi : P.2.2.1.2.1.findIdx? (fun nd => decide (meetI Z.2.2.2.2.2.1 nd < 0)) with
      | some i =>
        rw [hfi] at q3
        dsimp only at q3 ⊢
        obtain ⟨rfl, q3⟩ := q3
        obtain ⟨f3, A3⟩ := Y3
        refine ygo 99999 90 rfl rfl (by first | exact trivial | (simp only [true_and, eq_self, or_true, true_or, and_true, yu, ya, reduceIte, Nat.reduceEqDiff, Int32.reduceToInt, Int.toNat_natCast, Int.reduceToNat]; omega) | decide | (simp; done) | (simp; omega)) ?_
        try simp only [List.map_cons, List.map_nil, List.length_cons, List.length_nil, ylr_s, ylr_0, Nat.reduceAdd, Nat.reduceSub, List.cons_append, List.nil_append, List.set_cons_zero, List.set_cons_succ, Option.toList_none, Option.toList_some, Int32.reduceToInt, yu, ya, reduceIte, Nat.reduceEqDiff, Int.toNat_natCast, Int.reduceToNat]
        refine yi_ifne rfl (by first | exact yr_t _ | exact yr_b _ | (unfold yr; omega)) (fun c => ?_) (fun c => ?_)
        · omega
        · refine ygo 99999 90 rfl rfl (by first | exact trivial | (simp only [true_and, eq_self, or_true, true_or, and_true, yu, ya, reduceIte, Nat.reduceEqDiff, Int32.reduceToInt, Int.toNat_natCast, Int.reduceToNat]; omega) | decide | (simp; done) | (simp; omega)) ?_
          try simp only [List.map_cons, List.map_nil, List.length_cons, List.length_nil, ylr_s, ylr_0, Nat.reduceAdd, Nat.reduceSub, List.cons_append, List.nil_append, List.set_cons_zero, List.set_cons_succ, Option.toList_none, Option.toList_some, Int32.reduceToInt, yu, ya, reduceIte, Nat.reduceEqDiff, Int.toNat_natCast, Int.reduceToNat]
          refine yi_ret_i rfl rfl ⟨⟨rfl, q3⟩, k_zW hO⟩
      | none =>
        rw [hfi] at q3
        dsimp only at q3 ⊢
        obtain ⟨rfl, q4, hR3, hlaid⟩ := q3
        obtain ⟨f3, A3⟩ := Y3
        dsimp only at q4 hlaid
        subst q4
        rw [List.findIdx?_eq_none_iff] at hfi
        have hin : inL Z.2.2.2.2.2.1 (P.2.2.1.2.1.map (meetI Z.2.2.2.2.2.1)) := by
          intro m hm
          obtain ⟨nd, hnd, rfl⟩ := List.mem_map.mp hm
          rcases meetI_rng Z.2.2.2.2.2.1 nd with e | e
          · have := of_decide_eq_false (hfi nd hnd)
            rw [e] at this
            exact absurd (by decide) this
          · exact e
        have hls : lsealI Z.2.2.2.2.2.1 P.2.2.1 = least (fun g => sany (nI g) P.2.2.1 (smask Z.2.2.2.2.2.1 (P.2.2.1.2.1.map (meetI Z.2.2.2.2.2.1))) Z.2.2.2.2.2.1 0) 16 0 := by
          unfold lsealI
          rw [seenI_smask]
        have hge : lsealI Z.2.2.2.2.2.1 P.2.2.1 = -1 ∨ 0 ≤ lsealI Z.2.2.2.2.2.1 P.2.2.1 := least_ge _ 16 0 (by omega)
        have hsl := cm_sealedGroup (G := G) (d := d + 18) (a := a) (K := P.2.2.1) (ez := f3 35) hR3.2.2.2.2.1 hk hMk hL h35' hlaid.2.2.2.1 hlaid.2.2.2.2.1 (by rw [List.length_map]; exact hLD.2.2.2.1) hin hlaid.mEc hokK
        rw [← hls] at hsl
        generalize lsealI Z.2.2.2.2.2.1 P.2.2.1 = ls at hsl hge ⊢
        have hsm := seenI_smask Z.2.2.2.2.2.1 P.2.2.1
        generalize seenI Z.2.2.2.2.2.1 P.2.2.1 = sm at hsm ⊢
        have hOK : OK (zL Z (Z.2.2.2.2.2.1 ++ [(n + 17, rc, (P.2.2.1, P.2.2.1.2.1.map (meetI Z.2.2.2.2.2.1), sm, 0, []))])) := k_keepS hO (okS_add hk hL hokK (hok f3 hD hn).2 (by simp) hin rfl rfl) (okM_add hMk hk hin hsm)
        have lsr := i_rng ls
        have z0 : (0 : Int32).toInt = 0 := rfl
        have zm : (-1 : Int32).toInt = -1 := rfl
        refine ygo 99999 90 rfl rfl (by first | exact trivial | (simp only [true_and, eq_self, or_true, true_or, and_true, yu, ya, reduceIte, Nat.reduceEqDiff, Int32.reduceToInt, Int.toNat_natCast, Int.reduceToNat]; omega) | decide | (simp; done) | (simp; omega)) ?_
        try simp only [List.map_cons, List.map_nil, List.length_cons, List.length_nil, ylr_s, ylr_0, Nat.reduceAdd, Nat.reduceSub, List.cons_append, List.nil_append, List.set_cons_zero, List.set_cons_succ, Option.toList_none, Option.toList_some, Int32.reduceToInt, yu, ya, reduceIte, Nat.reduceEqDiff, Int.toNat_natCast, Int.reduceToNat]
        refine yi_ifne rfl (by first | exact yr_t _ | exact yr_b _ | (unfold yr; omega)) (fun c => ?_) (fun c => ?_)
        · refine ygo 99999 90 rfl rfl (by first | exact trivial | (simp only [true_and, eq_self, or_true, true_or, and_true, yu, ya, reduceIte, Nat.reduceEqDiff, Int32.reduceToInt, Int.toNat_natCast, Int.reduceToNat]; omega) | decide | (simp; done) | (simp; omega)) ?_
          try simp only [List.map_cons, List.map_nil, List.length_cons, List.length_nil, ylr_s, ylr_0, Nat.reduceAdd, Nat.reduceSub, List.cons_append, List.nil_append, List.set_cons_zero, List.set_cons_succ, Option.toList_none, Option.toList_some, Int32.reduceToInt, yu, ya, reduceIte, Nat.reduceEqDiff, Int.toNat_natCast, Int.reduceToNat]
          refine ycV rfl rfl rfl hsl rfl kX9_sealedGroup iX9_sealedGroup rfl rfl rfl (Nat.le_of_ble_eq_true rfl) (fun v4 Y4 q4 => ?_)
          obtain ⟨rfl, r1, r2⟩ := q4
          obtain ⟨f4, A4⟩ := Y4
          dsimp only at r1 r2
          subst r1
          have hR4 : mR Z (f4, A4) := hR3.fk (fun k hk => r2 k (by omega))
          have hl4 := hlaid.fk (A' := A4) (fun k hk => r2 k (by omega))
          refine ygo 99999 90 rfl rfl (by first | exact trivial | (simp only [true_and, eq_self, or_true, true_or, and_true, yu, ya, reduceIte, Nat.reduceEqDiff, Int32.reduceToInt, Int.toNat_natCast, Int.reduceToNat]; omega) | decide | (simp; done) | (simp; omega)) ?_
          try simp only [List.map_cons, List.map_nil, List.length_cons, List.length_nil, ylr_s, ylr_0, Nat.reduceAdd, Nat.reduceSub, List.cons_append, List.nil_append, List.set_cons_zero, List.set_cons_succ, Option.toList_none, Option.toList_some, Int32.reduceToInt, yu, ya, reduceIte, Nat.reduceEqDiff, Int.toNat_natCast, Int.reduceToNat]
          refine yi_iflt rfl (by first | exact yr_t _ | exact yr_b _ | (unfold yr; omega)) (fun c4 => ?_) (fun c4 => ?_)
          · rw [if_neg (by rw [i_le]; omega)]
            refine yw.len (fun hlen => ?_)
            have l39 : (A4 39).length = 12 := hlen 39 _ rfl
            have l48 : (A4 48).length = 12 := hlen 48 _ rfl
            have h35t : (f4 35).toNat = Z.2.2.2.2.2.1.length := by omega
            refine ygo 99999 90 rfl rfl (by first | exact trivial | (simp only [true_and, eq_self, or_true, true_or, and_true, yu, ya, reduceIte, Nat.reduceEqDiff, Int32.reduceToInt, Int.toNat_natCast, Int.reduceToNat]; omega) | decide | (simp; done) | (simp; omega)) ?_
            try simp only [List.map_cons, List.map_nil, List.length_cons, List.length_nil, ylr_s, ylr_0, Nat.reduceAdd, Nat.reduceSub, List.cons_append, List.nil_append, List.set_cons_zero, List.set_cons_succ, Option.toList_none, Option.toList_some, Int32.reduceToInt, yu, ya, reduceIte, Nat.reduceEqDiff, Int.toNat_natCast, Int.reduceToNat]
            refine yi_ret_i rfl rfl ⟨⟨by rw [i_n (by omega)]; simp [h35'], ?_⟩, hOK⟩
            have e0 : Int32.ofInt 0 = 0 := rfl
            simp only [h35t, e0]
            exact hR4.add rfl hl4 l39 l48 hL (by omega)
          · rw [if_pos (by rw [i_le]; omega)]
            refine ygo 99999 90 rfl rfl (by first | exact trivial | (simp only [true_and, eq_self, or_true, true_or, and_true, yu, ya, reduceIte, Nat.reduceEqDiff, Int32.reduceToInt, Int.toNat_natCast, Int.reduceToNat]; omega) | decide | (simp; done) | (simp; omega)) ?_
            try simp only [List.map_cons, List.map_nil, List.length_cons, List.length_nil, ylr_s, ylr_0, Nat.reduceAdd, Nat.reduceSub, List.cons_append, List.nil_append, List.set_cons_zero, List.set_cons_succ, Option.toList_none, Option.toList_some, Int32.reduceToInt, yu, ya, reduceIte, Nat.reduceEqDiff, Int.toNat_natCast, Int.reduceToNat]
            refine yi_ret_i rfl rfl ⟨⟨rfl, hR4.why rfl⟩, k_zW hO⟩
        · omega
    refine ym_at 5 rfl (by decide) (Nat.le_of_ble_eq_true rfl) tX9_open_ok ?_
    try simp only [List.map_cons, List.map_nil, List.length_cons, List.length_nil, ylr_s, ylr_0, Nat.reduceAdd, Nat.reduceSub, List.cons_append, List.nil_append, List.set_cons_zero, List.set_cons_succ, Option.toList_none, Option.toList_some, Int32.reduceToInt, yu, ya, reduceIte, Nat.reduceEqDiff, Int.toNat_natCast, Int.reduceToNat]
    refine ygo 99999 90 rfl rfl (by first | exact trivial | (simp only [true_and, eq_self, or_true, true_or, and_true, yu, ya, reduceIte, Nat.reduceEqDiff, Int32.reduceToInt, Int.toNat_natCast, Int.reduceToNat]; omega) | decide | (simp; done) | (simp; omega)) ?_
    try simp only [List.map_cons, List.map_nil, List.length_cons, List.length_nil, ylr_s, ylr_0, Nat.reduceAdd, Nat.reduceSub, List.cons_append, List.nil_append, List.set_cons_zero, List.set_cons_succ, Option.toList_none, Option.toList_some, Int32.reduceToInt, yu, ya, reduceIte, Nat.reduceEqDiff, Int.toNat_natCast, Int.reduceToNat]
    refine ycV rfl rfl rfl (cm_isPack (yr_t _) (mP_r hP hl)) rfl kX9_isPack iX9_isPack rfl rfl rfl (Nat.le_of_ble_eq_true rfl) (fun v1 Y1 q1 => ?_)
    obtain ⟨rfl, rfl⟩ := q1
    refine ygo 99999 90 rfl rfl (by first | exact trivial | (simp only [true_and, eq_self, or_true, true_or, and_true, yu, ya, reduceIte, Nat.reduceEqDiff, Int32.reduceToInt, Int.toNat_natCast, Int.reduceToNat]; omega) | decide | (simp; done) | (simp; omega)) ?_
    try simp only [List.map_cons, List.map_nil, List.length_cons, List.length_nil, ylr_s, ylr_0, Nat.reduceAdd, Nat.reduceSub, List.cons_append, List.nil_append, List.set_cons_zero, List.set_cons_succ, Option.toList_none, Option.toList_some, Int32.reduceToInt, yu, ya, reduceIte, Nat.reduceEqDiff, Int.toNat_natCast, Int.reduceToNat]
    refine yi_ifne rfl (by first | exact yr_t _ | exact yr_b _ | (unfold yr; omega)) (fun c1 => ?_) (fun c1 => ?_)
    · refine ygo 99999 90 rfl rfl (by first | exact trivial | (simp only [true_and, eq_self, or_true, true_or, and_true, yu, ya, reduceIte, Nat.reduceEqDiff, Int32.reduceToInt, Int.toNat_natCast, Int.reduceToNat]; omega) | decide | (simp; done) | (simp; omega)) ?_
      try simp only [List.map_cons, List.map_nil, List.length_cons, List.length_nil, ylr_s, ylr_0, Nat.reduceAdd, Nat.reduceSub, List.cons_append, List.nil_append, List.set_cons_zero, List.set_cons_succ, Option.toList_none, Option.toList_some, Int32.reduceToInt, yu, ya, reduceIte, Nat.reduceEqDiff, Int.toNat_natCast, Int.reduceToNat]
      refine yi_icmpne rfl (by refine ⟨?_, ?_⟩ <;> first | exact yr_t _ | exact yr_b _ | (unfold yr; omega)) (fun c2 => ?_) (fun c2 => ?_)
      · rw [if_neg (by omega)]
        refine ygo 99999 90 rfl rfl (by first | exact trivial | (simp only [true_and, eq_self, or_true, true_or, and_true, yu, ya, reduceIte, Nat.reduceEqDiff, Int32.reduceToInt, Int.toNat_natCast, Int.reduceToNat]; omega) | decide | (simp; done) | (simp; omega)) ?_
        try simp only [List.map_cons, List.map_nil, List.length_cons, List.length_nil, ylr_s, ylr_0, Nat.reduceAdd, Nat.reduceSub, List.cons_append, List.nil_append, List.set_cons_zero, List.set_cons_succ, Option.toList_none, Option.toList_some, Int32.reduceToInt, yu, ya, reduceIte, Nat.reduceEqDiff, Int.toNat_natCast, Int.reduceToNat]
        refine ycV rfl rfl rfl hcm rfl kX9_wrong iX9_wrong rfl rfl rfl (Nat.le_of_ble_eq_true rfl) (fun v2 Y2 q2 => ?_)
        obtain ⟨rfl, hR, h23, -, hD, hps0⟩ := q2
        have hps : ∀ w, P.2.1 = some w → w < 2 ^ 31 := fun w hw => by have := hps0 w hw; omega
        obtain ⟨f2, A2⟩ := Y2
        have h35' : f2 35 = Z.2.2.2.2.2.1.length := hR.2.2.2.2.1.1
        cases hw : P.2.1 with
        | some w =>
          have hwl := hps w hw
          have hoi : oI (some w) = nI w := rfl
          have hwz : (nI w).toInt = w := i_n hwl
          rw [hoi]
          dsimp only
          refine ygo 99999 90 rfl rfl (by first | exact trivial | (simp only [true_and, eq_self, or_true, true_or, and_true, yu, ya, reduceIte, Nat.reduceEqDiff, Int32.reduceToInt, Int.toNat_natCast, Int.reduceToNat]; omega) | decide | (simp; done) | (simp; omega)) ?_
          try simp only [List.map_cons, List.map_nil, List.length_cons, List.length_nil, ylr_s, ylr_0, Nat.reduceAdd, Nat.reduceSub, List.cons_append, List.nil_append, List.set_cons_zero, List.set_cons_succ, Option.toList_none, Option.toList_some, Int32.reduceToInt, yu, ya, reduceIte, Nat.reduceEqDiff, Int.toNat_natCast, Int.reduceToNat]
          refine yi_iflt rfl (by first | exact yr_t _ | exact yr_b _ | (unfold yr; omega)) (fun c3 => ?_) (fun c3 => ?_)
          · omega
          · refine ygo 99999 90 rfl rfl (by first | exact trivial | (simp only [true_and, eq_self, or_true, true_or, and_true, yu, ya, reduceIte, Nat.reduceEqDiff, Int32.reduceToInt, Int.toNat_natCast, Int.reduceToNat]; omega) | decide | (simp; done) | (simp; omega)) ?_
            try simp only [List.map_cons, List.map_nil, List.length_cons, List.length_nil, ylr_s, ylr_0, Nat.reduceAdd, Nat.reduceSub, List.cons_append, List.nil_append, List.set_cons_zero, List.set_cons_succ, Option.toList_none, Option.toList_some, Int32.reduceToInt, yu, ya, reduceIte, Nat.reduceEqDiff, Int.toNat_natCast, Int.reduceToNat]
            refine yi_ret_i rfl rfl ⟨⟨rfl, hR.why rfl⟩, k_zW hO⟩
        | none =>
          have hoi : oI none = -1 := rfl
          have zm : (-1 : Int32).toInt = -1 := rfl
          have z0 : (0 : Int32).toInt = 0 := rfl
          have sr := i_rng sec
          rw [hoi]
          dsimp only
          refine ygo 99999 90 rfl rfl (by first | exact trivial | (simp only [true_and, eq_self, or_true, true_or, and_true, yu, ya, reduceIte, Nat.reduceEqDiff, Int32.reduceToInt, Int.toNat_natCast, Int.reduceToNat]; omega) | decide | (simp; done) | (simp; omega)) ?_
          try simp only [List.map_cons, List.map_nil, List.length_cons, List.length_nil, ylr_s, ylr_0, Nat.reduceAdd, Nat.reduceSub, List.cons_append, List.nil_append, List.set_cons_zero, List.set_cons_succ, Option.toList_none, Option.toList_some, Int32.reduceToInt, yu, ya, reduceIte, Nat.reduceEqDiff, Int.toNat_natCast, Int.reduceToNat]
          refine yi_iflt rfl (by first | exact yr_t _ | exact yr_b _ | (unfold yr; omega)) (fun c3 => ?_) (fun c3 => ?_)
          · refine ygo 99999 90 rfl rfl (by first | exact trivial | (simp only [true_and, eq_self, or_true, true_or, and_true, yu, ya, reduceIte, Nat.reduceEqDiff, Int32.reduceToInt, Int.toNat_natCast, Int.reduceToNat]; omega) | decide | (simp; done) | (simp; omega)) ?_
            try simp only [List.map_cons, List.map_nil, List.length_cons, List.length_nil, ylr_s, ylr_0, Nat.reduceAdd, Nat.reduceSub, List.cons_append, List.nil_append, List.set_cons_zero, List.set_cons_succ, Option.toList_none, Option.toList_some, Int32.reduceToInt, yu, ya, reduceIte, Nat.reduceEqDiff, Int.toNat_natCast, Int.reduceToNat]
            refine yi_ifeq rfl (by first | exact yr_t _ | exact yr_b _ | (unfold yr; omega)) (fun c4 => ?_) (fun c4 => ?_)
            · have hs0 : sec = 0 := by rw [i_eq]; omega
              rw [if_neg (fun hc => hc.1 hs0)]
              exact rest f2 A2 _ _ hR h23 (hD hw) hw (by omega)
            · have hs0 : sec ≠ 0 := fun hc => c4 (by rw [hc]; rfl)
              refine ygo 99999 90 rfl rfl (by first | exact trivial | (simp only [true_and, eq_self, or_true, true_or, and_true, yu, ya, reduceIte, Nat.reduceEqDiff, Int32.reduceToInt, Int.toNat_natCast, Int.reduceToNat]; omega) | decide | (simp; done) | (simp; omega)) ?_
              try simp only [List.map_cons, List.map_nil, List.length_cons, List.length_nil, ylr_s, ylr_0, Nat.reduceAdd, Nat.reduceSub, List.cons_append, List.nil_append, List.set_cons_zero, List.set_cons_succ, Option.toList_none, Option.toList_some, Int32.reduceToInt, yu, ya, reduceIte, Nat.reduceEqDiff, Int.toNat_natCast, Int.reduceToNat]
              refine ycV rfl rfl rfl (hsg f2 A2 hR) rfl kX9_signer iX9_signer rfl rfl rfl (Nat.le_of_ble_eq_true rfl) (fun v4 Y4 q4 => ?_)
              obtain ⟨rfl, hR4, h234, hD4⟩ := q4
              obtain ⟨f4, A4⟩ := Y4
              cases hsk : sgnOk x.2.2 sec P with
              | true =>
                rw [if_pos ⟨hw, rfl⟩, if_neg (by simp)]
                refine ygo 99999 90 rfl rfl (by first | exact trivial | (simp only [true_and, eq_self, or_true, true_or, and_true, yu, ya, reduceIte, Nat.reduceEqDiff, Int32.reduceToInt, Int.toNat_natCast, Int.reduceToNat]; omega) | decide | (simp; done) | (simp; omega)) ?_
                try simp only [List.map_cons, List.map_nil, List.length_cons, List.length_nil, ylr_s, ylr_0, Nat.reduceAdd, Nat.reduceSub, List.cons_append, List.nil_append, List.set_cons_zero, List.set_cons_succ, Option.toList_none, Option.toList_some, Int32.reduceToInt, yu, ya, reduceIte, Nat.reduceEqDiff, Int.toNat_natCast, Int.reduceToNat]
                refine yi_icmpeq rfl (by refine ⟨?_, ?_⟩ <;> first | exact yr_t _ | exact yr_b _ | (unfold yr; omega)) (fun c5 => ?_) (fun c5 => ?_)
                · exact rest f4 A4 _ _ hR4 h234 (hD4 hw) hw (by omega)
                · omega
              | false =>
                rw [if_neg (by simp), if_pos ⟨hs0, rfl⟩]
                refine ygo 99999 90 rfl rfl (by first | exact trivial | (simp only [true_and, eq_self, or_true, true_or, and_true, yu, ya, reduceIte, Nat.reduceEqDiff, Int32.reduceToInt, Int.toNat_natCast, Int.reduceToNat]; omega) | decide | (simp; done) | (simp; omega)) ?_
                try simp only [List.map_cons, List.map_nil, List.length_cons, List.length_nil, ylr_s, ylr_0, Nat.reduceAdd, Nat.reduceSub, List.cons_append, List.nil_append, List.set_cons_zero, List.set_cons_succ, Option.toList_none, Option.toList_some, Int32.reduceToInt, yu, ya, reduceIte, Nat.reduceEqDiff, Int.toNat_natCast, Int.reduceToNat]
                refine yi_icmpeq rfl (by refine ⟨?_, ?_⟩ <;> first | exact yr_t _ | exact yr_b _ | (unfold yr; omega)) (fun c5 => ?_) (fun c5 => ?_)
                · omega
                · refine ygo 99999 90 rfl rfl (by first | exact trivial | (simp only [true_and, eq_self, or_true, true_or, and_true, yu, ya, reduceIte, Nat.reduceEqDiff, Int32.reduceToInt, Int.toNat_natCast, Int.reduceToNat]; omega) | decide | (simp; done) | (simp; omega)) ?_
                  try simp only [List.map_cons, List.map_nil, List.length_cons, List.length_nil, ylr_s, ylr_0, Nat.reduceAdd, Nat.reduceSub, List.cons_append, List.nil_append, List.set_cons_zero, List.set_cons_succ, Option.toList_none, Option.toList_some, Int32.reduceToInt, yu, ya, reduceIte, Nat.reduceEqDiff, Int.toNat_natCast, Int.reduceToNat]
                  refine yi_ret_i rfl rfl ⟨⟨rfl, hR4⟩, hO⟩
          · omega
      · rw [if_pos (by omega)]
        refine ygo 99999 90 rfl rfl (by first | exact trivial | (simp only [true_and, eq_self, or_true, true_or, and_true, yu, ya, reduceIte, Nat.reduceEqDiff, Int32.reduceToInt, Int.toNat_natCast, Int.reduceToNat]; omega) | decide | (simp; done) | (simp; omega)) ?_
        try simp only [List.map_cons, List.map_nil, List.length_cons, List.length_nil, ylr_s, ylr_0, Nat.reduceAdd, Nat.reduceSub, List.cons_append, List.nil_append, List.set_cons_zero, List.set_cons_succ, Option.toList_none, Option.toList_some, Int32.reduceToInt, yu, ya, reduceIte, Nat.reduceEqDiff, Int.toNat_natCast, Int.reduceToNat]
        refine yi_ret_i rfl rfl ⟨ypost.same h rfl rfl, hO⟩
    · omega
