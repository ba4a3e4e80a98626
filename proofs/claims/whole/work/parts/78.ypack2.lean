theorem and255b : ∀ i : Nat, i < 32 → (255#32).getLsbD i = decide (i < 8) := by decide
theorem sar_bsh (v : Int32) (k : Nat) (hk : k = 8 ∨ k = 16) : (v >>> (Int32.ofNat k &&& 31)) &&& 255 = bsh v (Int32.ofNat k) := by
  unfold bsh
  apply Int32.toBitVec_inj.mp
  apply BitVec.eq_of_getLsbD_eq
  intro i hi
  have h255 := and255b i hi
  rcases hk with rfl | rfl
  · have e1 : (Int32.ofNat 8 &&& 31) = 8 := by decide
    have e2 : ((Int32.ofNat 8).toUInt32 &&& Int32.toUInt32 31) = 8 := by decide
    rw [e1, e2]
    by_cases h8 : i < 8
    · simp [BitVec.getLsbD_sshiftRight, h255, h8, hi, show 8 + i < 32 by omega]
      rw [BitVec.getElem_sshiftRight, dif_pos (by omega)]
    · simp [h255, h8]
  · have e1 : (Int32.ofNat 16 &&& 31) = 16 := by decide
    have e2 : ((Int32.ofNat 16).toUInt32 &&& Int32.toUInt32 31) = 16 := by decide
    rw [e1, e2]
    by_cases h8 : i < 8
    · simp [BitVec.getLsbD_sshiftRight, h255, h8, hi, show 16 + i < 32 by omega]
      rw [BitVec.getElem_sshiftRight, dif_pos (by omega)]
    · simp [h255, h8]
theorem shr24 (v : Int32) : (v.toUInt32 >>> ((24 : Int32).toUInt32 &&& Int32.toUInt32 31)).toInt32 = bsh v 24 := by
  unfold bsh
  apply Int32.toBitVec_inj.mp
  apply BitVec.eq_of_toNat_eq
  have e : ((24 : Int32).toUInt32 &&& Int32.toUInt32 31) = 24 := by decide
  rw [e]
  simp [Nat.shiftRight_eq_div_pow, and255]
  have := v.toBitVec.isLt
  omega
theorem low8 (v : Int32) : v &&& 255 = bsh v 0 := by
  unfold bsh
  have e : ((0 : Int32).toUInt32 &&& Int32.toUInt32 31) = 0 := by decide
  rw [e]
  apply Int32.toBitVec_inj.mp
  apply BitVec.eq_of_toNat_eq
  simp
set_option maxRecDepth 100000 in
set_option maxHeartbeats 2000000 in
theorem cm_writeFour {G : xG} {d a : Nat} {Z : pZ} {ws qs : List Int32} {v : Int32} {f : Nat → Int} {A : Nat → List Int32} (h : mW Z ws qs (f, A)) (hl : ws.length + 4 ≤ 2400) : ym G (d + 1) a mX9_writeFour [.inr 0, .inl v.toInt] (f, A) (fun w Y' => w = none ∧ mW Z (ws ++ four v) qs Y') := by
  refine ym_at 2 rfl (by decide) (Nat.le_of_ble_eq_true rfl) tX9_writeFour_ok ?_
  try simp only [List.map_cons, List.map_nil, List.length_cons, List.length_nil, ylr_s, ylr_0, Nat.reduceAdd, Nat.reduceSub, List.cons_append, List.nil_append, List.set_cons_zero, List.set_cons_succ, Option.toList_none, Option.toList_some, Int32.reduceToInt, yu, ya, reduceIte, Nat.reduceEqDiff, Int.toNat_natCast, Int.reduceToNat]
  refine ygo 99999 90 rfl rfl (by first | exact trivial | (simp only [true_and, yu, ya, reduceIte, Nat.reduceEqDiff, Int32.reduceToInt, Int.toNat_natCast, Int.reduceToNat]; omega) | decide | (simp; done) | (simp; omega)) ?_
  try simp only [List.map_cons, List.map_nil, List.length_cons, List.length_nil, ylr_s, ylr_0, Nat.reduceAdd, Nat.reduceSub, List.cons_append, List.nil_append, List.set_cons_zero, List.set_cons_succ, Option.toList_none, Option.toList_some, Int32.reduceToInt, yu, ya, reduceIte, Nat.reduceEqDiff, Int.toNat_natCast, Int.reduceToNat]
  refine ycV rfl rfl rfl (cm_write (v := bsh v 24) h (by rw [iof, iof]; exact shr24 v) (by omega)) rfl kX9_write iX9_write rfl rfl rfl (Nat.le_of_ble_eq_true rfl) (fun v1 Y1 q1 => ?_)
  obtain ⟨rfl, h1⟩ := q1
  obtain ⟨f1, A1⟩ := Y1
  refine ygo 99999 90 rfl rfl (by first | exact trivial | (simp only [true_and, yu, ya, reduceIte, Nat.reduceEqDiff, Int32.reduceToInt, Int.toNat_natCast, Int.reduceToNat]; omega) | decide | (simp; done) | (simp; omega)) ?_
  try simp only [List.map_cons, List.map_nil, List.length_cons, List.length_nil, ylr_s, ylr_0, Nat.reduceAdd, Nat.reduceSub, List.cons_append, List.nil_append, List.set_cons_zero, List.set_cons_succ, Option.toList_none, Option.toList_some, Int32.reduceToInt, yu, ya, reduceIte, Nat.reduceEqDiff, Int.toNat_natCast, Int.reduceToNat]
  refine ycV rfl rfl rfl (cm_write (v := bsh v 16) h1 (by rw [iof, iof, iof]; exact sar_bsh v 16 (Or.inr rfl)) (by simp only [List.length_append, List.length_singleton]; omega)) rfl kX9_write iX9_write rfl rfl rfl (Nat.le_of_ble_eq_true rfl) (fun v2 Y2 q2 => ?_)
  obtain ⟨rfl, h2⟩ := q2
  obtain ⟨f2, A2⟩ := Y2
  refine ygo 99999 90 rfl rfl (by first | exact trivial | (simp only [true_and, yu, ya, reduceIte, Nat.reduceEqDiff, Int32.reduceToInt, Int.toNat_natCast, Int.reduceToNat]; omega) | decide | (simp; done) | (simp; omega)) ?_
  try simp only [List.map_cons, List.map_nil, List.length_cons, List.length_nil, ylr_s, ylr_0, Nat.reduceAdd, Nat.reduceSub, List.cons_append, List.nil_append, List.set_cons_zero, List.set_cons_succ, Option.toList_none, Option.toList_some, Int32.reduceToInt, yu, ya, reduceIte, Nat.reduceEqDiff, Int.toNat_natCast, Int.reduceToNat]
  refine ycV rfl rfl rfl (cm_write (v := bsh v 8) h2 (by rw [iof, iof, iof]; exact sar_bsh v 8 (Or.inl rfl)) (by simp only [List.length_append, List.length_singleton]; omega)) rfl kX9_write iX9_write rfl rfl rfl (Nat.le_of_ble_eq_true rfl) (fun v3 Y3 q3 => ?_)
  obtain ⟨rfl, h3⟩ := q3
  obtain ⟨f3, A3⟩ := Y3
  refine ygo 99999 90 rfl rfl (by first | exact trivial | (simp only [true_and, yu, ya, reduceIte, Nat.reduceEqDiff, Int32.reduceToInt, Int.toNat_natCast, Int.reduceToNat]; omega) | decide | (simp; done) | (simp; omega)) ?_
  try simp only [List.map_cons, List.map_nil, List.length_cons, List.length_nil, ylr_s, ylr_0, Nat.reduceAdd, Nat.reduceSub, List.cons_append, List.nil_append, List.set_cons_zero, List.set_cons_succ, Option.toList_none, Option.toList_some, Int32.reduceToInt, yu, ya, reduceIte, Nat.reduceEqDiff, Int.toNat_natCast, Int.reduceToNat]
  refine ycV rfl rfl rfl (cm_write (v := bsh v 0) h3 (by rw [iof, iof]; exact low8 v) (by simp only [List.length_append, List.length_singleton]; omega)) rfl kX9_write iX9_write rfl rfl rfl (Nat.le_of_ble_eq_true rfl) (fun v4 Y4 q4 => ?_)
  obtain ⟨rfl, h4⟩ := q4
  obtain ⟨f4, A4⟩ := Y4
  refine ygo 99999 90 rfl rfl (by first | exact trivial | (simp only [true_and, yu, ya, reduceIte, Nat.reduceEqDiff, Int32.reduceToInt, Int.toNat_natCast, Int.reduceToNat]; omega) | decide | (simp; done) | (simp; omega)) ?_
  try simp only [List.map_cons, List.map_nil, List.length_cons, List.length_nil, ylr_s, ylr_0, Nat.reduceAdd, Nat.reduceSub, List.cons_append, List.nil_append, List.set_cons_zero, List.set_cons_succ, Option.toList_none, Option.toList_some, Int32.reduceToInt, yu, ya, reduceIte, Nat.reduceEqDiff, Int.toNat_natCast, Int.reduceToNat]
  refine yi_ret_v rfl rfl ⟨rfl, by simpa [four] using h4⟩
set_option maxRecDepth 100000 in
set_option maxHeartbeats 2000000 in
theorem l_writtenSum {G : xG} {d a : Nat} {f : Nat → Int} {A : Nat → List Int32} {r : List Int32} {s : Int32} {x1 : Int} (h : wrS r (f, A)) (hr : r.length ≤ 2400) : ∀ (m k : Nat) (kz sz : Int), k + m = r.length → kz = k → sz = (ssum s (r.take k)).toInt →
    yw G (d + 1) a mX9_writtenSum 4 [some (.inr 0), some (.inl x1), some (.inl sz), some (.inl kz)] [] (f, A) (fun w Y' => w = some (.inl (ssum s r).toInt) ∧ Y' = (f, A)) := by
  have h16 : f 16 = r.length := h.1
  intro m
  induction m with
  | zero =>
    intro k kz sz hk hkz hs
    have hkn : k = r.length := by omega
    subst hkn
    rw [List.take_length] at hs
    refine ygo 99999 90 rfl rfl (by first | exact trivial | (simp only [true_and, yu, ya, reduceIte, Nat.reduceEqDiff, Int32.reduceToInt, Int.toNat_natCast, Int.reduceToNat]; omega) | decide | (simp; done) | (simp; omega)) ?_
    try simp only [List.map_cons, List.map_nil, List.length_cons, List.length_nil, ylr_s, ylr_0, Nat.reduceAdd, Nat.reduceSub, List.cons_append, List.nil_append, List.set_cons_zero, List.set_cons_succ, Option.toList_none, Option.toList_some, Int32.reduceToInt, yu, ya, reduceIte, Nat.reduceEqDiff, Int.toNat_natCast, Int.reduceToNat]
    refine yi_icmpge rfl (by refine ⟨?_, ?_⟩ <;> first | exact yr_t _ | exact yr_b _ | (unfold yr; omega)) (fun c => ?_) (fun c => ?_)
    · refine ygo 99999 90 rfl rfl (by first | exact trivial | (simp only [true_and, yu, ya, reduceIte, Nat.reduceEqDiff, Int32.reduceToInt, Int.toNat_natCast, Int.reduceToNat]; omega) | decide | (simp; done) | (simp; omega)) ?_
      try simp only [List.map_cons, List.map_nil, List.length_cons, List.length_nil, ylr_s, ylr_0, Nat.reduceAdd, Nat.reduceSub, List.cons_append, List.nil_append, List.set_cons_zero, List.set_cons_succ, Option.toList_none, Option.toList_some, Int32.reduceToInt, yu, ya, reduceIte, Nat.reduceEqDiff, Int.toNat_natCast, Int.reduceToNat]
      refine yi_ret_i rfl rfl ⟨by rw [hs], rfl⟩
    · omega
  | succ m ih =>
    intro k kz sz hk hkz hs
    obtain ⟨x, hx⟩ := lt_get (l := r) (j := k) (by omega)
    have hkt : kz.toNat = k := by omega
    have hg : (A 15).getD k 0 = x := h.2 k x hx
    refine ygo 99999 90 rfl rfl (by first | exact trivial | (simp only [true_and, yu, ya, reduceIte, Nat.reduceEqDiff, Int32.reduceToInt, Int.toNat_natCast, Int.reduceToNat]; omega) | decide | (simp; done) | (simp; omega)) ?_
    try simp only [List.map_cons, List.map_nil, List.length_cons, List.length_nil, ylr_s, ylr_0, Nat.reduceAdd, Nat.reduceSub, List.cons_append, List.nil_append, List.set_cons_zero, List.set_cons_succ, Option.toList_none, Option.toList_some, Int32.reduceToInt, yu, ya, reduceIte, Nat.reduceEqDiff, Int.toNat_natCast, Int.reduceToNat]
    refine yi_icmpge rfl (by refine ⟨?_, ?_⟩ <;> first | exact yr_t _ | exact yr_b _ | (unfold yr; omega)) (fun c => ?_) (fun c => ?_)
    · omega
    refine ygo 99999 90 rfl rfl (by first | exact trivial | (simp only [true_and, yu, ya, reduceIte, Nat.reduceEqDiff, Int32.reduceToInt, Int.toNat_natCast, Int.reduceToNat]; omega) | decide | (simp; done) | (simp; omega)) ?_
    try simp only [List.map_cons, List.map_nil, List.length_cons, List.length_nil, ylr_s, ylr_0, Nat.reduceAdd, Nat.reduceSub, List.cons_append, List.nil_append, List.set_cons_zero, List.set_cons_succ, Option.toList_none, Option.toList_some, Int32.reduceToInt, yu, ya, reduceIte, Nat.reduceEqDiff, Int.toNat_natCast, Int.reduceToNat]
    refine ycS rfl rfl rfl (cm_go (b := x) hs (by rw [hkt, hg])) rfl kX9_go iX9_go rfl rfl (Nat.le_of_ble_eq_true rfl) (fun v1 Y1 q1 => ?_)
    obtain ⟨rfl, rfl⟩ := q1
    refine ygo 4 90 rfl rfl (by first | exact trivial | (simp only [true_and, yu, ya, reduceIte, Nat.reduceEqDiff, Int32.reduceToInt, Int.toNat_natCast, Int.reduceToNat]; omega) | decide | (simp; done) | (simp; omega)) ?_
    try simp only [List.map_cons, List.map_nil, List.length_cons, List.length_nil, ylr_s, ylr_0, Nat.reduceAdd, Nat.reduceSub, List.cons_append, List.nil_append, List.set_cons_zero, List.set_cons_succ, Option.toList_none, Option.toList_some, Int32.reduceToInt, yu, ya, reduceIte, Nat.reduceEqDiff, Int.toNat_natCast, Int.reduceToNat]
    exact ih (k + 1) _ _ (by omega) (by omega) (by rw [ssum_s hx])
set_option maxRecDepth 100000 in
set_option maxHeartbeats 2000000 in
theorem cm_writtenSum {G : xG} {d a : Nat} {f : Nat → Int} {A : Nat → List Int32} {r : List Int32} {s : Int32} {sz : Int} (h : wrS r (f, A)) (hr : r.length ≤ 2400) (hs : sz = s.toInt) : ym G (d + 1) a mX9_writtenSum [.inr 0, .inl sz] (f, A) (fun w Y' => w = some (.inl (ssum s r).toInt) ∧ Y' = (f, A)) := by
  refine ym_at 4 rfl (by decide) (Nat.le_of_ble_eq_true rfl) tX9_writtenSum_ok ?_
  try simp only [List.map_cons, List.map_nil, List.length_cons, List.length_nil, ylr_s, ylr_0, Nat.reduceAdd, Nat.reduceSub, List.cons_append, List.nil_append, List.set_cons_zero, List.set_cons_succ, Option.toList_none, Option.toList_some, Int32.reduceToInt, yu, ya, reduceIte, Nat.reduceEqDiff, Int.toNat_natCast, Int.reduceToNat]
  refine ygo 4 90 rfl rfl (by first | exact trivial | (simp only [true_and, yu, ya, reduceIte, Nat.reduceEqDiff, Int32.reduceToInt, Int.toNat_natCast, Int.reduceToNat]; omega) | decide | (simp; done) | (simp; omega)) ?_
  try simp only [List.map_cons, List.map_nil, List.length_cons, List.length_nil, ylr_s, ylr_0, Nat.reduceAdd, Nat.reduceSub, List.cons_append, List.nil_append, List.set_cons_zero, List.set_cons_succ, Option.toList_none, Option.toList_some, Int32.reduceToInt, yu, ya, reduceIte, Nat.reduceEqDiff, Int.toNat_natCast, Int.reduceToNat]
  exact l_writtenSum h hr r.length 0 0 _ (by omega) rfl (by rw [hs]; rfl)
set_option maxRecDepth 100000 in
set_option maxHeartbeats 2000000 in
theorem l_pack2 {G : xG} {d a : Nat} {Z : pZ} {W0 E : List Int32} {sz rz : Int} {Q : Option yv → yS → Prop} (hE : E.length ≤ 240) (hW : W0.length + E.length ≤ 2400) (kq : ∀ (kz : Int) (f : Nat → Int) (A : Nat → List Int32), mW Z (W0 ++ E) E (f, A) → yw G (d + 1) a mX9_pack 56 [some (.inr 0), some (.inl sz), some (.inl rz), some (.inl kz)] [] (f, A) Q) : ∀ (n k : Nat) (kz : Int) (f : Nat → Int) (A : Nat → List Int32), k + n = E.length → kz = k → mW Z (W0 ++ E.take k) E (f, A) →
    yw G (d + 1) a mX9_pack 32 [some (.inr 0), some (.inl sz), some (.inl rz), some (.inl kz)] [] (f, A) Q := by
  intro n
  induction n with
  | zero =>
    intro k kz f A hk hkz h
    have h18 : f 18 = E.length := (h.2.2 (by omega)).1
    have : k = E.length := by omega
    subst this
    rw [List.take_length] at h
    refine ygo 99999 90 rfl rfl (by first | exact trivial | (simp only [true_and, yu, ya, reduceIte, Nat.reduceEqDiff, Int32.reduceToInt, Int.toNat_natCast, Int.reduceToNat]; omega) | decide | (simp; done) | (simp; omega)) ?_
    try simp only [List.map_cons, List.map_nil, List.length_cons, List.length_nil, ylr_s, ylr_0, Nat.reduceAdd, Nat.reduceSub, List.cons_append, List.nil_append, List.set_cons_zero, List.set_cons_succ, Option.toList_none, Option.toList_some, Int32.reduceToInt, yu, ya, reduceIte, Nat.reduceEqDiff, Int.toNat_natCast, Int.reduceToNat]
    refine yi_icmpge rfl (by refine ⟨?_, ?_⟩ <;> first | exact yr_t _ | exact yr_b _ | (unfold yr; omega)) (fun c => ?_) (fun c => ?_)
    · exact kq _ f A h
    · omega
  | succ n ih =>
    intro k kz f A hk hkz h
    have h18 : f 18 = E.length := (h.2.2 (by omega)).1
    obtain ⟨x, hx⟩ := lt_get (l := E) (j := k) (by omega)
    have hg : (A 17).getD k 0 = x := (h.2.2 (by omega)).2 k x hx
    have hkt : kz.toNat = k := by omega
    refine ygo 99999 90 rfl rfl (by first | exact trivial | (simp only [true_and, yu, ya, reduceIte, Nat.reduceEqDiff, Int32.reduceToInt, Int.toNat_natCast, Int.reduceToNat]; omega) | decide | (simp; done) | (simp; omega)) ?_
    try simp only [List.map_cons, List.map_nil, List.length_cons, List.length_nil, ylr_s, ylr_0, Nat.reduceAdd, Nat.reduceSub, List.cons_append, List.nil_append, List.set_cons_zero, List.set_cons_succ, Option.toList_none, Option.toList_some, Int32.reduceToInt, yu, ya, reduceIte, Nat.reduceEqDiff, Int.toNat_natCast, Int.reduceToNat]
    refine yi_icmpge rfl (by refine ⟨?_, ?_⟩ <;> first | exact yr_t _ | exact yr_b _ | (unfold yr; omega)) (fun c => ?_) (fun c => ?_)
    · omega
    refine ygo 99999 90 rfl rfl (by first | exact trivial | (simp only [true_and, yu, ya, reduceIte, Nat.reduceEqDiff, Int32.reduceToInt, Int.toNat_natCast, Int.reduceToNat]; omega) | decide | (simp; done) | (simp; omega)) ?_
    try simp only [List.map_cons, List.map_nil, List.length_cons, List.length_nil, ylr_s, ylr_0, Nat.reduceAdd, Nat.reduceSub, List.cons_append, List.nil_append, List.set_cons_zero, List.set_cons_succ, Option.toList_none, Option.toList_some, Int32.reduceToInt, yu, ya, reduceIte, Nat.reduceEqDiff, Int.toNat_natCast, Int.reduceToNat]
    refine ycV rfl rfl rfl (cm_write (v := x) h (by rw [hkt, hg, iof]) (by simp only [List.length_append, List.length_take]; omega)) rfl kX9_write iX9_write rfl rfl rfl (Nat.le_of_ble_eq_true rfl) (fun v1 Y1 q1 => ?_)
    obtain ⟨rfl, h1⟩ := q1
    obtain ⟨f1, A1⟩ := Y1
    refine ygo 32 90 rfl rfl (by first | exact trivial | (simp only [true_and, yu, ya, reduceIte, Nat.reduceEqDiff, Int32.reduceToInt, Int.toNat_natCast, Int.reduceToNat]; omega) | decide | (simp; done) | (simp; omega)) ?_
    try simp only [List.map_cons, List.map_nil, List.length_cons, List.length_nil, ylr_s, ylr_0, Nat.reduceAdd, Nat.reduceSub, List.cons_append, List.nil_append, List.set_cons_zero, List.set_cons_succ, Option.toList_none, Option.toList_some, Int32.reduceToInt, yu, ya, reduceIte, Nat.reduceEqDiff, Int.toNat_natCast, Int.reduceToNat]
    refine ih (k + 1) _ _ _ (by omega) (by omega) ?_
    rw [List.take_succ, hx]
    simpa using h1
set_option maxRecDepth 100000 in
set_option maxHeartbeats 2000000 in
theorem l_pack1 {G : xG} {d a : Nat} {Z : pZ} {W0 : List Int32} {sz : Int} {Q : Option yv → yS → Prop} (hk : okK Z.1) (hW : W0.length ≤ 72) (kq : ∀ (rz : Int) (x3 : Option yv) (qs : List Int32) (f : Nat → Int) (A : Nat → List Int32), mW Z (W0 ++ Z.1.2.2.2.flatMap enc) qs (f, A) → yw G (d + 5) a mX9_pack 62 [some (.inr 0), some (.inl sz), some (.inl rz), x3] [] (f, A) Q) : ∀ (n r : Nat) (rz : Int) (x3 : Option yv) (qs : List Int32) (f : Nat → Int) (A : Nat → List Int32), r + n = Z.1.2.2.2.length → rz = r → mW Z (W0 ++ (Z.1.2.2.2.take r).flatMap enc) qs (f, A) →
    yw G (d + 5) a mX9_pack 17 [some (.inr 0), some (.inl sz), some (.inl rz), x3] [] (f, A) Q := by
  have hk8 : Z.1.2.2.2.length ≤ 8 := hk.2.2.2.2.2.2.2.1
  intro n
  induction n with
  | zero =>
    intro r rz x3 qs f A hr hrz h
    have h10 : f 10 = Z.1.2.2.2.length := h.1.1.2.2.2.2.2.2.2.2.1
    have : r = Z.1.2.2.2.length := by omega
    subst this
    rw [List.take_length] at h
    refine ygo 99999 90 rfl rfl (by first | exact trivial | (simp only [true_and, yu, ya, reduceIte, Nat.reduceEqDiff, Int32.reduceToInt, Int.toNat_natCast, Int.reduceToNat]; omega) | decide | (simp; done) | (simp; omega)) ?_
    try simp only [List.map_cons, List.map_nil, List.length_cons, List.length_nil, ylr_s, ylr_0, Nat.reduceAdd, Nat.reduceSub, List.cons_append, List.nil_append, List.set_cons_zero, List.set_cons_succ, Option.toList_none, Option.toList_some, Int32.reduceToInt, yu, ya, reduceIte, Nat.reduceEqDiff, Int.toNat_natCast, Int.reduceToNat]
    refine yi_icmpge rfl (by refine ⟨?_, ?_⟩ <;> first | exact yr_t _ | exact yr_b _ | (unfold yr; omega)) (fun c => ?_) (fun c => ?_)
    · exact kq _ _ qs f A h
    · omega
  | succ n ih =>
    intro r rz x3 qs f A hr hrz h
    have h10 : f 10 = Z.1.2.2.2.length := h.1.1.2.2.2.2.2.2.2.2.1
    obtain ⟨e, he⟩ := lt_get (l := Z.1.2.2.2) (j := r) (by omega)
    have hel := (hk.2.2.2.2.2.2.2.2 e (List.mem_of_getElem? he)).2.2.1
    have hen := enc_len hel
    have hbl : ((Z.1.2.2.2.take r).flatMap enc).length ≤ 240 * 7 := by
      refine Nat.le_trans (flat_len (m := 240) _ (fun e' he' => ?_)) (by rw [List.length_take]; omega)
      exact enc_len ((hk.2.2.2.2.2.2.2.2 e' (List.mem_of_mem_take he')).2.2.1)
    refine ygo 99999 90 rfl rfl (by first | exact trivial | (simp only [true_and, yu, ya, reduceIte, Nat.reduceEqDiff, Int32.reduceToInt, Int.toNat_natCast, Int.reduceToNat]; omega) | decide | (simp; done) | (simp; omega)) ?_
    try simp only [List.map_cons, List.map_nil, List.length_cons, List.length_nil, ylr_s, ylr_0, Nat.reduceAdd, Nat.reduceSub, List.cons_append, List.nil_append, List.set_cons_zero, List.set_cons_succ, Option.toList_none, Option.toList_some, Int32.reduceToInt, yu, ya, reduceIte, Nat.reduceEqDiff, Int.toNat_natCast, Int.reduceToNat]
    refine yi_icmpge rfl (by refine ⟨?_, ?_⟩ <;> first | exact yr_t _ | exact yr_b _ | (unfold yr; omega)) (fun c => ?_) (fun c => ?_)
    · omega
    refine ygo 99999 90 rfl rfl (by first | exact trivial | (simp only [true_and, yu, ya, reduceIte, Nat.reduceEqDiff, Int32.reduceToInt, Int.toNat_natCast, Int.reduceToNat]; omega) | decide | (simp; done) | (simp; omega)) ?_
    try simp only [List.map_cons, List.map_nil, List.length_cons, List.length_nil, ylr_s, ylr_0, Nat.reduceAdd, Nat.reduceSub, List.cons_append, List.nil_append, List.set_cons_zero, List.set_cons_succ, Option.toList_none, Option.toList_some, Int32.reduceToInt, yu, ya, reduceIte, Nat.reduceEqDiff, Int.toNat_natCast, Int.reduceToNat]
    refine ycV rfl rfl rfl (cm_squeezeRow h he (by omega) hrz hel) rfl kX9_squeezeRow iX9_squeezeRow rfl rfl rfl (Nat.le_of_ble_eq_true rfl) (fun v1 Y1 q1 => ?_)
    obtain ⟨rfl, h1⟩ := q1
    obtain ⟨f1, A1⟩ := Y1
    refine ygo 32 90 rfl rfl (by first | exact trivial | (simp only [true_and, yu, ya, reduceIte, Nat.reduceEqDiff, Int32.reduceToInt, Int.toNat_natCast, Int.reduceToNat]; omega) | decide | (simp; done) | (simp; omega)) ?_
    try simp only [List.map_cons, List.map_nil, List.length_cons, List.length_nil, ylr_s, ylr_0, Nat.reduceAdd, Nat.reduceSub, List.cons_append, List.nil_append, List.set_cons_zero, List.set_cons_succ, Option.toList_none, Option.toList_some, Int32.reduceToInt, yu, ya, reduceIte, Nat.reduceEqDiff, Int.toNat_natCast, Int.reduceToNat]
    refine l_pack2 (d := d + 4) (W0 := W0 ++ (Z.1.2.2.2.take r).flatMap enc) (E := enc e) hen (by simp only [List.length_append]; omega) (fun kz f2 A2 h2 => ?_) (enc e).length 0 0 f1 A1 (by omega) rfl (by rw [List.take_zero, List.append_nil]; exact h1)
    refine ygo 17 90 rfl rfl (by first | exact trivial | (simp only [true_and, yu, ya, reduceIte, Nat.reduceEqDiff, Int32.reduceToInt, Int.toNat_natCast, Int.reduceToNat]; omega) | decide | (simp; done) | (simp; omega)) ?_
    try simp only [List.map_cons, List.map_nil, List.length_cons, List.length_nil, ylr_s, ylr_0, Nat.reduceAdd, Nat.reduceSub, List.cons_append, List.nil_append, List.set_cons_zero, List.set_cons_succ, Option.toList_none, Option.toList_some, Int32.reduceToInt, yu, ya, reduceIte, Nat.reduceEqDiff, Int.toNat_natCast, Int.reduceToNat]
    refine ih (r + 1) _ _ (enc e) f2 A2 (by omega) (by omega) ?_
    rw [take_flat he, ← List.append_assoc]
    exact h2
set_option maxRecDepth 100000 in
set_option maxHeartbeats 2000000 in
theorem l_pack3 {G : xG} {d a n0 c0 : Nat} {Z : pZ} {ws qs : List Int32} {sz : Int} {x3 : Option yv} {f : Nat → Int} {A : Nat → List Int32} (h : mW Z ws qs (f, A)) (hlen : yok A) (hP : okP Z.2.2.1) (h16 : Z.2.2.1.length < 16) (hw : ws.length ≤ 700) : ∀ (n k : Nat) (kz : Int) (row : List Int32), k + n = ws.length → kz = k → wrt A Z.2.2.1.length row (ws.take k) →
    yw G (d + 20) a mX9_pack 108 [some (.inr 0), some (.inl sz), some (.inl kz), x3] [] (f, ya A 20 row) (ypost (nI Z.2.2.1.length, Z.1, false, Z.2.2.1 ++ [(n0, c0, ws)], Z.2.2.2)) := by
  have h16' : f 16 = ws.length := h.2.1.1
  have h19 : f 19 = Z.2.2.1.length := h.1.2.1.1
  have hidx : (f 19).toNat = Z.2.2.1.length := by omega
  have hof : Int32.ofInt (f 16) = nI ws.length := by rw [h16']; exact iofn _
  intro n
  induction n with
  | zero =>
    intro k kz row hk hkz hr
    have : k = ws.length := by omega
    subst this
    rw [List.take_length] at hr
    have hmP := mP_wrt (n := n0) (c := c0) h.1.2.1 hlen hP h16 hr
    refine ygo 99999 90 rfl rfl (by first | exact trivial | (simp only [true_and, yu, ya, reduceIte, Nat.reduceEqDiff, Int32.reduceToInt, Int.toNat_natCast, Int.reduceToNat]; omega) | decide | (simp; done) | (simp; omega)) ?_
    try simp only [List.map_cons, List.map_nil, List.length_cons, List.length_nil, ylr_s, ylr_0, Nat.reduceAdd, Nat.reduceSub, List.cons_append, List.nil_append, List.set_cons_zero, List.set_cons_succ, Option.toList_none, Option.toList_some, Int32.reduceToInt, yu, ya, reduceIte, Nat.reduceEqDiff, Int.toNat_natCast, Int.reduceToNat]
    refine yi_icmpge rfl (by refine ⟨?_, ?_⟩ <;> first | exact yr_t _ | exact yr_b _ | (unfold yr; omega)) (fun c => ?_) (fun c => ?_)
    · refine ygo 99999 90 rfl rfl (by first | exact trivial | (simp only [true_and, yu, ya, reduceIte, Nat.reduceEqDiff, Int32.reduceToInt, Int.toNat_natCast, Int.reduceToNat]; omega) | decide | (simp; done) | (simp; omega)) ?_
      try simp only [List.map_cons, List.map_nil, List.length_cons, List.length_nil, ylr_s, ylr_0, Nat.reduceAdd, Nat.reduceSub, List.cons_append, List.nil_append, List.set_cons_zero, List.set_cons_succ, Option.toList_none, Option.toList_some, Int32.reduceToInt, yu, ya, reduceIte, Nat.reduceEqDiff, Int.toNat_natCast, Int.reduceToNat]
      rw [hidx, hof]
      refine yi_ret_i rfl rfl ⟨?_, ⟨rfl, h.1.1.2⟩, hmP, h.1.2.2⟩
      rw [i_n (by omega), h19]
      congr 2
      omega
    · omega
  | succ n ih =>
    intro k kz row hk hkz hr
    obtain ⟨x, hx⟩ := lt_get (l := ws) (j := k) (by omega)
    have hg : (A 15).getD k 0 = x := h.2.1.2 k x hx
    have hkt : kz.toNat = k := by omega
    have i2 : (700 * f 19 + kz).toNat = 700 * Z.2.2.1.length + (ws.take k).length := by rw [List.length_take]; omega
    refine ygo 99999 90 rfl rfl (by first | exact trivial | (simp only [true_and, yu, ya, reduceIte, Nat.reduceEqDiff, Int32.reduceToInt, Int.toNat_natCast, Int.reduceToNat]; omega) | decide | (simp; done) | (simp; omega)) ?_
    try simp only [List.map_cons, List.map_nil, List.length_cons, List.length_nil, ylr_s, ylr_0, Nat.reduceAdd, Nat.reduceSub, List.cons_append, List.nil_append, List.set_cons_zero, List.set_cons_succ, Option.toList_none, Option.toList_some, Int32.reduceToInt, yu, ya, reduceIte, Nat.reduceEqDiff, Int.toNat_natCast, Int.reduceToNat]
    refine yi_icmpge rfl (by refine ⟨?_, ?_⟩ <;> first | exact yr_t _ | exact yr_b _ | (unfold yr; omega)) (fun c => ?_) (fun c => ?_)
    · omega
    refine ygo 108 90 rfl rfl (by first | exact trivial | (simp only [true_and, yu, ya, reduceIte, Nat.reduceEqDiff, Int32.reduceToInt, Int.toNat_natCast, Int.reduceToNat]; omega) | decide | (simp; done) | (simp; omega)) ?_
    try simp only [List.map_cons, List.map_nil, List.length_cons, List.length_nil, ylr_s, ylr_0, Nat.reduceAdd, Nat.reduceSub, List.cons_append, List.nil_append, List.set_cons_zero, List.set_cons_succ, Option.toList_none, Option.toList_some, Int32.reduceToInt, yu, ya, reduceIte, Nat.reduceEqDiff, Int.toNat_natCast, Int.reduceToNat]
    rw [hkt, hg, i2, iof, ya_ya]
    refine ih (k + 1) _ _ (by omega) (by omega) ?_
    rw [List.take_succ, hx]
    exact hr.push (by rw [List.length_take]; omega)
set_option maxRecDepth 100000 in
set_option maxHeartbeats 2000000 in
theorem o_pack {G : xG} {d a n : Nat} {sec : Int32} {Z : pZ} {f : Nat → Int} {A : Nat → List Int32} (h : mR Z (f, A)) (hk : okK Z.1) (hP : okP Z.2.2.1) : ym G (d + 20) a mX9_pack [.inr 0, .inl sec.toInt] (f, A) (ypost (F_pack sec n Z)) := by
  have hk4 : Z.1.2.1.length ≤ 4 := hk.2.2.2.1
  have hk44 : Z.1.2.2.1.length ≤ 4 := hk.2.2.2.2.2.1
  have hk8 : Z.1.2.2.2.length ≤ 8 := hk.2.2.2.2.2.2.2.1
  have h16 := hP.1
  have hb := bInt_01 Z.2.1
  have h0 : f 0 = bInt Z.2.1 := h.1.1
  have hfl : (Z.1.2.2.2.flatMap enc).length ≤ 240 * 8 := by
    refine Nat.le_trans (flat_len (m := 240) _ (fun e' he' => ?_)) (by omega)
    exact enc_len ((hk.2.2.2.2.2.2.2.2 e' he').2.2.1)
  have hhl := wHead_len Z.1 (if sec = 0 then 0 else 1)
  have hwp : wPack Z.1 sec = if sec = 0 then (wHead Z.1 (if sec = 0 then 0 else 1) ++ Z.1.2.2.2.flatMap enc) ++ four (ssum 1 (wHead Z.1 (if sec = 0 then 0 else 1) ++ Z.1.2.2.2.flatMap enc)) else ((wHead Z.1 (if sec = 0 then 0 else 1) ++ Z.1.2.2.2.flatMap enc) ++ four (ssum 1 (wHead Z.1 (if sec = 0 then 0 else 1) ++ Z.1.2.2.2.flatMap enc))) ++ four (ssum sec ((wHead Z.1 (if sec = 0 then 0 else 1) ++ Z.1.2.2.2.flatMap enc) ++ four (ssum 1 (wHead Z.1 (if sec = 0 then 0 else 1) ++ Z.1.2.2.2.flatMap enc)))) := rfl
  unfold F_pack
  refine ym_at 4 rfl (by decide) (Nat.le_of_ble_eq_true rfl) tX9_pack_ok ?_
  try simp only [List.map_cons, List.map_nil, List.length_cons, List.length_nil, ylr_s, ylr_0, Nat.reduceAdd, Nat.reduceSub, List.cons_append, List.nil_append, List.set_cons_zero, List.set_cons_succ, Option.toList_none, Option.toList_some, Int32.reduceToInt, yu, ya, reduceIte, Nat.reduceEqDiff, Int.toNat_natCast, Int.reduceToNat]
  refine ygo 99999 90 rfl rfl (by first | exact trivial | (simp only [true_and, yu, ya, reduceIte, Nat.reduceEqDiff, Int32.reduceToInt, Int.toNat_natCast, Int.reduceToNat]; omega) | decide | (simp; done) | (simp; omega)) ?_
  try simp only [List.map_cons, List.map_nil, List.length_cons, List.length_nil, ylr_s, ylr_0, Nat.reduceAdd, Nat.reduceSub, List.cons_append, List.nil_append, List.set_cons_zero, List.set_cons_succ, Option.toList_none, Option.toList_some, Int32.reduceToInt, yu, ya, reduceIte, Nat.reduceEqDiff, Int.toNat_natCast, Int.reduceToNat]
  refine yi_ifne rfl (by first | exact yr_t _ | exact yr_b _ | (unfold yr; omega)) (fun c1 => ?_) (fun c1 => ?_)
  · rw [h0, bInt_z, Bool.not_eq_false] at c1
    rw [if_neg (by rw [c1]; decide)]
    refine ygo 99999 90 rfl rfl (by first | exact trivial | (simp only [true_and, yu, ya, reduceIte, Nat.reduceEqDiff, Int32.reduceToInt, Int.toNat_natCast, Int.reduceToNat]; omega) | decide | (simp; done) | (simp; omega)) ?_
    try simp only [List.map_cons, List.map_nil, List.length_cons, List.length_nil, ylr_s, ylr_0, Nat.reduceAdd, Nat.reduceSub, List.cons_append, List.nil_append, List.set_cons_zero, List.set_cons_succ, Option.toList_none, Option.toList_some, Int32.reduceToInt, yu, ya, reduceIte, Nat.reduceEqDiff, Int.toNat_natCast, Int.reduceToNat]
    refine ycV rfl rfl rfl (cm_writeHead h hk) rfl kX9_writeHead iX9_writeHead rfl rfl rfl (Nat.le_of_ble_eq_true rfl) (fun v1 Y1 q1 => ?_)
    obtain ⟨rfl, qs, h1⟩ := q1
    obtain ⟨f1, A1⟩ := Y1
    generalize wHead Z.1 (if sec = 0 then 0 else 1) = hd at h1 hhl hwp
    refine ygo 17 90 rfl rfl (by first | exact trivial | (simp only [true_and, yu, ya, reduceIte, Nat.reduceEqDiff, Int32.reduceToInt, Int.toNat_natCast, Int.reduceToNat]; omega) | decide | (simp; done) | (simp; omega)) ?_
    try simp only [List.map_cons, List.map_nil, List.length_cons, List.length_nil, ylr_s, ylr_0, Nat.reduceAdd, Nat.reduceSub, List.cons_append, List.nil_append, List.set_cons_zero, List.set_cons_succ, Option.toList_none, Option.toList_some, Int32.reduceToInt, yu, ya, reduceIte, Nat.reduceEqDiff, Int.toNat_natCast, Int.reduceToNat]
    refine l_pack1 (d := d + 15) (W0 := hd) hk (by omega) (fun rz x3 qs2 f2 A2 h2 => ?_) Z.1.2.2.2.length 0 0 none qs f1 A1 (by omega) rfl (by simpa using h1)
    generalize hbd : hd ++ Z.1.2.2.2.flatMap enc = bd at h2 hwp
    have hbl : bd.length ≤ 72 + 1920 := by rw [← hbd, List.length_append]; omega
    refine ygo 99999 90 rfl rfl (by first | exact trivial | (simp only [true_and, yu, ya, reduceIte, Nat.reduceEqDiff, Int32.reduceToInt, Int.toNat_natCast, Int.reduceToNat]; omega) | decide | (simp; done) | (simp; omega)) ?_
    try simp only [List.map_cons, List.map_nil, List.length_cons, List.length_nil, ylr_s, ylr_0, Nat.reduceAdd, Nat.reduceSub, List.cons_append, List.nil_append, List.set_cons_zero, List.set_cons_succ, Option.toList_none, Option.toList_some, Int32.reduceToInt, yu, ya, reduceIte, Nat.reduceEqDiff, Int.toNat_natCast, Int.reduceToNat]
    refine ycV rfl rfl rfl (cm_writtenSum (s := 1) h2.2.1 (by omega) rfl) rfl kX9_writtenSum iX9_writtenSum rfl rfl rfl (Nat.le_of_ble_eq_true rfl) (fun v2 Y2 q2 => ?_)
    obtain ⟨rfl, rfl⟩ := q2
    refine ygo 99999 90 rfl rfl (by first | exact trivial | (simp only [true_and, yu, ya, reduceIte, Nat.reduceEqDiff, Int32.reduceToInt, Int.toNat_natCast, Int.reduceToNat]; omega) | decide | (simp; done) | (simp; omega)) ?_
    try simp only [List.map_cons, List.map_nil, List.length_cons, List.length_nil, ylr_s, ylr_0, Nat.reduceAdd, Nat.reduceSub, List.cons_append, List.nil_append, List.set_cons_zero, List.set_cons_succ, Option.toList_none, Option.toList_some, Int32.reduceToInt, yu, ya, reduceIte, Nat.reduceEqDiff, Int.toNat_natCast, Int.reduceToNat]
    refine ycV rfl rfl rfl (cm_writeFour h2 (by omega)) rfl kX9_writeFour iX9_writeFour rfl rfl rfl (Nat.le_of_ble_eq_true rfl) (fun v3 Y3 q3 => ?_)
    obtain ⟨rfl, h3⟩ := q3
    obtain ⟨f3, A3⟩ := Y3
    have fin : ∀ (f4 : Nat → Int) (A4 : Nat → List Int32), mW Z (wPack Z.1 sec) qs2 (f4, A4) → (wPack Z.1 sec).length ≤ 2400 → yw G (d + 20) a mX9_pack 84 [some (.inr 0), some (.inl sec.toInt), some (.inl rz), x3] [] (f4, A4) (ypost (if 16 ≤ Z.2.2.1.length ∨ 700 < (wPack Z.1 sec).length then (-3, Z) else (nI Z.2.2.1.length, Z.1, false, Z.2.2.1 ++ [(n, (wPack Z.1 sec).length, wPack Z.1 sec)], Z.2.2.2))) := by
      intro f4 A4 h4 hl4
      generalize wPack Z.1 sec = wp at h4 hl4
      refine yw.len (fun hlen => ?_)
      have l20 : (A4 20).length = 11200 := hlen 20 _ rfl
      have e19 : f4 19 = Z.2.2.1.length := h4.1.2.1.1
      have e16 : f4 16 = wp.length := h4.2.1.1
      refine ygo 99999 90 rfl rfl (by first | exact trivial | (simp only [true_and, yu, ya, reduceIte, Nat.reduceEqDiff, Int32.reduceToInt, Int.toNat_natCast, Int.reduceToNat]; omega) | decide | (simp; done) | (simp; omega)) ?_
      try simp only [List.map_cons, List.map_nil, List.length_cons, List.length_nil, ylr_s, ylr_0, Nat.reduceAdd, Nat.reduceSub, List.cons_append, List.nil_append, List.set_cons_zero, List.set_cons_succ, Option.toList_none, Option.toList_some, Int32.reduceToInt, yu, ya, reduceIte, Nat.reduceEqDiff, Int.toNat_natCast, Int.reduceToNat]
      refine yi_icmpeq rfl (by refine ⟨?_, ?_⟩ <;> first | exact yr_t _ | exact yr_b _ | (unfold yr; omega)) (fun c2 => ?_) (fun c2 => ?_)
      · rw [if_pos (Or.inl (by omega))]
        refine ygo 99999 90 rfl rfl (by first | exact trivial | (simp only [true_and, yu, ya, reduceIte, Nat.reduceEqDiff, Int32.reduceToInt, Int.toNat_natCast, Int.reduceToNat]; omega) | decide | (simp; done) | (simp; omega)) ?_
        try simp only [List.map_cons, List.map_nil, List.length_cons, List.length_nil, ylr_s, ylr_0, Nat.reduceAdd, Nat.reduceSub, List.cons_append, List.nil_append, List.set_cons_zero, List.set_cons_succ, Option.toList_none, Option.toList_some, Int32.reduceToInt, yu, ya, reduceIte, Nat.reduceEqDiff, Int.toNat_natCast, Int.reduceToNat]
        refine yi_ret_i rfl rfl (ypost.same h4.1 rfl rfl)
      refine ygo 99999 90 rfl rfl (by first | exact trivial | (simp only [true_and, yu, ya, reduceIte, Nat.reduceEqDiff, Int32.reduceToInt, Int.toNat_natCast, Int.reduceToNat]; omega) | decide | (simp; done) | (simp; omega)) ?_
      try simp only [List.map_cons, List.map_nil, List.length_cons, List.length_nil, ylr_s, ylr_0, Nat.reduceAdd, Nat.reduceSub, List.cons_append, List.nil_append, List.set_cons_zero, List.set_cons_succ, Option.toList_none, Option.toList_some, Int32.reduceToInt, yu, ya, reduceIte, Nat.reduceEqDiff, Int.toNat_natCast, Int.reduceToNat]
      refine yi_icmple rfl (by refine ⟨?_, ?_⟩ <;> first | exact yr_t _ | exact yr_b _ | (unfold yr; omega)) (fun c3 => ?_) (fun c3 => ?_)
      · rw [if_neg (by omega)]
        have hA : A4 = ya A4 20 (A4 20) := by
          funext q
          unfold ya
          by_cases e : q = 20
          · subst e; rfl
          · rw [if_neg e]
        refine ygo 108 90 rfl rfl (by first | exact trivial | (simp only [true_and, yu, ya, reduceIte, Nat.reduceEqDiff, Int32.reduceToInt, Int.toNat_natCast, Int.reduceToNat]; omega) | decide | (simp; done) | (simp; omega)) ?_
        try simp only [List.map_cons, List.map_nil, List.length_cons, List.length_nil, ylr_s, ylr_0, Nat.reduceAdd, Nat.reduceSub, List.cons_append, List.nil_append, List.set_cons_zero, List.set_cons_succ, Option.toList_none, Option.toList_some, Int32.reduceToInt, yu, ya, reduceIte, Nat.reduceEqDiff, Int.toNat_natCast, Int.reduceToNat]
        rw [hA]
        exact l_pack3 h4 hlen hP (by omega) (by omega) wp.length 0 0 (A4 20) (by omega) rfl ⟨l20, fun j x hx => by simp at hx, fun q hq => rfl⟩
      · rw [if_pos (Or.inr (by omega))]
        refine ygo 99999 90 rfl rfl (by first | exact trivial | (simp only [true_and, yu, ya, reduceIte, Nat.reduceEqDiff, Int32.reduceToInt, Int.toNat_natCast, Int.reduceToNat]; omega) | decide | (simp; done) | (simp; omega)) ?_
        try simp only [List.map_cons, List.map_nil, List.length_cons, List.length_nil, ylr_s, ylr_0, Nat.reduceAdd, Nat.reduceSub, List.cons_append, List.nil_append, List.set_cons_zero, List.set_cons_succ, Option.toList_none, Option.toList_some, Int32.reduceToInt, yu, ya, reduceIte, Nat.reduceEqDiff, Int.toNat_natCast, Int.reduceToNat]
        refine yi_ret_i rfl rfl (ypost.same h4.1 rfl rfl)
    refine ygo 99999 90 rfl rfl (by first | exact trivial | (simp only [true_and, yu, ya, reduceIte, Nat.reduceEqDiff, Int32.reduceToInt, Int.toNat_natCast, Int.reduceToNat]; omega) | decide | (simp; done) | (simp; omega)) ?_
    try simp only [List.map_cons, List.map_nil, List.length_cons, List.length_nil, ylr_s, ylr_0, Nat.reduceAdd, Nat.reduceSub, List.cons_append, List.nil_append, List.set_cons_zero, List.set_cons_succ, Option.toList_none, Option.toList_some, Int32.reduceToInt, yu, ya, reduceIte, Nat.reduceEqDiff, Int.toNat_natCast, Int.reduceToNat]
    refine yi_ifeq rfl (by first | exact yr_t _ | exact yr_b _ | (unfold yr; omega)) (fun c4 => ?_) (fun c4 => ?_)
    · rw [← y0, ti] at c4
      rw [if_pos c4] at hwp
      exact fin f3 A3 (by rw [hwp]; exact h3) (by rw [hwp, List.length_append, four_len]; omega)
    · rw [← y0, ti] at c4
      rw [if_neg c4] at hwp
      refine ygo 99999 90 rfl rfl (by first | exact trivial | (simp only [true_and, yu, ya, reduceIte, Nat.reduceEqDiff, Int32.reduceToInt, Int.toNat_natCast, Int.reduceToNat]; omega) | decide | (simp; done) | (simp; omega)) ?_
      try simp only [List.map_cons, List.map_nil, List.length_cons, List.length_nil, ylr_s, ylr_0, Nat.reduceAdd, Nat.reduceSub, List.cons_append, List.nil_append, List.set_cons_zero, List.set_cons_succ, Option.toList_none, Option.toList_some, Int32.reduceToInt, yu, ya, reduceIte, Nat.reduceEqDiff, Int.toNat_natCast, Int.reduceToNat]
      refine ycV rfl rfl rfl (cm_writtenSum (s := sec) h3.2.1 (by rw [List.length_append, four_len]; omega) rfl) rfl kX9_writtenSum iX9_writtenSum rfl rfl rfl (Nat.le_of_ble_eq_true rfl) (fun v4 Y4 q4 => ?_)
      obtain ⟨rfl, rfl⟩ := q4
      refine ygo 99999 90 rfl rfl (by first | exact trivial | (simp only [true_and, yu, ya, reduceIte, Nat.reduceEqDiff, Int32.reduceToInt, Int.toNat_natCast, Int.reduceToNat]; omega) | decide | (simp; done) | (simp; omega)) ?_
      try simp only [List.map_cons, List.map_nil, List.length_cons, List.length_nil, ylr_s, ylr_0, Nat.reduceAdd, Nat.reduceSub, List.cons_append, List.nil_append, List.set_cons_zero, List.set_cons_succ, Option.toList_none, Option.toList_some, Int32.reduceToInt, yu, ya, reduceIte, Nat.reduceEqDiff, Int.toNat_natCast, Int.reduceToNat]
      refine ycV rfl rfl rfl (cm_writeFour h3 (by rw [List.length_append, four_len]; omega)) rfl kX9_writeFour iX9_writeFour rfl rfl rfl (Nat.le_of_ble_eq_true rfl) (fun v5 Y5 q5 => ?_)
      obtain ⟨rfl, h5⟩ := q5
      obtain ⟨f5, A5⟩ := Y5
      exact fin f5 A5 (by rw [hwp]; exact h5) (by rw [hwp]; simp only [List.length_append, four_len]; omega)
  · rw [h0, bInt_z] at c1
    refine ygo 99999 90 rfl rfl (by first | exact trivial | (simp only [true_and, yu, ya, reduceIte, Nat.reduceEqDiff, Int32.reduceToInt, Int.toNat_natCast, Int.reduceToNat]; omega) | decide | (simp; done) | (simp; omega)) ?_
    try simp only [List.map_cons, List.map_nil, List.length_cons, List.length_nil, ylr_s, ylr_0, Nat.reduceAdd, Nat.reduceSub, List.cons_append, List.nil_append, List.set_cons_zero, List.set_cons_succ, Option.toList_none, Option.toList_some, Int32.reduceToInt, yu, ya, reduceIte, Nat.reduceEqDiff, Int.toNat_natCast, Int.reduceToNat]
    refine yi_ret_i rfl rfl (ypost.same h (if_pos c1) rfl)
