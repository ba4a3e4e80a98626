theorem mW.sq {Z : pZ} {ws qs : List Int32} {f : Nat → Int} {A : Nat → List Int32} (h : mW Z ws qs (f, A)) : mW Z ws [] (yu f 18 0, A) := ⟨h.1, h.2.1, fun _ => ⟨rfl, fun i x hx => by simp at hx⟩⟩
set_option maxRecDepth 100000 in
set_option maxHeartbeats 2000000 in
theorem l_sqPlain {G : xG} {d a r : Nat} {Z : pZ} {ws P : List Int32} {e : Int32 × Int32 × List Int32} {fz : Int} (he : Z.1.2.2.2[r]? = some e) (hP : e.2.2 = P) (hr : r < 8) (hfz : fz = 120 * r) (hP1 : P.length ≤ 120) : ∀ (n k : Nat) (kz : Int) (f : Nat → Int) (A : Nat → List Int32), k + n = P.length → kz = k → mW Z ws (P.take k) (f, A) →
    yw G (d + 1) a mX9_squeezeRow 60 [some (.inr 0), some (.inl r), some (.inl fz), some (.inl kz)] [] (f, A) (fun w Y' => w = none ∧ mW Z ws P Y') := by
  intro n
  induction n with
  | zero =>
    intro k kz f A hk hkz h
    have : k = P.length := by omega
    subst this
    rw [List.take_length] at h
    have h13 : (A 13).getD r 0 = nI P.length := by rw [← hP]; exact (h.1.1.2.2.2.2.2.2.2.2.2 r e he).2.2.1
    have hl : ((A 13).getD r 0).toInt = P.length := by rw [h13, i_n (by omega)]
    refine ygo 99999 90 rfl rfl (by first | exact trivial | (simp only [true_and, yu, ya, reduceIte, Nat.reduceEqDiff, Int32.reduceToInt, Int.toNat_natCast, Int.reduceToNat]; omega) | decide | (simp; done) | (simp; omega)) ?_
    try simp only [List.map_cons, List.map_nil, List.length_cons, List.length_nil, ylr_s, ylr_0, Nat.reduceAdd, Nat.reduceSub, List.cons_append, List.nil_append, List.set_cons_zero, List.set_cons_succ, Option.toList_none, Option.toList_some, Int32.reduceToInt, yu, ya, reduceIte, Nat.reduceEqDiff, Int.toNat_natCast, Int.reduceToNat]
    refine yi_icmpge rfl (by refine ⟨?_, ?_⟩ <;> first | exact yr_t _ | exact yr_b _ | (unfold yr; omega)) (fun c => ?_) (fun c => ?_)
    · refine ygo 99999 90 rfl rfl (by first | exact trivial | (simp only [true_and, yu, ya, reduceIte, Nat.reduceEqDiff, Int32.reduceToInt, Int.toNat_natCast, Int.reduceToNat]; omega) | decide | (simp; done) | (simp; omega)) ?_
      try simp only [List.map_cons, List.map_nil, List.length_cons, List.length_nil, ylr_s, ylr_0, Nat.reduceAdd, Nat.reduceSub, List.cons_append, List.nil_append, List.set_cons_zero, List.set_cons_succ, Option.toList_none, Option.toList_some, Int32.reduceToInt, yu, ya, reduceIte, Nat.reduceEqDiff, Int.toNat_natCast, Int.reduceToNat]
      refine yi_ret_v rfl rfl ⟨rfl, h⟩
    · rw [hl] at c; omega
  | succ n ih =>
    intro k kz f A hk hkz h
    have h13 : (A 13).getD r 0 = nI P.length := by rw [← hP]; exact (h.1.1.2.2.2.2.2.2.2.2.2 r e he).2.2.1
    have hl : ((A 13).getD r 0).toInt = P.length := by rw [h13, i_n (by omega)]
    obtain ⟨x, hx⟩ := lt_get (l := P) (j := k) (by omega)
    have hg := h.pg he k x (by rw [hP]; exact hx)
    have i1 : (fz + kz).toNat = 120 * r + k := by omega
    refine ygo 99999 90 rfl rfl (by first | exact trivial | (simp only [true_and, yu, ya, reduceIte, Nat.reduceEqDiff, Int32.reduceToInt, Int.toNat_natCast, Int.reduceToNat]; omega) | decide | (simp; done) | (simp; omega)) ?_
    try simp only [List.map_cons, List.map_nil, List.length_cons, List.length_nil, ylr_s, ylr_0, Nat.reduceAdd, Nat.reduceSub, List.cons_append, List.nil_append, List.set_cons_zero, List.set_cons_succ, Option.toList_none, Option.toList_some, Int32.reduceToInt, yu, ya, reduceIte, Nat.reduceEqDiff, Int.toNat_natCast, Int.reduceToNat]
    refine yi_icmpge rfl (by refine ⟨?_, ?_⟩ <;> first | exact yr_t _ | exact yr_b _ | (unfold yr; omega)) (fun c => ?_) (fun c => ?_)
    · rw [hl] at c; omega
    refine ygo 99999 90 rfl rfl (by first | exact trivial | (simp only [true_and, yu, ya, reduceIte, Nat.reduceEqDiff, Int32.reduceToInt, Int.toNat_natCast, Int.reduceToNat]; omega) | decide | (simp; done) | (simp; omega)) ?_
    try simp only [List.map_cons, List.map_nil, List.length_cons, List.length_nil, ylr_s, ylr_0, Nat.reduceAdd, Nat.reduceSub, List.cons_append, List.nil_append, List.set_cons_zero, List.set_cons_succ, Option.toList_none, Option.toList_some, Int32.reduceToInt, yu, ya, reduceIte, Nat.reduceEqDiff, Int.toNat_natCast, Int.reduceToNat]
    refine ycV rfl rfl rfl (cm_squeeze (v := x) h (by rw [i1, hg, iof]) (by simp only [List.length_take]; omega)) rfl kX9_squeeze iX9_squeeze rfl rfl rfl (Nat.le_of_ble_eq_true rfl) (fun v1 Y1 q1 => ?_)
    obtain ⟨rfl, h1⟩ := q1
    obtain ⟨f1, A1⟩ := Y1
    refine ygo 60 90 rfl rfl (by first | exact trivial | (simp only [true_and, yu, ya, reduceIte, Nat.reduceEqDiff, Int32.reduceToInt, Int.toNat_natCast, Int.reduceToNat]; omega) | decide | (simp; done) | (simp; omega)) ?_
    try simp only [List.map_cons, List.map_nil, List.length_cons, List.length_nil, ylr_s, ylr_0, Nat.reduceAdd, Nat.reduceSub, List.cons_append, List.nil_append, List.set_cons_zero, List.set_cons_succ, Option.toList_none, Option.toList_some, Int32.reduceToInt, yu, ya, reduceIte, Nat.reduceEqDiff, Int.toNat_natCast, Int.reduceToNat]
    refine ih (k + 1) _ _ _ (by omega) (by omega) ?_
    rw [List.take_succ, hx]
    exact h1
set_option maxRecDepth 100000 in
set_option maxHeartbeats 2000000 in
theorem cm_pairs {G : xG} {d a r : Nat} {Z : pZ} {ws P : List Int32} {e : Int32 × Int32 × List Int32} {fz nz : Int} {f : Nat → Int} {A : Nat → List Int32} (h : mW Z ws [] (f, A)) (he : Z.1.2.2.2[r]? = some e) (hP : e.2.2 = P) (hr : r < 8) (hfz : fz = 120 * r) (hnz : nz = P.length) (hP1 : P.length ≤ 120) : ym G (d + 1) a mX9_writePairs [.inr 0, .inl fz, .inl nz] (f, A) (fun w Y' => w = none ∧ mW Z ws (prs 0 P) Y') := by
  refine ym_at 5 rfl (by decide) (Nat.le_of_ble_eq_true rfl) tX9_writePairs_ok ?_
  try simp only [List.map_cons, List.map_nil, List.length_cons, List.length_nil, ylr_s, ylr_0, Nat.reduceAdd, Nat.reduceSub, List.cons_append, List.nil_append, List.set_cons_zero, List.set_cons_succ, Option.toList_none, Option.toList_some, Int32.reduceToInt, yu, ya, reduceIte, Nat.reduceEqDiff, Int.toNat_natCast, Int.reduceToNat]
  refine ygo 2 90 rfl rfl (by first | exact trivial | (simp only [true_and, yu, ya, reduceIte, Nat.reduceEqDiff, Int32.reduceToInt, Int.toNat_natCast, Int.reduceToNat]; omega) | decide | (simp; done) | (simp; omega)) ?_
  try simp only [List.map_cons, List.map_nil, List.length_cons, List.length_nil, ylr_s, ylr_0, Nat.reduceAdd, Nat.reduceSub, List.cons_append, List.nil_append, List.set_cons_zero, List.set_cons_succ, Option.toList_none, Option.toList_some, Int32.reduceToInt, yu, ya, reduceIte, Nat.reduceEqDiff, Int.toNat_natCast, Int.reduceToNat]
  exact l_pairs he hP hr hfz hnz hP1 P.length 0 0 [] none f A (by omega) (by omega) rfl (by simp) (by simp; omega) h
set_option maxRecDepth 100000 in
set_option maxHeartbeats 2000000 in
theorem cm_ops {G : xG} {d a r : Nat} {Z : pZ} {ws P : List Int32} {e : Int32 × Int32 × List Int32} {fz nz : Int} {f : Nat → Int} {A : Nat → List Int32} (h : mW Z ws [] (f, A)) (he : Z.1.2.2.2[r]? = some e) (hP : e.2.2 = P) (hr : r < 8) (hfz : fz = 120 * r) (hnz : nz = P.length) (hP1 : P.length ≤ 120) : ym G (d + 3) a mX9_writeOps [.inr 0, .inl fz, .inl nz] (f, A) (fun w Y' => w = none ∧ mW Z ws (opz P P.length 0 0) Y') := by
  refine ym_at 7 rfl (by decide) (Nat.le_of_ble_eq_true rfl) tX9_writeOps_ok ?_
  try simp only [List.map_cons, List.map_nil, List.length_cons, List.length_nil, ylr_s, ylr_0, Nat.reduceAdd, Nat.reduceSub, List.cons_append, List.nil_append, List.set_cons_zero, List.set_cons_succ, Option.toList_none, Option.toList_some, Int32.reduceToInt, yu, ya, reduceIte, Nat.reduceEqDiff, Int.toNat_natCast, Int.reduceToNat]
  refine ygo 5 90 rfl rfl (by first | exact trivial | (simp only [true_and, yu, ya, reduceIte, Nat.reduceEqDiff, Int32.reduceToInt, Int.toNat_natCast, Int.reduceToNat]; omega) | decide | (simp; done) | (simp; omega)) ?_
  try simp only [List.map_cons, List.map_nil, List.length_cons, List.length_nil, ylr_s, ylr_0, Nat.reduceAdd, Nat.reduceSub, List.cons_append, List.nil_append, List.set_cons_zero, List.set_cons_succ, Option.toList_none, Option.toList_some, Int32.reduceToInt, yu, ya, reduceIte, Nat.reduceEqDiff, Int.toNat_natCast, Int.reduceToNat]
  exact l_ops he hP hr hfz hnz hP1 P.length 0 0 0 0 [] none none f A (by omega) (Nat.le_refl _) (by omega) rfl rfl (by simp) (by simp; omega) h
set_option maxRecDepth 100000 in
set_option maxHeartbeats 2000000 in
theorem cm_squeezeRow {G : xG} {d a r : Nat} {Z : pZ} {ws qs : List Int32} {e : Int32 × Int32 × List Int32} {rz : Int} {f : Nat → Int} {A : Nat → List Int32} (h : mW Z ws qs (f, A)) (he : Z.1.2.2.2[r]? = some e) (hr : r < 8) (hrz : rz = r) (hP1 : e.2.2.length ≤ 120) : ym G (d + 4) a mX9_squeezeRow [.inr 0, .inl rz] (f, A) (fun w Y' => w = none ∧ mW Z ws (enc e) Y') := by
  subst hrz
  have h0 := h.sq
  have hD := h.1.1.2.2.2.2.2.2.2.2.2 r e he
  dsimp only at hD
  have hl : ((A 13).getD r 0).toInt = e.2.2.length := by rw [hD.2.2.1, i_n (by omega)]
  have z1 : (1 : Int32).toInt = 1 := rfl
  have z2 : (2 : Int32).toInt = 2 := rfl
  unfold enc
  refine ym_at 4 rfl (by decide) (Nat.le_of_ble_eq_true rfl) tX9_squeezeRow_ok ?_
  try simp only [List.map_cons, List.map_nil, List.length_cons, List.length_nil, ylr_s, ylr_0, Nat.reduceAdd, Nat.reduceSub, List.cons_append, List.nil_append, List.set_cons_zero, List.set_cons_succ, Option.toList_none, Option.toList_some, Int32.reduceToInt, yu, ya, reduceIte, Nat.reduceEqDiff, Int.toNat_natCast, Int.reduceToNat]
  refine ygo 99999 90 rfl rfl (by first | exact trivial | (simp only [true_and, yu, ya, reduceIte, Nat.reduceEqDiff, Int32.reduceToInt, Int.toNat_natCast, Int.reduceToNat]; omega) | decide | (simp; done) | (simp; omega)) ?_
  try simp only [List.map_cons, List.map_nil, List.length_cons, List.length_nil, ylr_s, ylr_0, Nat.reduceAdd, Nat.reduceSub, List.cons_append, List.nil_append, List.set_cons_zero, List.set_cons_succ, Option.toList_none, Option.toList_some, Int32.reduceToInt, yu, ya, reduceIte, Nat.reduceEqDiff, Int.toNat_natCast, Int.reduceToNat]
  refine yi_icmpne rfl (by refine ⟨?_, ?_⟩ <;> first | exact yr_t _ | exact yr_b _ | (unfold yr; omega)) (fun c1 => ?_) (fun c1 => ?_)
  · rw [hD.2.1, ← z1, ti] at c1
    rw [if_neg c1]
    refine ygo 99999 90 rfl rfl (by first | exact trivial | (simp only [true_and, yu, ya, reduceIte, Nat.reduceEqDiff, Int32.reduceToInt, Int.toNat_natCast, Int.reduceToNat]; omega) | decide | (simp; done) | (simp; omega)) ?_
    try simp only [List.map_cons, List.map_nil, List.length_cons, List.length_nil, ylr_s, ylr_0, Nat.reduceAdd, Nat.reduceSub, List.cons_append, List.nil_append, List.set_cons_zero, List.set_cons_succ, Option.toList_none, Option.toList_some, Int32.reduceToInt, yu, ya, reduceIte, Nat.reduceEqDiff, Int.toNat_natCast, Int.reduceToNat]
    refine yi_icmpne rfl (by refine ⟨?_, ?_⟩ <;> first | exact yr_t _ | exact yr_b _ | (unfold yr; omega)) (fun c2 => ?_) (fun c2 => ?_)
    · rw [hD.2.1, ← z2, ti] at c2
      rw [if_neg c2]
      refine ygo 60 90 rfl rfl (by first | exact trivial | (simp only [true_and, yu, ya, reduceIte, Nat.reduceEqDiff, Int32.reduceToInt, Int.toNat_natCast, Int.reduceToNat]; omega) | decide | (simp; done) | (simp; omega)) ?_
      try simp only [List.map_cons, List.map_nil, List.length_cons, List.length_nil, ylr_s, ylr_0, Nat.reduceAdd, Nat.reduceSub, List.cons_append, List.nil_append, List.set_cons_zero, List.set_cons_succ, Option.toList_none, Option.toList_some, Int32.reduceToInt, yu, ya, reduceIte, Nat.reduceEqDiff, Int.toNat_natCast, Int.reduceToNat]
      exact l_sqPlain he rfl hr (by omega) hP1 e.2.2.length 0 0 _ _ (by omega) rfl (by rw [List.take_zero]; exact h0)
    · rw [hD.2.1, ← z2, ti] at c2
      rw [if_pos c2]
      refine ygo 99999 90 rfl rfl (by first | exact trivial | (simp only [true_and, yu, ya, reduceIte, Nat.reduceEqDiff, Int32.reduceToInt, Int.toNat_natCast, Int.reduceToNat]; omega) | decide | (simp; done) | (simp; omega)) ?_
      try simp only [List.map_cons, List.map_nil, List.length_cons, List.length_nil, ylr_s, ylr_0, Nat.reduceAdd, Nat.reduceSub, List.cons_append, List.nil_append, List.set_cons_zero, List.set_cons_succ, Option.toList_none, Option.toList_some, Int32.reduceToInt, yu, ya, reduceIte, Nat.reduceEqDiff, Int.toNat_natCast, Int.reduceToNat]
      refine ycV rfl rfl rfl (cm_ops h0 he rfl hr (by omega) hl hP1) rfl kX9_writeOps iX9_writeOps rfl rfl rfl (Nat.le_of_ble_eq_true rfl) (fun v1 Y1 q1 => ?_)
      obtain ⟨rfl, h1⟩ := q1
      obtain ⟨f1, A1⟩ := Y1
      refine ygo 99999 90 rfl rfl (by first | exact trivial | (simp only [true_and, yu, ya, reduceIte, Nat.reduceEqDiff, Int32.reduceToInt, Int.toNat_natCast, Int.reduceToNat]; omega) | decide | (simp; done) | (simp; omega)) ?_
      try simp only [List.map_cons, List.map_nil, List.length_cons, List.length_nil, ylr_s, ylr_0, Nat.reduceAdd, Nat.reduceSub, List.cons_append, List.nil_append, List.set_cons_zero, List.set_cons_succ, Option.toList_none, Option.toList_some, Int32.reduceToInt, yu, ya, reduceIte, Nat.reduceEqDiff, Int.toNat_natCast, Int.reduceToNat]
      refine yi_ret_v rfl rfl ⟨rfl, h1⟩
  · rw [hD.2.1, ← z1, ti] at c1
    rw [if_pos c1]
    refine ygo 99999 90 rfl rfl (by first | exact trivial | (simp only [true_and, yu, ya, reduceIte, Nat.reduceEqDiff, Int32.reduceToInt, Int.toNat_natCast, Int.reduceToNat]; omega) | decide | (simp; done) | (simp; omega)) ?_
    try simp only [List.map_cons, List.map_nil, List.length_cons, List.length_nil, ylr_s, ylr_0, Nat.reduceAdd, Nat.reduceSub, List.cons_append, List.nil_append, List.set_cons_zero, List.set_cons_succ, Option.toList_none, Option.toList_some, Int32.reduceToInt, yu, ya, reduceIte, Nat.reduceEqDiff, Int.toNat_natCast, Int.reduceToNat]
    refine ycV rfl rfl rfl (cm_pairs h0 he rfl hr (by omega) hl hP1) rfl kX9_writePairs iX9_writePairs rfl rfl rfl (Nat.le_of_ble_eq_true rfl) (fun v1 Y1 q1 => ?_)
    obtain ⟨rfl, h1⟩ := q1
    obtain ⟨f1, A1⟩ := Y1
    refine ygo 99999 90 rfl rfl (by first | exact trivial | (simp only [true_and, yu, ya, reduceIte, Nat.reduceEqDiff, Int32.reduceToInt, Int.toNat_natCast, Int.reduceToNat]; omega) | decide | (simp; done) | (simp; omega)) ?_
    try simp only [List.map_cons, List.map_nil, List.length_cons, List.length_nil, ylr_s, ylr_0, Nat.reduceAdd, Nat.reduceSub, List.cons_append, List.nil_append, List.set_cons_zero, List.set_cons_succ, Option.toList_none, Option.toList_some, Int32.reduceToInt, yu, ya, reduceIte, Nat.reduceEqDiff, Int.toNat_natCast, Int.reduceToNat]
    refine yi_ret_v rfl rfl ⟨rfl, h1⟩
set_option maxRecDepth 100000 in
set_option maxHeartbeats 2000000 in
theorem l_wh3 {G : xG} {d a : Nat} {Z : pZ} {W0 : List Int32} {sz : Int} (hk : okK Z.1) (hW : W0.length + 48 ≤ 2400) : ∀ (n r : Nat) (rz : Int) (qs : List Int32) (f : Nat → Int) (A : Nat → List Int32), r + n = Z.1.2.2.2.length → rz = r → mW Z (W0 ++ (Z.1.2.2.2.take r).flatMap wRow) qs (f, A) →
    yw G (d + 5) a mX9_writeHead 149 [some (.inr 0), some (.inl sz), some (.inl rz)] [] (f, A) (fun w Y' => w = none ∧ ∃ qs, mW Z (W0 ++ Z.1.2.2.2.flatMap wRow) qs Y') := by
  have hk8 : Z.1.2.2.2.length ≤ 8 := hk.2.2.2.2.2.2.2.1
  intro n
  induction n with
  | zero =>
    intro r rz qs f A hr hrz h
    have h10 : f 10 = Z.1.2.2.2.length := h.1.1.2.2.2.2.2.2.2.2.1
    have : r = Z.1.2.2.2.length := by omega
    subst this
    rw [List.take_length] at h
    refine ygo 99999 90 rfl rfl (by first | exact trivial | (simp only [true_and, yu, ya, reduceIte, Nat.reduceEqDiff, Int32.reduceToInt, Int.toNat_natCast, Int.reduceToNat]; omega) | decide | (simp; done) | (simp; omega)) ?_
    try simp only [List.map_cons, List.map_nil, List.length_cons, List.length_nil, ylr_s, ylr_0, Nat.reduceAdd, Nat.reduceSub, List.cons_append, List.nil_append, List.set_cons_zero, List.set_cons_succ, Option.toList_none, Option.toList_some, Int32.reduceToInt, yu, ya, reduceIte, Nat.reduceEqDiff, Int.toNat_natCast, Int.reduceToNat]
    refine yi_icmpge rfl (by refine ⟨?_, ?_⟩ <;> first | exact yr_t _ | exact yr_b _ | (unfold yr; omega)) (fun c => ?_) (fun c => ?_)
    · refine ygo 99999 90 rfl rfl (by first | exact trivial | (simp only [true_and, yu, ya, reduceIte, Nat.reduceEqDiff, Int32.reduceToInt, Int.toNat_natCast, Int.reduceToNat]; omega) | decide | (simp; done) | (simp; omega)) ?_
      try simp only [List.map_cons, List.map_nil, List.length_cons, List.length_nil, ylr_s, ylr_0, Nat.reduceAdd, Nat.reduceSub, List.cons_append, List.nil_append, List.set_cons_zero, List.set_cons_succ, Option.toList_none, Option.toList_some, Int32.reduceToInt, yu, ya, reduceIte, Nat.reduceEqDiff, Int.toNat_natCast, Int.reduceToNat]
      refine yi_ret_v rfl rfl ⟨rfl, qs, h⟩
    · omega
  | succ n ih =>
    intro r rz qs f A hr hrz h
    have h10 : f 10 = Z.1.2.2.2.length := h.1.1.2.2.2.2.2.2.2.2.1
    obtain ⟨e, he⟩ := lt_get (l := Z.1.2.2.2) (j := r) (by omega)
    have hel := (hk.2.2.2.2.2.2.2.2 e (List.mem_of_getElem? he)).2.2.1
    have hen := enc_len hel
    have hfl := take_fl (f := wRow) (m := 6) (l := Z.1.2.2.2) (j := r) (fun e => rfl) (by omega)
    subst hrz
    refine ygo 99999 90 rfl rfl (by first | exact trivial | (simp only [true_and, yu, ya, reduceIte, Nat.reduceEqDiff, Int32.reduceToInt, Int.toNat_natCast, Int.reduceToNat]; omega) | decide | (simp; done) | (simp; omega)) ?_
    try simp only [List.map_cons, List.map_nil, List.length_cons, List.length_nil, ylr_s, ylr_0, Nat.reduceAdd, Nat.reduceSub, List.cons_append, List.nil_append, List.set_cons_zero, List.set_cons_succ, Option.toList_none, Option.toList_some, Int32.reduceToInt, yu, ya, reduceIte, Nat.reduceEqDiff, Int.toNat_natCast, Int.reduceToNat]
    refine yi_icmpge rfl (by refine ⟨?_, ?_⟩ <;> first | exact yr_t _ | exact yr_b _ | (unfold yr; omega)) (fun c => ?_) (fun c => ?_)
    · omega
    refine ygo 99999 90 rfl rfl (by first | exact trivial | (simp only [true_and, yu, ya, reduceIte, Nat.reduceEqDiff, Int32.reduceToInt, Int.toNat_natCast, Int.reduceToNat]; omega) | decide | (simp; done) | (simp; omega)) ?_
    try simp only [List.map_cons, List.map_nil, List.length_cons, List.length_nil, ylr_s, ylr_0, Nat.reduceAdd, Nat.reduceSub, List.cons_append, List.nil_append, List.set_cons_zero, List.set_cons_succ, Option.toList_none, Option.toList_some, Int32.reduceToInt, yu, ya, reduceIte, Nat.reduceEqDiff, Int.toNat_natCast, Int.reduceToNat]
    refine ycV rfl rfl rfl (cm_squeezeRow h he (by omega) rfl hel) rfl kX9_squeezeRow iX9_squeezeRow rfl rfl rfl (Nat.le_of_ble_eq_true rfl) (fun v1 Y1 q1 => ?_)
    obtain ⟨rfl, h1⟩ := q1
    obtain ⟨f1, A1⟩ := Y1
    have D1 := h1.1.1.2.2.2.2.2.2.2.2.2 r e he
    dsimp only at D1
    refine ygo 99999 90 rfl rfl (by first | exact trivial | (simp only [true_and, yu, ya, reduceIte, Nat.reduceEqDiff, Int32.reduceToInt, Int.toNat_natCast, Int.reduceToNat]; omega) | decide | (simp; done) | (simp; omega)) ?_
    try simp only [List.map_cons, List.map_nil, List.length_cons, List.length_nil, ylr_s, ylr_0, Nat.reduceAdd, Nat.reduceSub, List.cons_append, List.nil_append, List.set_cons_zero, List.set_cons_succ, Option.toList_none, Option.toList_some, Int32.reduceToInt, yu, ya, reduceIte, Nat.reduceEqDiff, Int.toNat_natCast, Int.reduceToNat]
    refine ycV rfl rfl rfl (cm_write (v := e.1) h1 (by rw [D1.1, iof]) (by simp only [List.length_append]; omega)) rfl kX9_write iX9_write rfl rfl rfl (Nat.le_of_ble_eq_true rfl) (fun v2 Y2 q2 => ?_)
    obtain ⟨rfl, h2⟩ := q2
    obtain ⟨f2, A2⟩ := Y2
    have D2 := h2.1.1.2.2.2.2.2.2.2.2.2 r e he
    dsimp only at D2
    refine ygo 99999 90 rfl rfl (by first | exact trivial | (simp only [true_and, yu, ya, reduceIte, Nat.reduceEqDiff, Int32.reduceToInt, Int.toNat_natCast, Int.reduceToNat]; omega) | decide | (simp; done) | (simp; omega)) ?_
    try simp only [List.map_cons, List.map_nil, List.length_cons, List.length_nil, ylr_s, ylr_0, Nat.reduceAdd, Nat.reduceSub, List.cons_append, List.nil_append, List.set_cons_zero, List.set_cons_succ, Option.toList_none, Option.toList_some, Int32.reduceToInt, yu, ya, reduceIte, Nat.reduceEqDiff, Int.toNat_natCast, Int.reduceToNat]
    refine ycV rfl rfl rfl (cm_write (v := e.2.1) h2 (by rw [D2.2.1, iof]) (by simp only [List.length_append, List.length_singleton]; omega)) rfl kX9_write iX9_write rfl rfl rfl (Nat.le_of_ble_eq_true rfl) (fun v3 Y3 q3 => ?_)
    obtain ⟨rfl, h3⟩ := q3
    obtain ⟨f3, A3⟩ := Y3
    refine ygo 99999 90 rfl rfl (by first | exact trivial | (simp only [true_and, yu, ya, reduceIte, Nat.reduceEqDiff, Int32.reduceToInt, Int.toNat_natCast, Int.reduceToNat]; omega) | decide | (simp; done) | (simp; omega)) ?_
    try simp only [List.map_cons, List.map_nil, List.length_cons, List.length_nil, ylr_s, ylr_0, Nat.reduceAdd, Nat.reduceSub, List.cons_append, List.nil_append, List.set_cons_zero, List.set_cons_succ, Option.toList_none, Option.toList_some, Int32.reduceToInt, yu, ya, reduceIte, Nat.reduceEqDiff, Int.toNat_natCast, Int.reduceToNat]
    refine ycV rfl rfl rfl (cm_write (v := 0) h3 rfl (by simp only [List.length_append, List.length_singleton]; omega)) rfl kX9_write iX9_write rfl rfl rfl (Nat.le_of_ble_eq_true rfl) (fun v4 Y4 q4 => ?_)
    obtain ⟨rfl, h4⟩ := q4
    obtain ⟨f4, A4⟩ := Y4
    have D4 := h4.1.1.2.2.2.2.2.2.2.2.2 r e he
    dsimp only at D4
    refine ygo 99999 90 rfl rfl (by first | exact trivial | (simp only [true_and, yu, ya, reduceIte, Nat.reduceEqDiff, Int32.reduceToInt, Int.toNat_natCast, Int.reduceToNat]; omega) | decide | (simp; done) | (simp; omega)) ?_
    try simp only [List.map_cons, List.map_nil, List.length_cons, List.length_nil, ylr_s, ylr_0, Nat.reduceAdd, Nat.reduceSub, List.cons_append, List.nil_append, List.set_cons_zero, List.set_cons_succ, Option.toList_none, Option.toList_some, Int32.reduceToInt, yu, ya, reduceIte, Nat.reduceEqDiff, Int.toNat_natCast, Int.reduceToNat]
    refine ycV rfl rfl rfl (cm_write (v := nI e.2.2.length) h4 (by rw [D4.2.2.1, iof]) (by simp only [List.length_append, List.length_singleton]; omega)) rfl kX9_write iX9_write rfl rfl rfl (Nat.le_of_ble_eq_true rfl) (fun v5 Y5 q5 => ?_)
    obtain ⟨rfl, h5⟩ := q5
    obtain ⟨f5, A5⟩ := Y5
    refine ygo 99999 90 rfl rfl (by first | exact trivial | (simp only [true_and, yu, ya, reduceIte, Nat.reduceEqDiff, Int32.reduceToInt, Int.toNat_natCast, Int.reduceToNat]; omega) | decide | (simp; done) | (simp; omega)) ?_
    try simp only [List.map_cons, List.map_nil, List.length_cons, List.length_nil, ylr_s, ylr_0, Nat.reduceAdd, Nat.reduceSub, List.cons_append, List.nil_append, List.set_cons_zero, List.set_cons_succ, Option.toList_none, Option.toList_some, Int32.reduceToInt, yu, ya, reduceIte, Nat.reduceEqDiff, Int.toNat_natCast, Int.reduceToNat]
    refine ycV rfl rfl rfl (cm_write (v := 0) h5 rfl (by simp only [List.length_append, List.length_singleton]; omega)) rfl kX9_write iX9_write rfl rfl rfl (Nat.le_of_ble_eq_true rfl) (fun v6 Y6 q6 => ?_)
    obtain ⟨rfl, h6⟩ := q6
    obtain ⟨f6, A6⟩ := Y6
    have h18 : f6 18 = (enc e).length := (h6.2.2 (by omega)).1
    refine ygo 99999 90 rfl rfl (by first | exact trivial | (simp only [true_and, yu, ya, reduceIte, Nat.reduceEqDiff, Int32.reduceToInt, Int.toNat_natCast, Int.reduceToNat]; omega) | decide | (simp; done) | (simp; omega)) ?_
    try simp only [List.map_cons, List.map_nil, List.length_cons, List.length_nil, ylr_s, ylr_0, Nat.reduceAdd, Nat.reduceSub, List.cons_append, List.nil_append, List.set_cons_zero, List.set_cons_succ, Option.toList_none, Option.toList_some, Int32.reduceToInt, yu, ya, reduceIte, Nat.reduceEqDiff, Int.toNat_natCast, Int.reduceToNat]
    refine ycV rfl rfl rfl (cm_write (v := nI (enc e).length) h6 (by rw [h18]; exact iofn _) (by simp only [List.length_append, List.length_singleton]; omega)) rfl kX9_write iX9_write rfl rfl rfl (Nat.le_of_ble_eq_true rfl) (fun v7 Y7 q7 => ?_)
    obtain ⟨rfl, h7⟩ := q7
    obtain ⟨f7, A7⟩ := Y7
    refine ygo 149 90 rfl rfl (by first | exact trivial | (simp only [true_and, yu, ya, reduceIte, Nat.reduceEqDiff, Int32.reduceToInt, Int.toNat_natCast, Int.reduceToNat]; omega) | decide | (simp; done) | (simp; omega)) ?_
    try simp only [List.map_cons, List.map_nil, List.length_cons, List.length_nil, ylr_s, ylr_0, Nat.reduceAdd, Nat.reduceSub, List.cons_append, List.nil_append, List.set_cons_zero, List.set_cons_succ, Option.toList_none, Option.toList_some, Int32.reduceToInt, yu, ya, reduceIte, Nat.reduceEqDiff, Int.toNat_natCast, Int.reduceToNat]
    refine ih (r + 1) _ (enc e) _ _ (by omega) (by omega) ?_
    rw [take_flat he]
    simpa [wRow] using h7
set_option maxRecDepth 100000 in
set_option maxHeartbeats 2000000 in
theorem l_wh2 {G : xG} {d a : Nat} {Z : pZ} {W0 qs : List Int32} {sz : Int} {Q : Option yv → yS → Prop} (hk : okK Z.1) (hW : W0.length + 4 ≤ 2400) (kq : ∀ (kz : Int) (f : Nat → Int) (A : Nat → List Int32), mW Z (W0 ++ Z.1.2.2.1) qs (f, A) → yw G (d + 1) a mX9_writeHead 139 [some (.inr 0), some (.inl sz), some (.inl kz)] [] (f, A) Q) : ∀ (n k : Nat) (kz : Int) (f : Nat → Int) (A : Nat → List Int32), k + n = Z.1.2.2.1.length → kz = k → mW Z (W0 ++ Z.1.2.2.1.take k) qs (f, A) →
    yw G (d + 1) a mX9_writeHead 115 [some (.inr 0), some (.inl sz), some (.inl kz)] [] (f, A) Q := by
  have hk4 : Z.1.2.2.1.length ≤ 4 := hk.2.2.2.2.2.1
  intro n
  induction n with
  | zero =>
    intro k kz f A hkn hkz h
    have h8 : f 8 = Z.1.2.2.1.length := h.1.1.2.2.2.2.2.2.1
    have : k = Z.1.2.2.1.length := by omega
    subst this
    rw [List.take_length] at h
    refine ygo 99999 90 rfl rfl (by first | exact trivial | (simp only [true_and, yu, ya, reduceIte, Nat.reduceEqDiff, Int32.reduceToInt, Int.toNat_natCast, Int.reduceToNat]; omega) | decide | (simp; done) | (simp; omega)) ?_
    try simp only [List.map_cons, List.map_nil, List.length_cons, List.length_nil, ylr_s, ylr_0, Nat.reduceAdd, Nat.reduceSub, List.cons_append, List.nil_append, List.set_cons_zero, List.set_cons_succ, Option.toList_none, Option.toList_some, Int32.reduceToInt, yu, ya, reduceIte, Nat.reduceEqDiff, Int.toNat_natCast, Int.reduceToNat]
    refine yi_icmpge rfl (by refine ⟨?_, ?_⟩ <;> first | exact yr_t _ | exact yr_b _ | (unfold yr; omega)) (fun c => ?_) (fun c => ?_)
    · exact kq _ f A h
    · omega
  | succ n ih =>
    intro k kz f A hkn hkz h
    have h8 : f 8 = Z.1.2.2.1.length := h.1.1.2.2.2.2.2.2.1
    obtain ⟨e, he⟩ := lt_get (l := Z.1.2.2.1) (j := k) (by omega)
    have D := h.1.1.2.2.2.2.2.2.2.1 k e he
    dsimp only at D
    have hkt : kz.toNat = k := by omega
    refine ygo 99999 90 rfl rfl (by first | exact trivial | (simp only [true_and, yu, ya, reduceIte, Nat.reduceEqDiff, Int32.reduceToInt, Int.toNat_natCast, Int.reduceToNat]; omega) | decide | (simp; done) | (simp; omega)) ?_
    try simp only [List.map_cons, List.map_nil, List.length_cons, List.length_nil, ylr_s, ylr_0, Nat.reduceAdd, Nat.reduceSub, List.cons_append, List.nil_append, List.set_cons_zero, List.set_cons_succ, Option.toList_none, Option.toList_some, Int32.reduceToInt, yu, ya, reduceIte, Nat.reduceEqDiff, Int.toNat_natCast, Int.reduceToNat]
    refine yi_icmpge rfl (by refine ⟨?_, ?_⟩ <;> first | exact yr_t _ | exact yr_b _ | (unfold yr; omega)) (fun c => ?_) (fun c => ?_)
    · omega
    refine ygo 99999 90 rfl rfl (by first | exact trivial | (simp only [true_and, yu, ya, reduceIte, Nat.reduceEqDiff, Int32.reduceToInt, Int.toNat_natCast, Int.reduceToNat]; omega) | decide | (simp; done) | (simp; omega)) ?_
    try simp only [List.map_cons, List.map_nil, List.length_cons, List.length_nil, ylr_s, ylr_0, Nat.reduceAdd, Nat.reduceSub, List.cons_append, List.nil_append, List.set_cons_zero, List.set_cons_succ, Option.toList_none, Option.toList_some, Int32.reduceToInt, yu, ya, reduceIte, Nat.reduceEqDiff, Int.toNat_natCast, Int.reduceToNat]
    refine ycV rfl rfl rfl (cm_write (v := e) h (by rw [hkt, D, iof]) (by simp only [List.length_append, List.length_take]; omega)) rfl kX9_write iX9_write rfl rfl rfl (Nat.le_of_ble_eq_true rfl) (fun v1 Y1 q1 => ?_)
    obtain ⟨rfl, h1⟩ := q1
    obtain ⟨f1, A1⟩ := Y1
    refine ygo 115 90 rfl rfl (by first | exact trivial | (simp only [true_and, yu, ya, reduceIte, Nat.reduceEqDiff, Int32.reduceToInt, Int.toNat_natCast, Int.reduceToNat]; omega) | decide | (simp; done) | (simp; omega)) ?_
    try simp only [List.map_cons, List.map_nil, List.length_cons, List.length_nil, ylr_s, ylr_0, Nat.reduceAdd, Nat.reduceSub, List.cons_append, List.nil_append, List.set_cons_zero, List.set_cons_succ, Option.toList_none, Option.toList_some, Int32.reduceToInt, yu, ya, reduceIte, Nat.reduceEqDiff, Int.toNat_natCast, Int.reduceToNat]
    refine ih (k + 1) _ _ _ (by omega) (by omega) ?_
    rw [List.take_succ, he]
    simpa using h1
set_option maxRecDepth 100000 in
set_option maxHeartbeats 2000000 in
theorem l_wh1 {G : xG} {d a : Nat} {Z : pZ} {W0 qs : List Int32} {sz : Int} {Q : Option yv → yS → Prop} (hk : okK Z.1) (hW : W0.length + 12 ≤ 2400) (kq : ∀ (kz : Int) (f : Nat → Int) (A : Nat → List Int32), mW Z (W0 ++ Z.1.2.1.flatMap wNeed) qs (f, A) → yw G (d + 1) a mX9_writeHead 105 [some (.inr 0), some (.inl sz), some (.inl kz)] [] (f, A) Q) : ∀ (n k : Nat) (kz : Int) (f : Nat → Int) (A : Nat → List Int32), k + n = Z.1.2.1.length → kz = k → mW Z (W0 ++ (Z.1.2.1.take k).flatMap wNeed) qs (f, A) →
    yw G (d + 1) a mX9_writeHead 61 [some (.inr 0), some (.inl sz), some (.inl kz)] [] (f, A) Q := by
  have hk4 : Z.1.2.1.length ≤ 4 := hk.2.2.2.1
  intro n
  induction n with
  | zero =>
    intro k kz f A hkn hkz h
    have h4 : f 4 = Z.1.2.1.length := h.1.1.2.2.2.2.1
    have : k = Z.1.2.1.length := by omega
    subst this
    rw [List.take_length] at h
    refine ygo 99999 90 rfl rfl (by first | exact trivial | (simp only [true_and, yu, ya, reduceIte, Nat.reduceEqDiff, Int32.reduceToInt, Int.toNat_natCast, Int.reduceToNat]; omega) | decide | (simp; done) | (simp; omega)) ?_
    try simp only [List.map_cons, List.map_nil, List.length_cons, List.length_nil, ylr_s, ylr_0, Nat.reduceAdd, Nat.reduceSub, List.cons_append, List.nil_append, List.set_cons_zero, List.set_cons_succ, Option.toList_none, Option.toList_some, Int32.reduceToInt, yu, ya, reduceIte, Nat.reduceEqDiff, Int.toNat_natCast, Int.reduceToNat]
    refine yi_icmpge rfl (by refine ⟨?_, ?_⟩ <;> first | exact yr_t _ | exact yr_b _ | (unfold yr; omega)) (fun c => ?_) (fun c => ?_)
    · exact kq _ f A h
    · omega
  | succ n ih =>
    intro k kz f A hkn hkz h
    have h4 : f 4 = Z.1.2.1.length := h.1.1.2.2.2.2.1
    obtain ⟨e, he⟩ := lt_get (l := Z.1.2.1) (j := k) (by omega)
    have he01 := (hk.2.2.2.2.1 e (List.mem_of_getElem? he)).2.2
    have D := h.1.1.2.2.2.2.2.1 k e he
    dsimp only at D
    have hkt : kz.toNat = k := by omega
    have hfl := take_fl (f := wNeed) (m := 3) (l := Z.1.2.1) (j := k) (fun e => rfl) (by omega)
    refine ygo 99999 90 rfl rfl (by first | exact trivial | (simp only [true_and, yu, ya, reduceIte, Nat.reduceEqDiff, Int32.reduceToInt, Int.toNat_natCast, Int.reduceToNat]; omega) | decide | (simp; done) | (simp; omega)) ?_
    try simp only [List.map_cons, List.map_nil, List.length_cons, List.length_nil, ylr_s, ylr_0, Nat.reduceAdd, Nat.reduceSub, List.cons_append, List.nil_append, List.set_cons_zero, List.set_cons_succ, Option.toList_none, Option.toList_some, Int32.reduceToInt, yu, ya, reduceIte, Nat.reduceEqDiff, Int.toNat_natCast, Int.reduceToNat]
    refine yi_icmpge rfl (by refine ⟨?_, ?_⟩ <;> first | exact yr_t _ | exact yr_b _ | (unfold yr; omega)) (fun c => ?_) (fun c => ?_)
    · omega
    refine ygo 99999 90 rfl rfl (by first | exact trivial | (simp only [true_and, yu, ya, reduceIte, Nat.reduceEqDiff, Int32.reduceToInt, Int.toNat_natCast, Int.reduceToNat]; omega) | decide | (simp; done) | (simp; omega)) ?_
    try simp only [List.map_cons, List.map_nil, List.length_cons, List.length_nil, ylr_s, ylr_0, Nat.reduceAdd, Nat.reduceSub, List.cons_append, List.nil_append, List.set_cons_zero, List.set_cons_succ, Option.toList_none, Option.toList_some, Int32.reduceToInt, yu, ya, reduceIte, Nat.reduceEqDiff, Int.toNat_natCast, Int.reduceToNat]
    refine ycV rfl rfl rfl (cm_write (v := e.1) h (by rw [hkt, D.1, iof]) (by simp only [List.length_append]; omega)) rfl kX9_write iX9_write rfl rfl rfl (Nat.le_of_ble_eq_true rfl) (fun v1 Y1 q1 => ?_)
    obtain ⟨rfl, h1⟩ := q1
    obtain ⟨f1, A1⟩ := Y1
    have D1 := h1.1.1.2.2.2.2.2.1 k e he
    dsimp only at D1
    refine ygo 99999 90 rfl rfl (by first | exact trivial | (simp only [true_and, yu, ya, reduceIte, Nat.reduceEqDiff, Int32.reduceToInt, Int.toNat_natCast, Int.reduceToNat]; omega) | decide | (simp; done) | (simp; omega)) ?_
    try simp only [List.map_cons, List.map_nil, List.length_cons, List.length_nil, ylr_s, ylr_0, Nat.reduceAdd, Nat.reduceSub, List.cons_append, List.nil_append, List.set_cons_zero, List.set_cons_succ, Option.toList_none, Option.toList_some, Int32.reduceToInt, yu, ya, reduceIte, Nat.reduceEqDiff, Int.toNat_natCast, Int.reduceToNat]
    refine ycV rfl rfl rfl (cm_write (v := e.2.1) h1 (by rw [hkt, D1.2.1, iof]) (by simp only [List.length_append, List.length_singleton]; omega)) rfl kX9_write iX9_write rfl rfl rfl (Nat.le_of_ble_eq_true rfl) (fun v2 Y2 q2 => ?_)
    obtain ⟨rfl, h2⟩ := q2
    obtain ⟨f2, A2⟩ := Y2
    have D2 := h2.1.1.2.2.2.2.2.1 k e he
    dsimp only at D2
    refine ygo 99999 90 rfl rfl (by first | exact trivial | (simp only [true_and, yu, ya, reduceIte, Nat.reduceEqDiff, Int32.reduceToInt, Int.toNat_natCast, Int.reduceToNat]; omega) | decide | (simp; done) | (simp; omega)) ?_
    try simp only [List.map_cons, List.map_nil, List.length_cons, List.length_nil, ylr_s, ylr_0, Nat.reduceAdd, Nat.reduceSub, List.cons_append, List.nil_append, List.set_cons_zero, List.set_cons_succ, Option.toList_none, Option.toList_some, Int32.reduceToInt, yu, ya, reduceIte, Nat.reduceEqDiff, Int.toNat_natCast, Int.reduceToNat]
    refine ycV rfl rfl rfl (cm_write (v := e.2.2) h2 (by rw [hkt, D2.2.2, iof]) (by simp only [List.length_append, List.length_singleton]; omega)) rfl kX9_write iX9_write rfl rfl rfl (Nat.le_of_ble_eq_true rfl) (fun v3 Y3 q3 => ?_)
    obtain ⟨rfl, h3⟩ := q3
    obtain ⟨f3, A3⟩ := Y3
    refine ygo 61 90 rfl rfl (by first | exact trivial | (simp only [true_and, yu, ya, reduceIte, Nat.reduceEqDiff, Int32.reduceToInt, Int.toNat_natCast, Int.reduceToNat]; omega) | decide | (simp; done) | (simp; omega)) ?_
    try simp only [List.map_cons, List.map_nil, List.length_cons, List.length_nil, ylr_s, ylr_0, Nat.reduceAdd, Nat.reduceSub, List.cons_append, List.nil_append, List.set_cons_zero, List.set_cons_succ, Option.toList_none, Option.toList_some, Int32.reduceToInt, yu, ya, reduceIte, Nat.reduceEqDiff, Int.toNat_natCast, Int.reduceToNat]
    refine ih (k + 1) _ _ _ (by omega) (by omega) ?_
    rw [take_flat he]
    have hw : wNeed e = [e.1, e.2.1, e.2.2] := by
      unfold wNeed
      rcases he01 with q | q <;> rw [q] <;> rfl
    rw [hw]
    simpa using h3
set_option maxRecDepth 100000 in
set_option maxHeartbeats 2000000 in
theorem cm_writeHead {G : xG} {d a : Nat} {Z : pZ} {sec : Int32} {f : Nat → Int} {A : Nat → List Int32} (h : mR Z (f, A)) (hk : okK Z.1) : ym G (d + 5) a mX9_writeHead [.inr 0, .inl sec.toInt] (f, A) (fun w Y' => w = none ∧ ∃ qs, mW Z (wHead Z.1 (if sec = 0 then 0 else 1)) qs Y') := by
  have hk4 : Z.1.2.1.length ≤ 4 := hk.2.2.2.1
  have hk44 : Z.1.2.2.1.length ≤ 4 := hk.2.2.2.2.2.1
  obtain ⟨qs, hqs⟩ : ∃ qs : List Int32, qs.length = 481 := ⟨List.replicate 481 0, List.length_replicate⟩
  have h0 : mW Z [] qs (yu f 16 0, A) := ⟨h, ⟨rfl, fun i x hx => by simp at hx⟩, fun hc => absurd hc (by omega)⟩
  refine ym_at 3 rfl (by decide) (Nat.le_of_ble_eq_true rfl) tX9_writeHead_ok ?_
  try simp only [List.map_cons, List.map_nil, List.length_cons, List.length_nil, ylr_s, ylr_0, Nat.reduceAdd, Nat.reduceSub, List.cons_append, List.nil_append, List.set_cons_zero, List.set_cons_succ, Option.toList_none, Option.toList_some, Int32.reduceToInt, yu, ya, reduceIte, Nat.reduceEqDiff, Int.toNat_natCast, Int.reduceToNat]
  refine ygo 99999 90 rfl rfl (by first | exact trivial | (simp only [true_and, yu, ya, reduceIte, Nat.reduceEqDiff, Int32.reduceToInt, Int.toNat_natCast, Int.reduceToNat]; omega) | decide | (simp; done) | (simp; omega)) ?_
  try simp only [List.map_cons, List.map_nil, List.length_cons, List.length_nil, ylr_s, ylr_0, Nat.reduceAdd, Nat.reduceSub, List.cons_append, List.nil_append, List.set_cons_zero, List.set_cons_succ, Option.toList_none, Option.toList_some, Int32.reduceToInt, yu, ya, reduceIte, Nat.reduceEqDiff, Int.toNat_natCast, Int.reduceToNat]
  refine ycV rfl rfl rfl (cm_write (v := 80) h0 rfl (by simp)) rfl kX9_write iX9_write rfl rfl rfl (Nat.le_of_ble_eq_true rfl) (fun v1 Y1 q1 => ?_)
  obtain ⟨rfl, h1⟩ := q1
  obtain ⟨f1, A1⟩ := Y1
  refine ygo 99999 90 rfl rfl (by first | exact trivial | (simp only [true_and, yu, ya, reduceIte, Nat.reduceEqDiff, Int32.reduceToInt, Int.toNat_natCast, Int.reduceToNat]; omega) | decide | (simp; done) | (simp; omega)) ?_
  try simp only [List.map_cons, List.map_nil, List.length_cons, List.length_nil, ylr_s, ylr_0, Nat.reduceAdd, Nat.reduceSub, List.cons_append, List.nil_append, List.set_cons_zero, List.set_cons_succ, Option.toList_none, Option.toList_some, Int32.reduceToInt, yu, ya, reduceIte, Nat.reduceEqDiff, Int.toNat_natCast, Int.reduceToNat]
  refine ycV rfl rfl rfl (cm_write (v := 75) h1 rfl (by simp)) rfl kX9_write iX9_write rfl rfl rfl (Nat.le_of_ble_eq_true rfl) (fun v2 Y2 q2 => ?_)
  obtain ⟨rfl, h2⟩ := q2
  obtain ⟨f2, A2⟩ := Y2
  have e2 : f2 1 = Z.1.1.1.toInt := h2.1.1.2.1
  refine ygo 99999 90 rfl rfl (by first | exact trivial | (simp only [true_and, yu, ya, reduceIte, Nat.reduceEqDiff, Int32.reduceToInt, Int.toNat_natCast, Int.reduceToNat]; omega) | decide | (simp; done) | (simp; omega)) ?_
  try simp only [List.map_cons, List.map_nil, List.length_cons, List.length_nil, ylr_s, ylr_0, Nat.reduceAdd, Nat.reduceSub, List.cons_append, List.nil_append, List.set_cons_zero, List.set_cons_succ, Option.toList_none, Option.toList_some, Int32.reduceToInt, yu, ya, reduceIte, Nat.reduceEqDiff, Int.toNat_natCast, Int.reduceToNat]
  refine ycV rfl rfl rfl (cm_write (v := Z.1.1.1) h2 (by rw [e2, iof]) (by simp)) rfl kX9_write iX9_write rfl rfl rfl (Nat.le_of_ble_eq_true rfl) (fun v3 Y3 q3 => ?_)
  obtain ⟨rfl, h3⟩ := q3
  obtain ⟨f3, A3⟩ := Y3
  have e3 : f3 2 = Z.1.1.2.1.toInt := h3.1.1.2.2.1
  refine ygo 99999 90 rfl rfl (by first | exact trivial | (simp only [true_and, yu, ya, reduceIte, Nat.reduceEqDiff, Int32.reduceToInt, Int.toNat_natCast, Int.reduceToNat]; omega) | decide | (simp; done) | (simp; omega)) ?_
  try simp only [List.map_cons, List.map_nil, List.length_cons, List.length_nil, ylr_s, ylr_0, Nat.reduceAdd, Nat.reduceSub, List.cons_append, List.nil_append, List.set_cons_zero, List.set_cons_succ, Option.toList_none, Option.toList_some, Int32.reduceToInt, yu, ya, reduceIte, Nat.reduceEqDiff, Int.toNat_natCast, Int.reduceToNat]
  refine ycV rfl rfl rfl (cm_write (v := Z.1.1.2.1) h3 (by rw [e3, iof]) (by simp)) rfl kX9_write iX9_write rfl rfl rfl (Nat.le_of_ble_eq_true rfl) (fun v4 Y4 q4 => ?_)
  obtain ⟨rfl, h4⟩ := q4
  obtain ⟨f4, A4⟩ := Y4
  have e4 : f4 3 = Z.1.1.2.2.1.toInt := h4.1.1.2.2.2.1
  have go : ∀ (m : Int32) (mz : Int), Int32.ofInt mz = m → m = (if (if sec = 0 then (0 : Int32) else 1) = 0 then Z.1.1.2.2.1 else Z.1.1.2.2.1 + 2) → yw G (d + 5) a mX9_writeHead 48 [some (.inr 0), some (.inl sec.toInt), none] [.inl mz, .inr 0] (f4, A4) (fun w Y' => w = none ∧ ∃ qs, mW Z (wHead Z.1 (if sec = 0 then 0 else 1)) qs Y') := by
    intro m mz hmz hm
    refine ygo 99999 90 rfl rfl (by first | exact trivial | (simp only [true_and, yu, ya, reduceIte, Nat.reduceEqDiff, Int32.reduceToInt, Int.toNat_natCast, Int.reduceToNat]; omega) | decide | (simp; done) | (simp; omega)) ?_
    try simp only [List.map_cons, List.map_nil, List.length_cons, List.length_nil, ylr_s, ylr_0, Nat.reduceAdd, Nat.reduceSub, List.cons_append, List.nil_append, List.set_cons_zero, List.set_cons_succ, Option.toList_none, Option.toList_some, Int32.reduceToInt, yu, ya, reduceIte, Nat.reduceEqDiff, Int.toNat_natCast, Int.reduceToNat]
    refine ycV rfl rfl rfl (cm_write (v := m) h4 hmz (by simp)) rfl kX9_write iX9_write rfl rfl rfl (Nat.le_of_ble_eq_true rfl) (fun v5 Y5 q5 => ?_)
    obtain ⟨rfl, h5⟩ := q5
    obtain ⟨f5, A5⟩ := Y5
    have e5 : f5 4 = Z.1.2.1.length := h5.1.1.2.2.2.2.1
    refine ygo 99999 90 rfl rfl (by first | exact trivial | (simp only [true_and, yu, ya, reduceIte, Nat.reduceEqDiff, Int32.reduceToInt, Int.toNat_natCast, Int.reduceToNat]; omega) | decide | (simp; done) | (simp; omega)) ?_
    try simp only [List.map_cons, List.map_nil, List.length_cons, List.length_nil, ylr_s, ylr_0, Nat.reduceAdd, Nat.reduceSub, List.cons_append, List.nil_append, List.set_cons_zero, List.set_cons_succ, Option.toList_none, Option.toList_some, Int32.reduceToInt, yu, ya, reduceIte, Nat.reduceEqDiff, Int.toNat_natCast, Int.reduceToNat]
    refine ycV rfl rfl rfl (cm_write (v := nI Z.1.2.1.length) h5 (by rw [e5]; exact iofn _) (by simp)) rfl kX9_write iX9_write rfl rfl rfl (Nat.le_of_ble_eq_true rfl) (fun v6 Y6 q6 => ?_)
    obtain ⟨rfl, h6⟩ := q6
    obtain ⟨f6, A6⟩ := Y6
    have hl3 := take_fl (f := wNeed) (m := 3) (l := Z.1.2.1) (j := Z.1.2.1.length) (fun e => rfl) (Nat.le_refl _)
    rw [List.take_length] at hl3
    refine ygo 61 90 rfl rfl (by first | exact trivial | (simp only [true_and, yu, ya, reduceIte, Nat.reduceEqDiff, Int32.reduceToInt, Int.toNat_natCast, Int.reduceToNat]; omega) | decide | (simp; done) | (simp; omega)) ?_
    try simp only [List.map_cons, List.map_nil, List.length_cons, List.length_nil, ylr_s, ylr_0, Nat.reduceAdd, Nat.reduceSub, List.cons_append, List.nil_append, List.set_cons_zero, List.set_cons_succ, Option.toList_none, Option.toList_some, Int32.reduceToInt, yu, ya, reduceIte, Nat.reduceEqDiff, Int.toNat_natCast, Int.reduceToNat]
    refine l_wh1 (d := d + 4) (W0 := [80, 75, Z.1.1.1, Z.1.1.2.1, m, nI Z.1.2.1.length]) (qs := qs) hk (by simp) (fun kz f7 A7 h7 => ?_) Z.1.2.1.length 0 0 f6 A6 (by omega) rfl (by simpa using h6)
    have e7 : f7 8 = Z.1.2.2.1.length := h7.1.1.2.2.2.2.2.2.1
    refine ygo 99999 90 rfl rfl (by first | exact trivial | (simp only [true_and, yu, ya, reduceIte, Nat.reduceEqDiff, Int32.reduceToInt, Int.toNat_natCast, Int.reduceToNat]; omega) | decide | (simp; done) | (simp; omega)) ?_
    try simp only [List.map_cons, List.map_nil, List.length_cons, List.length_nil, ylr_s, ylr_0, Nat.reduceAdd, Nat.reduceSub, List.cons_append, List.nil_append, List.set_cons_zero, List.set_cons_succ, Option.toList_none, Option.toList_some, Int32.reduceToInt, yu, ya, reduceIte, Nat.reduceEqDiff, Int.toNat_natCast, Int.reduceToNat]
    refine ycV rfl rfl rfl (cm_write (v := nI Z.1.2.2.1.length) h7 (by rw [e7]; exact iofn _) (by simp [hl3]; omega)) rfl kX9_write iX9_write rfl rfl rfl (Nat.le_of_ble_eq_true rfl) (fun v7 Y7 q7 => ?_)
    obtain ⟨rfl, h8⟩ := q7
    obtain ⟨f8, A8⟩ := Y7
    refine ygo 115 90 rfl rfl (by first | exact trivial | (simp only [true_and, yu, ya, reduceIte, Nat.reduceEqDiff, Int32.reduceToInt, Int.toNat_natCast, Int.reduceToNat]; omega) | decide | (simp; done) | (simp; omega)) ?_
    try simp only [List.map_cons, List.map_nil, List.length_cons, List.length_nil, ylr_s, ylr_0, Nat.reduceAdd, Nat.reduceSub, List.cons_append, List.nil_append, List.set_cons_zero, List.set_cons_succ, Option.toList_none, Option.toList_some, Int32.reduceToInt, yu, ya, reduceIte, Nat.reduceEqDiff, Int.toNat_natCast, Int.reduceToNat]
    refine l_wh2 (d := d + 4) (W0 := [80, 75, Z.1.1.1, Z.1.1.2.1, m, nI Z.1.2.1.length] ++ Z.1.2.1.flatMap wNeed ++ [nI Z.1.2.2.1.length]) (qs := qs) hk (by simp [hl3]; omega) (fun kz f9 A9 h9 => ?_) Z.1.2.2.1.length 0 0 f8 A8 (by omega) rfl (by simpa using h8)
    have e9 : f9 10 = Z.1.2.2.2.length := h9.1.1.2.2.2.2.2.2.2.2.1
    refine ygo 99999 90 rfl rfl (by first | exact trivial | (simp only [true_and, yu, ya, reduceIte, Nat.reduceEqDiff, Int32.reduceToInt, Int.toNat_natCast, Int.reduceToNat]; omega) | decide | (simp; done) | (simp; omega)) ?_
    try simp only [List.map_cons, List.map_nil, List.length_cons, List.length_nil, ylr_s, ylr_0, Nat.reduceAdd, Nat.reduceSub, List.cons_append, List.nil_append, List.set_cons_zero, List.set_cons_succ, Option.toList_none, Option.toList_some, Int32.reduceToInt, yu, ya, reduceIte, Nat.reduceEqDiff, Int.toNat_natCast, Int.reduceToNat]
    refine ycV rfl rfl rfl (cm_write (v := nI Z.1.2.2.2.length) h9 (by rw [e9]; exact iofn _) (by simp [hl3]; omega)) rfl kX9_write iX9_write rfl rfl rfl (Nat.le_of_ble_eq_true rfl) (fun v8 Y8 q8 => ?_)
    obtain ⟨rfl, h10⟩ := q8
    obtain ⟨f10, A10⟩ := Y8
    refine ygo 149 90 rfl rfl (by first | exact trivial | (simp only [true_and, yu, ya, reduceIte, Nat.reduceEqDiff, Int32.reduceToInt, Int.toNat_natCast, Int.reduceToNat]; omega) | decide | (simp; done) | (simp; omega)) ?_
    try simp only [List.map_cons, List.map_nil, List.length_cons, List.length_nil, ylr_s, ylr_0, Nat.reduceAdd, Nat.reduceSub, List.cons_append, List.nil_append, List.set_cons_zero, List.set_cons_succ, Option.toList_none, Option.toList_some, Int32.reduceToInt, yu, ya, reduceIte, Nat.reduceEqDiff, Int.toNat_natCast, Int.reduceToNat]
    refine (l_wh3 (W0 := [80, 75, Z.1.1.1, Z.1.1.2.1, m, nI Z.1.2.1.length] ++ Z.1.2.1.flatMap wNeed ++ [nI Z.1.2.2.1.length] ++ Z.1.2.2.1 ++ [nI Z.1.2.2.2.length]) hk (by simp [hl3]; omega) Z.1.2.2.2.length 0 0 qs f10 A10 (by omega) rfl (by simpa using h10)).mono (fun w Y' hq => ⟨hq.1, ?_⟩)
    obtain ⟨-, qs', hq'⟩ := hq
    refine ⟨qs', ?_⟩
    subst hm
    unfold wHead
    exact hq'
  refine ygo 99999 90 rfl rfl (by first | exact trivial | (simp only [true_and, yu, ya, reduceIte, Nat.reduceEqDiff, Int32.reduceToInt, Int.toNat_natCast, Int.reduceToNat]; omega) | decide | (simp; done) | (simp; omega)) ?_
  try simp only [List.map_cons, List.map_nil, List.length_cons, List.length_nil, ylr_s, ylr_0, Nat.reduceAdd, Nat.reduceSub, List.cons_append, List.nil_append, List.set_cons_zero, List.set_cons_succ, Option.toList_none, Option.toList_some, Int32.reduceToInt, yu, ya, reduceIte, Nat.reduceEqDiff, Int.toNat_natCast, Int.reduceToNat]
  refine yi_ifeq rfl (by first | exact yr_t _ | exact yr_b _ | (unfold yr; omega)) (fun c1 => ?_) (fun c1 => ?_)
  · rw [← y0, ti] at c1
    refine ygo 48 90 rfl rfl (by first | exact trivial | (simp only [true_and, yu, ya, reduceIte, Nat.reduceEqDiff, Int32.reduceToInt, Int.toNat_natCast, Int.reduceToNat]; omega) | decide | (simp; done) | (simp; omega)) ?_
    try simp only [List.map_cons, List.map_nil, List.length_cons, List.length_nil, ylr_s, ylr_0, Nat.reduceAdd, Nat.reduceSub, List.cons_append, List.nil_append, List.set_cons_zero, List.set_cons_succ, Option.toList_none, Option.toList_some, Int32.reduceToInt, yu, ya, reduceIte, Nat.reduceEqDiff, Int.toNat_natCast, Int.reduceToNat]
    exact go (Z.1.1.2.2.1) _ (by rw [e4, Int32.ofInt_add, iof]; exact Int32.add_zero _) (by rw [c1]; rfl)
  · rw [← y0, ti] at c1
    refine ygo 48 90 rfl rfl (by first | exact trivial | (simp only [true_and, yu, ya, reduceIte, Nat.reduceEqDiff, Int32.reduceToInt, Int.toNat_natCast, Int.reduceToNat]; omega) | decide | (simp; done) | (simp; omega)) ?_
    try simp only [List.map_cons, List.map_nil, List.length_cons, List.length_nil, ylr_s, ylr_0, Nat.reduceAdd, Nat.reduceSub, List.cons_append, List.nil_append, List.set_cons_zero, List.set_cons_succ, Option.toList_none, Option.toList_some, Int32.reduceToInt, yu, ya, reduceIte, Nat.reduceEqDiff, Int.toNat_natCast, Int.reduceToNat]
    exact go (Z.1.1.2.2.1 + 2) _ (by rw [e4, Int32.ofInt_add, iof]; rfl) (by rw [if_neg c1]; rfl)
