theorem yi_ret_c {G : xG} {d a pc : Nat} {M : xM} {lo : yL} {Y : yS} {Q : Option yv → yS → Prop} {z z' : Int} (hd : M.2.2.2.2.lookup pc = some ((172, 0, 0), 1)) (hty : M.2.2.2.1 = some .int) (hz : Int32.ofInt z = Int32.ofInt z') (hq : Q (some (.inl z')) Y) : yw G d a M pc lo [.inl z] Y Q := fun σ hm => xi_ret_i hd hty rfl ⟨some (.inl z'), Y, by simp only [Option.map_some, yva, hz], hm, frz.rf, rfl, hq⟩
set_option maxRecDepth 100000 in
set_option maxHeartbeats 2000000 in
theorem cm_go {G : xG} {d a : Nat} {s b : Int32} {sz bz : Int} {Y : yS} (hs : sz = s.toInt) (hb : bz = b.toInt) : ym G d a mX9_go [.inl sz, .inl bz] Y (fun w Y' => w = some (.inl (sgo s b).toInt) ∧ Y' = Y) := by
  subst hs hb
  refine ym_at 3 rfl (by decide) (Nat.le_of_ble_eq_true rfl) tX9_go_ok ?_
  try simp only [List.map_cons, List.map_nil, List.length_cons, List.length_nil, ylr_s, ylr_0, Nat.reduceAdd, Nat.reduceSub, List.cons_append, List.nil_append, List.set_cons_zero, List.set_cons_succ, Option.toList_none, Option.toList_some, Int32.reduceToInt, yu, ya, reduceIte, Nat.reduceEqDiff, Int.toNat_natCast, Int.reduceToNat]
  refine ygo 99999 90 rfl rfl (by first | exact trivial | (simp only [true_and, yu, ya, reduceIte, Nat.reduceEqDiff, Int32.reduceToInt, Int.toNat_natCast, Int.reduceToNat]; omega) | decide | (simp; done)) ?_
  try simp only [List.map_cons, List.map_nil, List.length_cons, List.length_nil, ylr_s, ylr_0, Nat.reduceAdd, Nat.reduceSub, List.cons_append, List.nil_append, List.set_cons_zero, List.set_cons_succ, Option.toList_none, Option.toList_some, Int32.reduceToInt, yu, ya, reduceIte, Nat.reduceEqDiff, Int.toNat_natCast, Int.reduceToNat]
  refine yi_ldc rfl qX9_163 ?_
  refine ygo 99999 90 rfl rfl (by first | exact trivial | (simp only [true_and, yu, ya, reduceIte, Nat.reduceEqDiff, Int32.reduceToInt, Int.toNat_natCast, Int.reduceToNat]; omega) | decide | (simp; done)) ?_
  try simp only [List.map_cons, List.map_nil, List.length_cons, List.length_nil, ylr_s, ylr_0, Nat.reduceAdd, Nat.reduceSub, List.cons_append, List.nil_append, List.set_cons_zero, List.set_cons_succ, Option.toList_none, Option.toList_some, Int32.reduceToInt, yu, ya, reduceIte, Nat.reduceEqDiff, Int.toNat_natCast, Int.reduceToNat]
  refine yi_ret_c rfl rfl ?_ ⟨rfl, rfl⟩
  rw [Int32.ofInt_mul, iof, iof, iof, iof, iof, iof, iof]
  rfl
theorem ssum_s {s : Int32} {r : List Int32} {k : Nat} {x : Int32} (h : r[k]? = some x) : ssum s (r.take (k + 1)) = sgo (ssum s (r.take k)) x := by
  rw [List.take_succ, h]
  exact ssum_snoc _ _ _
set_option maxRecDepth 100000 in
set_option maxHeartbeats 2000000 in
theorem l_tapeSum {G : xG} {d a n : Nat} {f : Nat → Int} {A : Nat → List Int32} {r : List Int32} {nz : Int} (h : mT r (f, A)) (hn : nz = n) (hnl : n ≤ r.length) (hr : r.length ≤ 108) : ∀ (m k : Nat) (kz sz : Int), k + m = n → kz = k → sz = (ssum 2 (r.take k)).toInt →
    yw G (d + 1) a mX9_tapeSum 4 [some (.inr 0), some (.inl nz), some (.inl sz), some (.inl kz)] [] (f, A) (fun w Y' => w = some (.inl (ssum 2 (r.take n)).toInt) ∧ Y' = (f, A)) := by
  intro m
  induction m with
  | zero =>
    intro k kz sz hk hkz hs
    have hkn : k = n := by omega
    refine ygo 99999 90 rfl rfl (by first | exact trivial | (simp only [true_and, yu, ya, reduceIte, Nat.reduceEqDiff, Int32.reduceToInt, Int.toNat_natCast, Int.reduceToNat]; omega) | decide | (simp; done)) ?_
    try simp only [List.map_cons, List.map_nil, List.length_cons, List.length_nil, ylr_s, ylr_0, Nat.reduceAdd, Nat.reduceSub, List.cons_append, List.nil_append, List.set_cons_zero, List.set_cons_succ, Option.toList_none, Option.toList_some, Int32.reduceToInt, yu, ya, reduceIte, Nat.reduceEqDiff, Int.toNat_natCast, Int.reduceToNat]
    refine yi_icmpge rfl (by refine ⟨?_, ?_⟩ <;> first | exact yr_t _ | exact yr_b _ | (unfold yr; omega)) (fun c => ?_) (fun c => ?_)
    · refine ygo 99999 90 rfl rfl (by first | exact trivial | (simp only [true_and, yu, ya, reduceIte, Nat.reduceEqDiff, Int32.reduceToInt, Int.toNat_natCast, Int.reduceToNat]; omega) | decide | (simp; done)) ?_
      try simp only [List.map_cons, List.map_nil, List.length_cons, List.length_nil, ylr_s, ylr_0, Nat.reduceAdd, Nat.reduceSub, List.cons_append, List.nil_append, List.set_cons_zero, List.set_cons_succ, Option.toList_none, Option.toList_some, Int32.reduceToInt, yu, ya, reduceIte, Nat.reduceEqDiff, Int.toNat_natCast, Int.reduceToNat]
      refine yi_ret_i rfl rfl ⟨by rw [hs, hkn], rfl⟩
    · omega
  | succ m ih =>
    intro k kz sz hk hkz hs
    obtain ⟨x, hx⟩ := lt_get (l := r) (j := k) (by omega)
    have hkt : kz.toNat = k := by omega
    have hg : (A 29).getD k 0 = x := h.2 k x hx
    refine ygo 99999 90 rfl rfl (by first | exact trivial | (simp only [true_and, yu, ya, reduceIte, Nat.reduceEqDiff, Int32.reduceToInt, Int.toNat_natCast, Int.reduceToNat]; omega) | decide | (simp; done)) ?_
    try simp only [List.map_cons, List.map_nil, List.length_cons, List.length_nil, ylr_s, ylr_0, Nat.reduceAdd, Nat.reduceSub, List.cons_append, List.nil_append, List.set_cons_zero, List.set_cons_succ, Option.toList_none, Option.toList_some, Int32.reduceToInt, yu, ya, reduceIte, Nat.reduceEqDiff, Int.toNat_natCast, Int.reduceToNat]
    refine yi_icmpge rfl (by refine ⟨?_, ?_⟩ <;> first | exact yr_t _ | exact yr_b _ | (unfold yr; omega)) (fun c => ?_) (fun c => ?_)
    · omega
    refine ygo 99999 90 rfl rfl (by first | exact trivial | (simp only [true_and, yu, ya, reduceIte, Nat.reduceEqDiff, Int32.reduceToInt, Int.toNat_natCast, Int.reduceToNat]; omega) | decide | (simp; done)) ?_
    try simp only [List.map_cons, List.map_nil, List.length_cons, List.length_nil, ylr_s, ylr_0, Nat.reduceAdd, Nat.reduceSub, List.cons_append, List.nil_append, List.set_cons_zero, List.set_cons_succ, Option.toList_none, Option.toList_some, Int32.reduceToInt, yu, ya, reduceIte, Nat.reduceEqDiff, Int.toNat_natCast, Int.reduceToNat]
    refine ycS rfl rfl rfl (cm_go (b := x) hs (by rw [hkt, hg])) rfl kX9_go iX9_go rfl rfl (Nat.le_of_ble_eq_true rfl) (fun v1 Y1 q1 => ?_)
    obtain ⟨rfl, rfl⟩ := q1
    refine ygo 4 90 rfl rfl (by first | exact trivial | (simp only [true_and, yu, ya, reduceIte, Nat.reduceEqDiff, Int32.reduceToInt, Int.toNat_natCast, Int.reduceToNat]; omega) | decide | (simp; done)) ?_
    try simp only [List.map_cons, List.map_nil, List.length_cons, List.length_nil, ylr_s, ylr_0, Nat.reduceAdd, Nat.reduceSub, List.cons_append, List.nil_append, List.set_cons_zero, List.set_cons_succ, Option.toList_none, Option.toList_some, Int32.reduceToInt, yu, ya, reduceIte, Nat.reduceEqDiff, Int.toNat_natCast, Int.reduceToNat]
    exact ih (k + 1) _ _ (by omega) (by omega) (by rw [ssum_s hx])
set_option maxRecDepth 100000 in
set_option maxHeartbeats 2000000 in
theorem cm_tapeSum {G : xG} {d a n : Nat} {f : Nat → Int} {A : Nat → List Int32} {r : List Int32} {nz : Int} (h : mT r (f, A)) (hn : nz = n) (hnl : n ≤ r.length) (hr : r.length ≤ 108) : ym G (d + 1) a mX9_tapeSum [.inr 0, .inl nz] (f, A) (fun w Y' => w = some (.inl (ssum 2 (r.take n)).toInt) ∧ Y' = (f, A)) := by
  refine ym_at 4 rfl (by decide) (Nat.le_of_ble_eq_true rfl) tX9_tapeSum_ok ?_
  try simp only [List.map_cons, List.map_nil, List.length_cons, List.length_nil, ylr_s, ylr_0, Nat.reduceAdd, Nat.reduceSub, List.cons_append, List.nil_append, List.set_cons_zero, List.set_cons_succ, Option.toList_none, Option.toList_some, Int32.reduceToInt, yu, ya, reduceIte, Nat.reduceEqDiff, Int.toNat_natCast, Int.reduceToNat]
  refine ygo 4 90 rfl rfl (by first | exact trivial | (simp only [true_and, yu, ya, reduceIte, Nat.reduceEqDiff, Int32.reduceToInt, Int.toNat_natCast, Int.reduceToNat]; omega) | decide | (simp; done)) ?_
  try simp only [List.map_cons, List.map_nil, List.length_cons, List.length_nil, ylr_s, ylr_0, Nat.reduceAdd, Nat.reduceSub, List.cons_append, List.nil_append, List.set_cons_zero, List.set_cons_succ, Option.toList_none, Option.toList_some, Int32.reduceToInt, yu, ya, reduceIte, Nat.reduceEqDiff, Int.toNat_natCast, Int.reduceToNat]
  exact l_tapeSum h hn hnl hr n 0 0 _ (by omega) rfl rfl
def okT (r : List Int32) : Prop := (r.length = 0 ∨ 9 ≤ r.length) ∧ r.length ≤ 108 ∧ ∀ b ∈ r, blw b 256
theorem mT_push {r : List Int32} {f : Nat → Int} {A : Nat → List Int32} {b : Int32} (h : mT r (f, A)) (hl : yok A) (hr : r.length < 108) : mT (r ++ [b]) (yu f 30 (f 30 + 1), ya A 29 ((A 29).set (f 30).toNat b)) := by
  have l29 : (A 29).length = 108 := hl 29 _ rfl
  have h30 : f 30 = r.length := h.1
  have e : (f 30).toNat = r.length := by omega
  refine ⟨by simp [yu, h30], fun i x hx => ?_⟩
  simp only [ya, reduceIte, e]
  rcases snoc_get hx with ⟨hi, hx'⟩ | ⟨rfl, rfl⟩
  · rw [gset_ne (by omega)]
    exact h.2 i x hx'
  · rw [gset_eq (by omega)]
set_option maxRecDepth 100000 in
set_option maxHeartbeats 2000000 in
theorem o_tape {G : xG} {d a : Nat} {k : Int32} {Z : pZ} {f : Nat → Int} {A : Nat → List Int32} (h : mR Z (f, A)) (hk : okT Z.2.2.2.1) : ym G (d + 20) a mX9_tape [.inr 0, .inl k.toInt] (f, A) (ypost (F_tape k Z)) := by
  have hT := h.2.2.1
  have h30 : f 30 = Z.2.2.2.1.length := hT.1
  have hl := hk.2.1
  unfold F_tape
  refine ym_at 2 rfl (by decide) (Nat.le_of_ble_eq_true rfl) tX9_tape_ok ?_
  try simp only [List.map_cons, List.map_nil, List.length_cons, List.length_nil, ylr_s, ylr_0, Nat.reduceAdd, Nat.reduceSub, List.cons_append, List.nil_append, List.set_cons_zero, List.set_cons_succ, Option.toList_none, Option.toList_some, Int32.reduceToInt, yu, ya, reduceIte, Nat.reduceEqDiff, Int.toNat_natCast, Int.reduceToNat]
  refine ygo 99999 90 rfl rfl (by first | exact trivial | (simp only [true_and, yu, ya, reduceIte, Nat.reduceEqDiff, Int32.reduceToInt, Int.toNat_natCast, Int.reduceToNat]; omega) | decide | (simp; done)) ?_
  try simp only [List.map_cons, List.map_nil, List.length_cons, List.length_nil, ylr_s, ylr_0, Nat.reduceAdd, Nat.reduceSub, List.cons_append, List.nil_append, List.set_cons_zero, List.set_cons_succ, Option.toList_none, Option.toList_some, Int32.reduceToInt, yu, ya, reduceIte, Nat.reduceEqDiff, Int.toNat_natCast, Int.reduceToNat]
  refine yi_iflt rfl (by first | exact yr_t _ | exact yr_b _ | (unfold yr; omega)) (fun c1 => ?_) (fun c1 => ?_)
  · refine ygo 99999 90 rfl rfl (by first | exact trivial | (simp only [true_and, yu, ya, reduceIte, Nat.reduceEqDiff, Int32.reduceToInt, Int.toNat_natCast, Int.reduceToNat]; omega) | decide | (simp; done)) ?_
    try simp only [List.map_cons, List.map_nil, List.length_cons, List.length_nil, ylr_s, ylr_0, Nat.reduceAdd, Nat.reduceSub, List.cons_append, List.nil_append, List.set_cons_zero, List.set_cons_succ, Option.toList_none, Option.toList_some, Int32.reduceToInt, yu, ya, reduceIte, Nat.reduceEqDiff, Int.toNat_natCast, Int.reduceToNat]
    refine yi_ret_i rfl rfl (ypost.same h rfl (by rw [bat_out (by omega)]; rfl))
  refine ygo 99999 90 rfl rfl (by first | exact trivial | (simp only [true_and, yu, ya, reduceIte, Nat.reduceEqDiff, Int32.reduceToInt, Int.toNat_natCast, Int.reduceToNat]; omega) | decide | (simp; done)) ?_
  try simp only [List.map_cons, List.map_nil, List.length_cons, List.length_nil, ylr_s, ylr_0, Nat.reduceAdd, Nat.reduceSub, List.cons_append, List.nil_append, List.set_cons_zero, List.set_cons_succ, Option.toList_none, Option.toList_some, Int32.reduceToInt, yu, ya, reduceIte, Nat.reduceEqDiff, Int.toNat_natCast, Int.reduceToNat]
  refine yi_icmplt rfl (by refine ⟨?_, ?_⟩ <;> first | exact yr_t _ | exact yr_b _ | (unfold yr; omega)) (fun c2 => ?_) (fun c2 => ?_)
  · have hb : bin Z.2.2.2.1.length k = true := decide_eq_true (by omega)
    have hg : (A 29).getD k.toInt.toNat 0 = _ := hT.2 _ _ (bat_in hb)
    refine ygo 99999 90 rfl rfl (by first | exact trivial | (simp only [true_and, yu, ya, reduceIte, Nat.reduceEqDiff, Int32.reduceToInt, Int.toNat_natCast, Int.reduceToNat]; omega) | decide | (simp; done)) ?_
    try simp only [List.map_cons, List.map_nil, List.length_cons, List.length_nil, ylr_s, ylr_0, Nat.reduceAdd, Nat.reduceSub, List.cons_append, List.nil_append, List.set_cons_zero, List.set_cons_succ, Option.toList_none, Option.toList_some, Int32.reduceToInt, yu, ya, reduceIte, Nat.reduceEqDiff, Int.toNat_natCast, Int.reduceToNat]
    refine yi_ret_i rfl rfl (ypost.same h rfl (by rw [hg]))
  · refine ygo 99999 90 rfl rfl (by first | exact trivial | (simp only [true_and, yu, ya, reduceIte, Nat.reduceEqDiff, Int32.reduceToInt, Int.toNat_natCast, Int.reduceToNat]; omega) | decide | (simp; done)) ?_
    try simp only [List.map_cons, List.map_nil, List.length_cons, List.length_nil, ylr_s, ylr_0, Nat.reduceAdd, Nat.reduceSub, List.cons_append, List.nil_append, List.set_cons_zero, List.set_cons_succ, Option.toList_none, Option.toList_some, Int32.reduceToInt, yu, ya, reduceIte, Nat.reduceEqDiff, Int.toNat_natCast, Int.reduceToNat]
    refine yi_ret_i rfl rfl (ypost.same h rfl (by rw [bat_out (by omega)]; rfl))
set_option maxRecDepth 100000 in
set_option maxHeartbeats 2000000 in
theorem o_bend {G : xG} {d a : Nat} {k m : Int32} {Z : pZ} {f : Nat → Int} {A : Nat → List Int32} (h : mR Z (f, A)) (hk : okT Z.2.2.2.1) : ym G (d + 20) a mX9_bend [.inr 0, .inl k.toInt, .inl m.toInt] (f, A) (ypost (F_bend k m Z)) := by
  have hT := h.2.2.1
  have h30 : f 30 = Z.2.2.2.1.length := hT.1
  have hl := hk.2.1
  unfold F_bend
  refine ym.len (fun hlen => ?_)
  have l29 : (A 29).length = 108 := hlen 29 _ rfl
  have no : ¬ xorOk Z.2.2.2.1.length k m → ypost (if xorOk Z.2.2.2.1.length k m then (1, zR Z (xorB Z.2.2.2.1 k m)) else (-1, Z)) (some (.inl (-1))) (f, A) := fun hc => ypost.same h (if_neg hc) rfl
  refine ym_at 3 rfl (by decide) (Nat.le_of_ble_eq_true rfl) tX9_bend_ok ?_
  try simp only [List.map_cons, List.map_nil, List.length_cons, List.length_nil, ylr_s, ylr_0, Nat.reduceAdd, Nat.reduceSub, List.cons_append, List.nil_append, List.set_cons_zero, List.set_cons_succ, Option.toList_none, Option.toList_some, Int32.reduceToInt, yu, ya, reduceIte, Nat.reduceEqDiff, Int.toNat_natCast, Int.reduceToNat]
  refine ygo 99999 90 rfl rfl (by first | exact trivial | (simp only [true_and, yu, ya, reduceIte, Nat.reduceEqDiff, Int32.reduceToInt, Int.toNat_natCast, Int.reduceToNat]; omega) | decide | (simp; done)) ?_
  try simp only [List.map_cons, List.map_nil, List.length_cons, List.length_nil, ylr_s, ylr_0, Nat.reduceAdd, Nat.reduceSub, List.cons_append, List.nil_append, List.set_cons_zero, List.set_cons_succ, Option.toList_none, Option.toList_some, Int32.reduceToInt, yu, ya, reduceIte, Nat.reduceEqDiff, Int.toNat_natCast, Int.reduceToNat]
  refine yi_iflt rfl (by first | exact yr_t _ | exact yr_b _ | (unfold yr; omega)) (fun c1 => ?_) (fun c1 => ?_)
  · refine ygo 99999 90 rfl rfl (by first | exact trivial | (simp only [true_and, yu, ya, reduceIte, Nat.reduceEqDiff, Int32.reduceToInt, Int.toNat_natCast, Int.reduceToNat]; omega) | decide | (simp; done)) ?_
    try simp only [List.map_cons, List.map_nil, List.length_cons, List.length_nil, ylr_s, ylr_0, Nat.reduceAdd, Nat.reduceSub, List.cons_append, List.nil_append, List.set_cons_zero, List.set_cons_succ, Option.toList_none, Option.toList_some, Int32.reduceToInt, yu, ya, reduceIte, Nat.reduceEqDiff, Int.toNat_natCast, Int.reduceToNat]
    refine yi_ret_i rfl rfl (no (fun hc => by have := of_decide_eq_true hc.1; omega))
  refine ygo 99999 90 rfl rfl (by first | exact trivial | (simp only [true_and, yu, ya, reduceIte, Nat.reduceEqDiff, Int32.reduceToInt, Int.toNat_natCast, Int.reduceToNat]; omega) | decide | (simp; done)) ?_
  try simp only [List.map_cons, List.map_nil, List.length_cons, List.length_nil, ylr_s, ylr_0, Nat.reduceAdd, Nat.reduceSub, List.cons_append, List.nil_append, List.set_cons_zero, List.set_cons_succ, Option.toList_none, Option.toList_some, Int32.reduceToInt, yu, ya, reduceIte, Nat.reduceEqDiff, Int.toNat_natCast, Int.reduceToNat]
  refine yi_icmpge rfl (by refine ⟨?_, ?_⟩ <;> first | exact yr_t _ | exact yr_b _ | (unfold yr; omega)) (fun c2 => ?_) (fun c2 => ?_)
  · refine ygo 99999 90 rfl rfl (by first | exact trivial | (simp only [true_and, yu, ya, reduceIte, Nat.reduceEqDiff, Int32.reduceToInt, Int.toNat_natCast, Int.reduceToNat]; omega) | decide | (simp; done)) ?_
    try simp only [List.map_cons, List.map_nil, List.length_cons, List.length_nil, ylr_s, ylr_0, Nat.reduceAdd, Nat.reduceSub, List.cons_append, List.nil_append, List.set_cons_zero, List.set_cons_succ, Option.toList_none, Option.toList_some, Int32.reduceToInt, yu, ya, reduceIte, Nat.reduceEqDiff, Int.toNat_natCast, Int.reduceToNat]
    refine yi_ret_i rfl rfl (no (fun hc => by have := of_decide_eq_true hc.1; omega))
  refine ygo 99999 90 rfl rfl (by first | exact trivial | (simp only [true_and, yu, ya, reduceIte, Nat.reduceEqDiff, Int32.reduceToInt, Int.toNat_natCast, Int.reduceToNat]; omega) | decide | (simp; done)) ?_
  try simp only [List.map_cons, List.map_nil, List.length_cons, List.length_nil, ylr_s, ylr_0, Nat.reduceAdd, Nat.reduceSub, List.cons_append, List.nil_append, List.set_cons_zero, List.set_cons_succ, Option.toList_none, Option.toList_some, Int32.reduceToInt, yu, ya, reduceIte, Nat.reduceEqDiff, Int.toNat_natCast, Int.reduceToNat]
  refine yi_icmplt rfl (by refine ⟨?_, ?_⟩ <;> first | exact yr_t _ | exact yr_b _ | (unfold yr; omega)) (fun c3 => ?_) (fun c3 => ?_)
  · refine ygo 99999 90 rfl rfl (by first | exact trivial | (simp only [true_and, yu, ya, reduceIte, Nat.reduceEqDiff, Int32.reduceToInt, Int.toNat_natCast, Int.reduceToNat]; omega) | decide | (simp; done)) ?_
    try simp only [List.map_cons, List.map_nil, List.length_cons, List.length_nil, ylr_s, ylr_0, Nat.reduceAdd, Nat.reduceSub, List.cons_append, List.nil_append, List.set_cons_zero, List.set_cons_succ, Option.toList_none, Option.toList_some, Int32.reduceToInt, yu, ya, reduceIte, Nat.reduceEqDiff, Int.toNat_natCast, Int.reduceToNat]
    refine yi_ret_i rfl rfl (no (fun hc => by have := hc.2.1; omega))
  refine ygo 99999 90 rfl rfl (by first | exact trivial | (simp only [true_and, yu, ya, reduceIte, Nat.reduceEqDiff, Int32.reduceToInt, Int.toNat_natCast, Int.reduceToNat]; omega) | decide | (simp; done)) ?_
  try simp only [List.map_cons, List.map_nil, List.length_cons, List.length_nil, ylr_s, ylr_0, Nat.reduceAdd, Nat.reduceSub, List.cons_append, List.nil_append, List.set_cons_zero, List.set_cons_succ, Option.toList_none, Option.toList_some, Int32.reduceToInt, yu, ya, reduceIte, Nat.reduceEqDiff, Int.toNat_natCast, Int.reduceToNat]
  refine yi_icmple rfl (by refine ⟨?_, ?_⟩ <;> first | exact yr_t _ | exact yr_b _ | (unfold yr; omega)) (fun c4 => ?_) (fun c4 => ?_)
  · have hb : bin Z.2.2.2.1.length k = true := decide_eq_true (by omega)
    have hg : (A 29).getD k.toInt.toNat 0 = _ := hT.2 _ _ (bat_in hb)
    rw [if_pos ⟨hb, by omega, by omega⟩]
    refine ygo 99999 90 rfl rfl (by first | exact trivial | (simp only [true_and, yu, ya, reduceIte, Nat.reduceEqDiff, Int32.reduceToInt, Int.toNat_natCast, Int.reduceToNat]; omega) | decide | (simp; done)) ?_
    try simp only [List.map_cons, List.map_nil, List.length_cons, List.length_nil, ylr_s, ylr_0, Nat.reduceAdd, Nat.reduceSub, List.cons_append, List.nil_append, List.set_cons_zero, List.set_cons_succ, Option.toList_none, Option.toList_some, Int32.reduceToInt, yu, ya, reduceIte, Nat.reduceEqDiff, Int.toNat_natCast, Int.reduceToNat]
    rw [hg, iof, iof, iof]
    refine yi_ret_i rfl rfl ⟨rfl, h.1, h.2.1, ⟨by simp only [zR, xorB, List.length_set]; exact h30, fun i b hb2 => ?_⟩, h.2.2.2⟩
    have hb' : (Z.2.2.2.1.set k.toInt.toNat (bat Z.2.2.2.1 k ^^^ m))[i]? = some b := hb2
    simp only [ya, reduceIte]
    by_cases hik : i = k.toInt.toNat
    · subst hik
      rw [List.getElem?_set_self (by omega)] at hb'
      cases hb'
      rw [gset_eq (by omega)]
    · rw [List.getElem?_set_ne (fun e => hik e.symm)] at hb'
      rw [gset_ne hik]
      exact hT.2 i b hb'
  · refine ygo 99999 90 rfl rfl (by first | exact trivial | (simp only [true_and, yu, ya, reduceIte, Nat.reduceEqDiff, Int32.reduceToInt, Int.toNat_natCast, Int.reduceToNat]; omega) | decide | (simp; done)) ?_
    try simp only [List.map_cons, List.map_nil, List.length_cons, List.length_nil, ylr_s, ylr_0, Nat.reduceAdd, Nat.reduceSub, List.cons_append, List.nil_append, List.set_cons_zero, List.set_cons_succ, Option.toList_none, Option.toList_some, Int32.reduceToInt, yu, ya, reduceIte, Nat.reduceEqDiff, Int.toNat_natCast, Int.reduceToNat]
    refine yi_ret_i rfl rfl (no (fun hc => by have := hc.2.2; omega))
set_option maxRecDepth 100000 in
set_option maxHeartbeats 2000000 in
theorem l_load2 {G : xG} {d a : Nat} {x1 x2 x3 x4 : Int} {S : Int32} {Z : pZ} {F : List Int32} (hF : F.length ≤ 108) : ∀ (n k : Nat) (r : List Int32) (kz : Int) (f : Nat → Int) (A : Nat → List Int32), k + n = 4 → kz = 24 - 8 * k → r.length + n = F.length → r ++ ((four S).drop k) = F → mR (zR Z r) (f, A) →
    yw G (d + 20) a mX9_load 138 [some (.inr 0), some (.inl x1), some (.inl x2), some (.inl x3), some (.inl x4), some (.inl S.toInt), some (.inl kz)] [] (f, A) (ypost (nI F.length, zR Z F)) := by
  intro n
  induction n with
  | zero =>
    intro k r kz f A hk hkz hrl hr h
    have hk4 : k = 4 := by omega
    subst hk4
    have hrF : r = F := by rw [← hr]; simp [four]
    subst hrF
    have h30 : f 30 = r.length := h.2.2.1.1
    refine ygo 99999 90 rfl rfl (by first | exact trivial | (simp only [true_and, yu, ya, reduceIte, Nat.reduceEqDiff, Int32.reduceToInt, Int.toNat_natCast, Int.reduceToNat]; omega) | decide | (simp; done)) ?_
    try simp only [List.map_cons, List.map_nil, List.length_cons, List.length_nil, ylr_s, ylr_0, Nat.reduceAdd, Nat.reduceSub, List.cons_append, List.nil_append, List.set_cons_zero, List.set_cons_succ, Option.toList_none, Option.toList_some, Int32.reduceToInt, yu, ya, reduceIte, Nat.reduceEqDiff, Int.toNat_natCast, Int.reduceToNat]
    refine yi_iflt rfl (by first | exact yr_t _ | exact yr_b _ | (unfold yr; omega)) (fun c => ?_) (fun c => ?_)
    · refine ygo 99999 90 rfl rfl (by first | exact trivial | (simp only [true_and, yu, ya, reduceIte, Nat.reduceEqDiff, Int32.reduceToInt, Int.toNat_natCast, Int.reduceToNat]; omega) | decide | (simp; done)) ?_
      try simp only [List.map_cons, List.map_nil, List.length_cons, List.length_nil, ylr_s, ylr_0, Nat.reduceAdd, Nat.reduceSub, List.cons_append, List.nil_append, List.set_cons_zero, List.set_cons_succ, Option.toList_none, Option.toList_some, Int32.reduceToInt, yu, ya, reduceIte, Nat.reduceEqDiff, Int.toNat_natCast, Int.reduceToNat]
      refine yi_ret_i rfl rfl ⟨by rw [i_n (by omega)]; exact congrArg (fun z => some (Sum.inl z)) h30, h⟩
    · omega
  | succ n ih =>
    intro k r kz f A hk hkz hrl hr h
    refine yw.len (fun hlen => ?_)
    have hT := h.2.2.1
    have h30 : f 30 = r.length := hT.1
    obtain ⟨b, hb⟩ := lt_get (l := four S) (j := k) (by rw [four_len]; omega)
    have hbS : (Int32.ofInt ((Int32.ofInt S.toInt).toUInt32 >>> ((Int32.ofInt kz).toUInt32 &&& Int32.toUInt32 31)).toInt32.toInt &&& Int32.ofInt 255) = b := by
      rw [iof, iof, hkz]
      rcases (show k = 0 ∨ k = 1 ∨ k = 2 ∨ k = 3 by omega) with rfl | rfl | rfl | rfl
      · have e : bsh S 24 = b := by simpa [four] using hb
        rw [← e]; rfl
      · have e : bsh S 16 = b := by simpa [four] using hb
        rw [← e]; rfl
      · have e : bsh S 8 = b := by simpa [four] using hb
        rw [← e]; rfl
      · have e : bsh S 0 = b := by simpa [four] using hb
        rw [← e]; rfl
    refine ygo 99999 90 rfl rfl (by first | exact trivial | (simp only [true_and, yu, ya, reduceIte, Nat.reduceEqDiff, Int32.reduceToInt, Int.toNat_natCast, Int.reduceToNat]; omega) | decide | (simp; done)) ?_
    try simp only [List.map_cons, List.map_nil, List.length_cons, List.length_nil, ylr_s, ylr_0, Nat.reduceAdd, Nat.reduceSub, List.cons_append, List.nil_append, List.set_cons_zero, List.set_cons_succ, Option.toList_none, Option.toList_some, Int32.reduceToInt, yu, ya, reduceIte, Nat.reduceEqDiff, Int.toNat_natCast, Int.reduceToNat]
    refine yi_iflt rfl (by first | exact yr_t _ | exact yr_b _ | (unfold yr; omega)) (fun c => ?_) (fun c => ?_)
    · omega
    refine ygo 138 90 rfl rfl (by first | exact trivial | (simp only [true_and, yu, ya, reduceIte, Nat.reduceEqDiff, Int32.reduceToInt, Int.toNat_natCast, Int.reduceToNat]; omega) | decide | (simp; done)) ?_
    try simp only [List.map_cons, List.map_nil, List.length_cons, List.length_nil, ylr_s, ylr_0, Nat.reduceAdd, Nat.reduceSub, List.cons_append, List.nil_append, List.set_cons_zero, List.set_cons_succ, Option.toList_none, Option.toList_some, Int32.reduceToInt, yu, ya, reduceIte, Nat.reduceEqDiff, Int.toNat_natCast, Int.reduceToNat]
    rw [hbS, iof]
    refine ih (k + 1) (r ++ [b]) _ _ _ (by omega) (by omega) (by simp; omega) ?_ ⟨h.1, h.2.1, mT_push hT hlen (by omega), h.2.2.2⟩
    rw [← hr, drop_cons hb]
    simp
set_option maxRecDepth 100000 in
set_option maxHeartbeats 2000000 in
theorem l_load1 {G : xG} {d a j m ii many e : Nat} {Z : pZ} {x : pP} (hj : Z.2.2.1[j]? = some x) (hk : okP Z.2.2.1) (hj16 : j < 16) (hm8 : 8 ≤ m) (hm : m ≤ 100) (he : e = min ((ii + 1) * m) x.2.2.length) (hmany : many < 20000) (hii : ii * m ≤ x.2.2.length) (hi88 : ii < 20000) : ∀ (n k : Nat) (kz : Int) (f : Nat → Int) (A : Nat → List Int32), k + n = e → ii * m ≤ k → kz = k → mR (zR Z ([112, nI j, nI ii, nI many] ++ (x.2.2.drop (ii * m)).take (k - ii * m))) (f, A) →
    yw G (d + 20) a mX9_load 65 [some (.inr 0), some (.inl j), some (.inl m), some (.inl ii), some (.inl many), some (.inl kz), none] [] (f, A) (ypost (nI (ptape (nI j) (nI ii) many m x.2.2).length, zR Z (ptape (nI j) (nI ii) many m x.2.2))) := by
  have hxl := (hk.2 x (List.mem_of_getElem? hj)).2.1
  have hmm : (m : Int) * ((ii : Int) + 1) = m * ii + m := by rw [Int.mul_add, Int.mul_one]
  have hcast : ((ii * m : Nat) : Int) = m * ii := by rw [Int.natCast_mul, Int.mul_comm]
  have hnat : (ii + 1) * m = ii * m + m := by rw [Nat.add_mul, Nat.one_mul]
  have hiin : (nI ii).toInt.toNat = ii := by rw [i_n (by omega)]; rfl
  generalize him : ii * m = im at *
  intro n
  have fin : ∀ (f : Nat → Int) (A : Nat → List Int32) (kz : Int), mR (zR Z ([112, nI j, nI ii, nI many] ++ (x.2.2.drop im).take (e - im))) (f, A) → yw G (d + 20) a mX9_load 124 [some (.inr 0), some (.inl j), some (.inl m), some (.inl ii), some (.inl many), some (.inl kz), none] [] (f, A) (ypost (nI (ptape (nI j) (nI ii) many m x.2.2).length, zR Z (ptape (nI j) (nI ii) many m x.2.2))) := by
    intro f A kz h
    have hbd : [112, nI j, nI ii, nI many] ++ (x.2.2.drop im).take (e - im) = pbody (nI j) (nI ii) many m x.2.2 := by
      unfold pbody
      rw [hiin, him, ← he]
    have hbl : (pbody (nI j) (nI ii) many m x.2.2).length ≤ 104 := by
      rw [← hbd]
      simp only [List.length_append, List.length_cons, List.length_nil, List.length_take, List.length_drop]
      omega
    rw [hbd] at h
    unfold ptape
    generalize pbody (nI j) (nI ii) many m x.2.2 = pb at h hbl
    have h30 : f 30 = pb.length := h.2.2.1.1
    refine ygo 99999 90 rfl rfl (by first | exact trivial | (simp only [true_and, yu, ya, reduceIte, Nat.reduceEqDiff, Int32.reduceToInt, Int.toNat_natCast, Int.reduceToNat]; omega) | decide | (simp; done)) ?_
    try simp only [List.map_cons, List.map_nil, List.length_cons, List.length_nil, ylr_s, ylr_0, Nat.reduceAdd, Nat.reduceSub, List.cons_append, List.nil_append, List.set_cons_zero, List.set_cons_succ, Option.toList_none, Option.toList_some, Int32.reduceToInt, yu, ya, reduceIte, Nat.reduceEqDiff, Int.toNat_natCast, Int.reduceToNat]
    refine ycV rfl rfl rfl (cm_tapeSum h.2.2.1 h30 (Nat.le_refl _) (by simp only [zR]; omega)) rfl kX9_tapeSum iX9_tapeSum rfl rfl rfl (Nat.le_of_ble_eq_true rfl) (fun v1 Y1 q1 => ?_)
    obtain ⟨rfl, rfl⟩ := q1
    rw [show (zR Z pb).2.2.2.1 = pb from rfl, List.take_length]
    refine ygo 138 90 rfl rfl (by first | exact trivial | (simp only [true_and, yu, ya, reduceIte, Nat.reduceEqDiff, Int32.reduceToInt, Int.toNat_natCast, Int.reduceToNat]; omega) | decide | (simp; done)) ?_
    try simp only [List.map_cons, List.map_nil, List.length_cons, List.length_nil, ylr_s, ylr_0, Nat.reduceAdd, Nat.reduceSub, List.cons_append, List.nil_append, List.set_cons_zero, List.set_cons_succ, Option.toList_none, Option.toList_some, Int32.reduceToInt, yu, ya, reduceIte, Nat.reduceEqDiff, Int.toNat_natCast, Int.reduceToNat]
    exact l_load2 (by simp [four_len]; omega) 4 0 pb _ f A (by omega) rfl (by simp [four_len]) rfl h
  induction n with
  | zero =>
    intro k kz f A hk1 hk2 hkz h
    have hke : k = e := by omega
    subst hke
    have h21 : (A 21).getD j 0 = nI x.2.2.length := (h.2.1.2 j x hj).1
    have hle : ((A 21).getD j 0).toInt = x.2.2.length := by rw [h21, i_n (by omega)]
    refine ygo 99999 90 rfl rfl (by exact trivial) ?_
    try simp only [List.map_cons, List.map_nil, List.length_cons, List.length_nil, ylr_s, ylr_0, Nat.reduceAdd, Nat.reduceSub, List.cons_append, List.nil_append, List.set_cons_zero, List.set_cons_succ, Option.toList_none, Option.toList_some, Int32.reduceToInt, yu, ya, reduceIte, Nat.reduceEqDiff, Int.toNat_natCast, Int.reduceToNat]
    refine yi_icmpge rfl (by refine ⟨?_, ?_⟩ <;> first | exact yr_t _ | exact yr_b _ | (unfold yr; omega)) (fun c => ?_) (fun c => ?_)
    · exact fin f A _ h
    refine ygo 99999 90 rfl rfl (by first | exact trivial | (simp only [true_and, yu, ya, reduceIte, Nat.reduceEqDiff, Int32.reduceToInt, Int.toNat_natCast, Int.reduceToNat]; omega) | decide | (simp; done)) ?_
    try simp only [List.map_cons, List.map_nil, List.length_cons, List.length_nil, ylr_s, ylr_0, Nat.reduceAdd, Nat.reduceSub, List.cons_append, List.nil_append, List.set_cons_zero, List.set_cons_succ, Option.toList_none, Option.toList_some, Int32.reduceToInt, yu, ya, reduceIte, Nat.reduceEqDiff, Int.toNat_natCast, Int.reduceToNat]
    refine yi_icmpge rfl (by refine ⟨?_, ?_⟩ <;> first | exact yr_t _ | exact yr_b _ | (unfold yr; omega)) (fun c2 => ?_) (fun c2 => ?_)
    · exact fin f A _ h
    · omega
  | succ n ih =>
    intro k kz f A hk1 hk2 hkz h
    refine yw.len (fun hlen => ?_)
    have h21 : (A 21).getD j 0 = nI x.2.2.length := (h.2.1.2 j x hj).1
    have hle : ((A 21).getD j 0).toInt = x.2.2.length := by rw [h21, i_n (by omega)]
    have hT := h.2.2.1
    have h30 : f 30 = ([112, nI j, nI ii, nI many] ++ (x.2.2.drop im).take (k - im)).length := hT.1
    have hrl : ([112, nI j, nI ii, nI many] ++ (x.2.2.drop im).take (k - im)).length = 4 + (k - im) := by
      simp only [List.length_append, List.length_cons, List.length_nil, List.length_take, List.length_drop]
      omega
    obtain ⟨b, hb⟩ := lt_get (l := x.2.2) (j := k) (by omega)
    have hg : (A 20).getD (700 * j + k) 0 = b := (h.2.1.2 j x hj).2 k b hb
    have i1 : (700 * (j : Int) + kz).toNat = 700 * j + k := by omega
    refine ygo 99999 90 rfl rfl (by first | exact trivial | (simp only [true_and, yu, ya, reduceIte, Nat.reduceEqDiff, Int32.reduceToInt, Int.toNat_natCast, Int.reduceToNat]; omega) | decide | (simp; done)) ?_
    try simp only [List.map_cons, List.map_nil, List.length_cons, List.length_nil, ylr_s, ylr_0, Nat.reduceAdd, Nat.reduceSub, List.cons_append, List.nil_append, List.set_cons_zero, List.set_cons_succ, Option.toList_none, Option.toList_some, Int32.reduceToInt, yu, ya, reduceIte, Nat.reduceEqDiff, Int.toNat_natCast, Int.reduceToNat]
    refine yi_icmpge rfl (by refine ⟨?_, ?_⟩ <;> first | exact yr_t _ | exact yr_b _ | (unfold yr; omega)) (fun c => ?_) (fun c => ?_)
    · omega
    refine ygo 99999 90 rfl rfl (by first | exact trivial | (simp only [true_and, yu, ya, reduceIte, Nat.reduceEqDiff, Int32.reduceToInt, Int.toNat_natCast, Int.reduceToNat]; omega) | decide | (simp; done)) ?_
    try simp only [List.map_cons, List.map_nil, List.length_cons, List.length_nil, ylr_s, ylr_0, Nat.reduceAdd, Nat.reduceSub, List.cons_append, List.nil_append, List.set_cons_zero, List.set_cons_succ, Option.toList_none, Option.toList_some, Int32.reduceToInt, yu, ya, reduceIte, Nat.reduceEqDiff, Int.toNat_natCast, Int.reduceToNat]
    refine yi_icmpge rfl (by refine ⟨?_, ?_⟩ <;> first | exact yr_t _ | exact yr_b _ | (unfold yr; omega)) (fun c2 => ?_) (fun c2 => ?_)
    · omega
    refine ygo 65 90 rfl rfl (by first | exact trivial | (simp only [true_and, yu, ya, reduceIte, Nat.reduceEqDiff, Int32.reduceToInt, Int.toNat_natCast, Int.reduceToNat]; omega) | decide | (simp; done)) ?_
    try simp only [List.map_cons, List.map_nil, List.length_cons, List.length_nil, ylr_s, ylr_0, Nat.reduceAdd, Nat.reduceSub, List.cons_append, List.nil_append, List.set_cons_zero, List.set_cons_succ, Option.toList_none, Option.toList_some, Int32.reduceToInt, yu, ya, reduceIte, Nat.reduceEqDiff, Int.toNat_natCast, Int.reduceToNat]
    rw [i1, hg, iof]
    have hp := mT_push (b := b) hT hlen (by simp only [zR]; omega)
    refine ih (k + 1) _ _ _ (by omega) (by omega) (by omega) ⟨h.1, h.2.1, ?_, h.2.2.2⟩
    have hs : (x.2.2.drop im).take (k + 1 - im) = (x.2.2.drop im).take (k - im) ++ [b] := by
      rw [seg_snoc hk2 (by omega), List.getD_eq_getElem?_getD, hb]
      rfl
    rw [hs, ← List.append_assoc]
    exact hp
