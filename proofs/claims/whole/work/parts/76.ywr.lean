/-! ===== the reference writes ===== -/
def wrS (ws : List Int32) (Y : yS) : Prop := Y.1 16 = ws.length ∧ ∀ (i : Nat) (x : Int32), ws[i]? = some x → (Y.2 15).getD i 0 = x
/-- what is squeezed; nothing is said of a row that is too long -/
def sqS (qs : List Int32) (Y : yS) : Prop := qs.length ≤ 480 → Y.1 18 = qs.length ∧ ∀ (i : Nat) (x : Int32), qs[i]? = some x → (Y.2 17).getD i 0 = x
def mW (Z : pZ) (ws qs : List Int32) (Y : yS) : Prop := mR Z Y ∧ wrS ws Y ∧ sqS qs Y
set_option maxRecDepth 100000 in
set_option maxHeartbeats 2000000 in
theorem cm_write {G : xG} {d a : Nat} {Z : pZ} {ws qs : List Int32} {v : Int32} {vz : Int} {f : Nat → Int} {A : Nat → List Int32} (h : mW Z ws qs (f, A)) (hv : Int32.ofInt vz = v) (hl : ws.length < 2400) : ym G d a mX9_write [.inr 0, .inl vz] (f, A) (fun w Y' => w = none ∧ mW Z (ws ++ [v]) qs Y') := by
  refine ym.len (fun hlen => ?_)
  have l15 : (A 15).length = 2400 := hlen 15 _ rfl
  have h16 : f 16 = ws.length := h.2.1.1
  have e : (f 16).toNat = ws.length := by omega
  refine ym_at 2 rfl (by decide) (Nat.le_of_ble_eq_true rfl) tX9_write_ok ?_
  try simp only [List.map_cons, List.map_nil, List.length_cons, List.length_nil, ylr_s, ylr_0, Nat.reduceAdd, Nat.reduceSub, List.cons_append, List.nil_append, List.set_cons_zero, List.set_cons_succ, Option.toList_none, Option.toList_some, Int32.reduceToInt, yu, ya, reduceIte, Nat.reduceEqDiff, Int.toNat_natCast, Int.reduceToNat]
  refine ygo 99999 90 rfl rfl (by first | exact trivial | (simp only [true_and, yu, ya, reduceIte, Nat.reduceEqDiff, Int32.reduceToInt, Int.toNat_natCast, Int.reduceToNat]; omega) | decide | (simp; done) | (simp; omega)) ?_
  try simp only [List.map_cons, List.map_nil, List.length_cons, List.length_nil, ylr_s, ylr_0, Nat.reduceAdd, Nat.reduceSub, List.cons_append, List.nil_append, List.set_cons_zero, List.set_cons_succ, Option.toList_none, Option.toList_some, Int32.reduceToInt, yu, ya, reduceIte, Nat.reduceEqDiff, Int.toNat_natCast, Int.reduceToNat]
  refine yi_ret_v rfl rfl ⟨rfl, h.1, ⟨by simp [yu, h16], fun i x hx => ?_⟩, h.2.2⟩
  simp only [ya, reduceIte, e, hv]
  rcases snoc_get hx with ⟨hi, hx'⟩ | ⟨rfl, rfl⟩
  · rw [gset_ne (by omega)]; exact h.2.1.2 i x hx'
  · rw [gset_eq (by omega)]
set_option maxRecDepth 100000 in
set_option maxHeartbeats 2000000 in
theorem cm_squeeze {G : xG} {d a : Nat} {Z : pZ} {ws qs : List Int32} {v : Int32} {vz : Int} {f : Nat → Int} {A : Nat → List Int32} (h : mW Z ws qs (f, A)) (hv : Int32.ofInt vz = v) (hl : qs.length < 480) : ym G d a mX9_squeeze [.inr 0, .inl vz] (f, A) (fun w Y' => w = none ∧ mW Z ws (qs ++ [v]) Y') := by
  refine ym.len (fun hlen => ?_)
  have l17 : (A 17).length = 480 := hlen 17 _ rfl
  have hS := h.2.2 (by omega)
  have h18 : f 18 = qs.length := hS.1
  have e : (f 18).toNat = qs.length := by omega
  refine ym_at 2 rfl (by decide) (Nat.le_of_ble_eq_true rfl) tX9_squeeze_ok ?_
  try simp only [List.map_cons, List.map_nil, List.length_cons, List.length_nil, ylr_s, ylr_0, Nat.reduceAdd, Nat.reduceSub, List.cons_append, List.nil_append, List.set_cons_zero, List.set_cons_succ, Option.toList_none, Option.toList_some, Int32.reduceToInt, yu, ya, reduceIte, Nat.reduceEqDiff, Int.toNat_natCast, Int.reduceToNat]
  refine ygo 99999 90 rfl rfl (by first | exact trivial | (simp only [true_and, yu, ya, reduceIte, Nat.reduceEqDiff, Int32.reduceToInt, Int.toNat_natCast, Int.reduceToNat]; omega) | decide | (simp; done) | (simp; omega)) ?_
  try simp only [List.map_cons, List.map_nil, List.length_cons, List.length_nil, ylr_s, ylr_0, Nat.reduceAdd, Nat.reduceSub, List.cons_append, List.nil_append, List.set_cons_zero, List.set_cons_succ, Option.toList_none, Option.toList_some, Int32.reduceToInt, yu, ya, reduceIte, Nat.reduceEqDiff, Int.toNat_natCast, Int.reduceToNat]
  refine yi_ret_v rfl rfl ⟨rfl, h.1, h.2.1, fun _ => ⟨by simp [yu, h18], fun i x hx => ?_⟩⟩
  simp only [ya, reduceIte, e, hv]
  rcases snoc_get hx with ⟨hi, hx'⟩ | ⟨rfl, rfl⟩
  · rw [gset_ne (by omega)]; exact hS.2 i x hx'
  · rw [gset_eq (by omega)]
/-- the page of row r -/
def pgA (A : Nat → List Int32) (r : Nat) (P : List Int32) : Prop := ∀ (i : Nat) (x : Int32), P[i]? = some x → (A 14).getD (120 * r + i) 0 = x
theorem mW.pg {Z : pZ} {ws qs : List Int32} {f : Nat → Int} {A : Nat → List Int32} {r : Nat} {e : Int32 × Int32 × List Int32} (h : mW Z ws qs (f, A)) (he : Z.1.2.2.2[r]? = some e) : pgA A r e.2.2 := (h.1.1.2.2.2.2.2.2.2.2.2 r e he).2.2.2
set_option maxRecDepth 100000 in
set_option maxHeartbeats 2000000 in
theorem l_plain {G : xG} {d a r i m : Nat} {Z : pZ} {ws qs P : List Int32} {e : Int32 × Int32 × List Int32} {fz mz : Int} (he : Z.1.2.2.2[r]? = some e) (hP : e.2.2 = P) (hr : r < 8) (hfz : fz = 120 * r + i) (hmz : mz = m) (him : i + m ≤ P.length) (hP1 : P.length ≤ 120) (hq : qs.length + m ≤ 480) : ∀ (n k : Nat) (kz : Int) (f : Nat → Int) (A : Nat → List Int32), k + n = m → kz = k → mW Z ws (qs ++ (P.drop i).take k) (f, A) →
    yw G (d + 1) a mX9_writePlain 13 [some (.inr 0), some (.inl fz), some (.inl mz), some (.inl kz)] [] (f, A) (fun w Y' => w = none ∧ mW Z ws (qs ++ (P.drop i).take m) Y') := by
  intro n
  induction n with
  | zero =>
    intro k kz f A hk hkz h
    have : k = m := by omega
    subst this
    refine ygo 99999 90 rfl rfl (by first | exact trivial | (simp only [true_and, yu, ya, reduceIte, Nat.reduceEqDiff, Int32.reduceToInt, Int.toNat_natCast, Int.reduceToNat]; omega) | decide | (simp; done) | (simp; omega)) ?_
    try simp only [List.map_cons, List.map_nil, List.length_cons, List.length_nil, ylr_s, ylr_0, Nat.reduceAdd, Nat.reduceSub, List.cons_append, List.nil_append, List.set_cons_zero, List.set_cons_succ, Option.toList_none, Option.toList_some, Int32.reduceToInt, yu, ya, reduceIte, Nat.reduceEqDiff, Int.toNat_natCast, Int.reduceToNat]
    refine yi_icmpge rfl (by refine ⟨?_, ?_⟩ <;> first | exact yr_t _ | exact yr_b _ | (unfold yr; omega)) (fun c => ?_) (fun c => ?_)
    · refine ygo 99999 90 rfl rfl (by first | exact trivial | (simp only [true_and, yu, ya, reduceIte, Nat.reduceEqDiff, Int32.reduceToInt, Int.toNat_natCast, Int.reduceToNat]; omega) | decide | (simp; done) | (simp; omega)) ?_
      try simp only [List.map_cons, List.map_nil, List.length_cons, List.length_nil, ylr_s, ylr_0, Nat.reduceAdd, Nat.reduceSub, List.cons_append, List.nil_append, List.set_cons_zero, List.set_cons_succ, Option.toList_none, Option.toList_some, Int32.reduceToInt, yu, ya, reduceIte, Nat.reduceEqDiff, Int.toNat_natCast, Int.reduceToNat]
      refine yi_ret_v rfl rfl ⟨rfl, h⟩
    · omega
  | succ n ih =>
    intro k kz f A hk hkz h
    obtain ⟨x, hx⟩ := lt_get (l := P) (j := i + k) (by omega)
    have hg := h.pg he (i + k) x (by rw [hP]; exact hx)
    have i1 : (fz + kz).toNat = 120 * r + (i + k) := by omega
    refine ygo 99999 90 rfl rfl (by first | exact trivial | (simp only [true_and, yu, ya, reduceIte, Nat.reduceEqDiff, Int32.reduceToInt, Int.toNat_natCast, Int.reduceToNat]; omega) | decide | (simp; done) | (simp; omega)) ?_
    try simp only [List.map_cons, List.map_nil, List.length_cons, List.length_nil, ylr_s, ylr_0, Nat.reduceAdd, Nat.reduceSub, List.cons_append, List.nil_append, List.set_cons_zero, List.set_cons_succ, Option.toList_none, Option.toList_some, Int32.reduceToInt, yu, ya, reduceIte, Nat.reduceEqDiff, Int.toNat_natCast, Int.reduceToNat]
    refine yi_icmpge rfl (by refine ⟨?_, ?_⟩ <;> first | exact yr_t _ | exact yr_b _ | (unfold yr; omega)) (fun c => ?_) (fun c => ?_)
    · omega
    refine ygo 99999 90 rfl rfl (by first | exact trivial | (simp only [true_and, yu, ya, reduceIte, Nat.reduceEqDiff, Int32.reduceToInt, Int.toNat_natCast, Int.reduceToNat]; omega) | decide | (simp; done) | (simp; omega)) ?_
    try simp only [List.map_cons, List.map_nil, List.length_cons, List.length_nil, ylr_s, ylr_0, Nat.reduceAdd, Nat.reduceSub, List.cons_append, List.nil_append, List.set_cons_zero, List.set_cons_succ, Option.toList_none, Option.toList_some, Int32.reduceToInt, yu, ya, reduceIte, Nat.reduceEqDiff, Int.toNat_natCast, Int.reduceToNat]
    refine ycV rfl rfl rfl (cm_squeeze (v := x) h (by rw [i1, hg, iof]) (by simp only [List.length_append, List.length_take, List.length_drop]; omega)) rfl kX9_squeeze iX9_squeeze rfl rfl rfl (Nat.le_of_ble_eq_true rfl) (fun v1 Y1 q1 => ?_)
    obtain ⟨rfl, h1⟩ := q1
    obtain ⟨f1, A1⟩ := Y1
    refine ygo 13 90 rfl rfl (by first | exact trivial | (simp only [true_and, yu, ya, reduceIte, Nat.reduceEqDiff, Int32.reduceToInt, Int.toNat_natCast, Int.reduceToNat]; omega) | decide | (simp; done) | (simp; omega)) ?_
    try simp only [List.map_cons, List.map_nil, List.length_cons, List.length_nil, ylr_s, ylr_0, Nat.reduceAdd, Nat.reduceSub, List.cons_append, List.nil_append, List.set_cons_zero, List.set_cons_succ, Option.toList_none, Option.toList_some, Int32.reduceToInt, yu, ya, reduceIte, Nat.reduceEqDiff, Int.toNat_natCast, Int.reduceToNat]
    refine ih (k + 1) _ _ _ (by omega) (by omega) ?_
    have : (P.drop i).take (k + 1) = (P.drop i).take k ++ [x] := by
      rw [List.take_succ, List.getElem?_drop, hx]; rfl
    rw [this, ← List.append_assoc]
    exact h1
set_option maxRecDepth 100000 in
set_option maxHeartbeats 2000000 in
theorem cm_writePlain {G : xG} {d a r i j : Nat} {Z : pZ} {ws qs P : List Int32} {e : Int32 × Int32 × List Int32} {fz mz : Int} {f : Nat → Int} {A : Nat → List Int32} (h : mW Z ws qs (f, A)) (he : Z.1.2.2.2[r]? = some e) (hP : e.2.2 = P) (hr : r < 8) (hfz : fz = 120 * r + i) (hmz : mz = (j : Int) - i) (hij : i ≤ j) (hj : j ≤ P.length) (hP1 : P.length ≤ 120) (hq : qs.length + (j - i) + 1 ≤ 480) : ym G (d + 1) a mX9_writePlain [.inr 0, .inl fz, .inl mz] (f, A) (fun w Y' => w = none ∧ mW Z ws (qs ++ seg P i j) Y') := by
  refine ym_at 4 rfl (by decide) (Nat.le_of_ble_eq_true rfl) tX9_writePlain_ok ?_
  try simp only [List.map_cons, List.map_nil, List.length_cons, List.length_nil, ylr_s, ylr_0, Nat.reduceAdd, Nat.reduceSub, List.cons_append, List.nil_append, List.set_cons_zero, List.set_cons_succ, Option.toList_none, Option.toList_some, Int32.reduceToInt, yu, ya, reduceIte, Nat.reduceEqDiff, Int.toNat_natCast, Int.reduceToNat]
  refine ygo 99999 90 rfl rfl (by first | exact trivial | (simp only [true_and, yu, ya, reduceIte, Nat.reduceEqDiff, Int32.reduceToInt, Int.toNat_natCast, Int.reduceToNat]; omega) | decide | (simp; done) | (simp; omega)) ?_
  try simp only [List.map_cons, List.map_nil, List.length_cons, List.length_nil, ylr_s, ylr_0, Nat.reduceAdd, Nat.reduceSub, List.cons_append, List.nil_append, List.set_cons_zero, List.set_cons_succ, Option.toList_none, Option.toList_some, Int32.reduceToInt, yu, ya, reduceIte, Nat.reduceEqDiff, Int.toNat_natCast, Int.reduceToNat]
  refine yi_ifle rfl (by first | exact yr_t _ | exact yr_b _ | (unfold yr; omega)) (fun c => ?_) (fun c => ?_)
  · refine ygo 13 90 rfl rfl (by first | exact trivial | (simp only [true_and, yu, ya, reduceIte, Nat.reduceEqDiff, Int32.reduceToInt, Int.toNat_natCast, Int.reduceToNat]; omega) | decide | (simp; done) | (simp; omega)) ?_
    try simp only [List.map_cons, List.map_nil, List.length_cons, List.length_nil, ylr_s, ylr_0, Nat.reduceAdd, Nat.reduceSub, List.cons_append, List.nil_append, List.set_cons_zero, List.set_cons_succ, Option.toList_none, Option.toList_some, Int32.reduceToInt, yu, ya, reduceIte, Nat.reduceEqDiff, Int.toNat_natCast, Int.reduceToNat]
    refine (l_plain (qs := qs) (i := i) (m := 0) he hP hr hfz (by omega) (by omega) hP1 (by omega) 0 0 0 f A (by omega) rfl (by simpa using h)).mono (fun w Y' hq => ⟨hq.1, ?_⟩)
    rw [seg_nil (by omega)]
    simpa using hq.2
  · refine ygo 99999 90 rfl rfl (by first | exact trivial | (simp only [true_and, yu, ya, reduceIte, Nat.reduceEqDiff, Int32.reduceToInt, Int.toNat_natCast, Int.reduceToNat]; omega) | decide | (simp; done) | (simp; omega)) ?_
    try simp only [List.map_cons, List.map_nil, List.length_cons, List.length_nil, ylr_s, ylr_0, Nat.reduceAdd, Nat.reduceSub, List.cons_append, List.nil_append, List.set_cons_zero, List.set_cons_succ, Option.toList_none, Option.toList_some, Int32.reduceToInt, yu, ya, reduceIte, Nat.reduceEqDiff, Int.toNat_natCast, Int.reduceToNat]
    refine ycV rfl rfl rfl (cm_squeeze (v := nI (j - i - 1)) h (by rw [show mz - 1 = ((j - i - 1 : Nat) : Int) by omega]; exact iofn _) (by omega)) rfl kX9_squeeze iX9_squeeze rfl rfl rfl (Nat.le_of_ble_eq_true rfl) (fun v1 Y1 q1 => ?_)
    obtain ⟨rfl, h1⟩ := q1
    obtain ⟨f1, A1⟩ := Y1
    refine ygo 13 90 rfl rfl (by first | exact trivial | (simp only [true_and, yu, ya, reduceIte, Nat.reduceEqDiff, Int32.reduceToInt, Int.toNat_natCast, Int.reduceToNat]; omega) | decide | (simp; done) | (simp; omega)) ?_
    try simp only [List.map_cons, List.map_nil, List.length_cons, List.length_nil, ylr_s, ylr_0, Nat.reduceAdd, Nat.reduceSub, List.cons_append, List.nil_append, List.set_cons_zero, List.set_cons_succ, Option.toList_none, Option.toList_some, Int32.reduceToInt, yu, ya, reduceIte, Nat.reduceEqDiff, Int.toNat_natCast, Int.reduceToNat]
    refine (l_plain (qs := qs ++ [nI (j - i - 1)]) (i := i) (m := j - i) he hP hr hfz (by omega) (by omega) hP1 (by simp; omega) (j - i) 0 0 f1 A1 (by omega) rfl (by simpa using h1)).mono (fun w Y' hq => ⟨hq.1, ?_⟩)
    rw [seg_cons (by omega)]
    simpa using hq.2
set_option maxRecDepth 100000 in
set_option maxHeartbeats 2000000 in
theorem l_like {G : xG} {d a r k b : Nat} {Z : pZ} {ws qs P : List Int32} {e : Int32 × Int32 × List Int32} {fz nz kz bz : Int} {f : Nat → Int} {A : Nat → List Int32} (h : mW Z ws qs (f, A)) (he : Z.1.2.2.2[r]? = some e) (hP : e.2.2 = P) (hr : r < 8) (hfz : fz = 120 * r) (hnz : nz = P.length) (hkz : kz = k) (hbz : bz = b) (hk : k ≤ P.length) (hb1 : 1 ≤ b) (hb : b ≤ k) (hP1 : P.length ≤ 120) : ∀ (n j : Nat) (jz : Int), j + n = P.length - k → jz = j → (∀ i, i < j → lkp P k b i = true) →
    yw G d a mX9_likeAhead 3 [some (.inr 0), some (.inl fz), some (.inl nz), some (.inl kz), some (.inl bz), some (.inl jz)] [] (f, A) (fun w Y' => w = some (.inl (lik P k b)) ∧ Y' = (f, A)) := by
  have hpg := h.pg he
  rw [hP] at hpg
  intro n
  induction n with
  | zero =>
    intro j jz hj hjz hall
    refine ygo 99999 90 rfl rfl (by first | exact trivial | (simp only [true_and, yu, ya, reduceIte, Nat.reduceEqDiff, Int32.reduceToInt, Int.toNat_natCast, Int.reduceToNat]; omega) | decide | (simp; done) | (simp; omega)) ?_
    try simp only [List.map_cons, List.map_nil, List.length_cons, List.length_nil, ylr_s, ylr_0, Nat.reduceAdd, Nat.reduceSub, List.cons_append, List.nil_append, List.set_cons_zero, List.set_cons_succ, Option.toList_none, Option.toList_some, Int32.reduceToInt, yu, ya, reduceIte, Nat.reduceEqDiff, Int.toNat_natCast, Int.reduceToNat]
    refine yi_icmpge rfl (by refine ⟨?_, ?_⟩ <;> first | exact yr_t _ | exact yr_b _ | (unfold yr; omega)) (fun c => ?_) (fun c => ?_)
    · refine ygo 99999 90 rfl rfl (by first | exact trivial | (simp only [true_and, yu, ya, reduceIte, Nat.reduceEqDiff, Int32.reduceToInt, Int.toNat_natCast, Int.reduceToNat]; omega) | decide | (simp; done) | (simp; omega)) ?_
      try simp only [List.map_cons, List.map_nil, List.length_cons, List.length_nil, ylr_s, ylr_0, Nat.reduceAdd, Nat.reduceSub, List.cons_append, List.nil_append, List.set_cons_zero, List.set_cons_succ, Option.toList_none, Option.toList_some, Int32.reduceToInt, yu, ya, reduceIte, Nat.reduceEqDiff, Int.toNat_natCast, Int.reduceToNat]
      refine yi_ret_i rfl rfl ⟨by rw [lik_is (n := j) (by omega) hall (Or.inl (by omega)), hjz], rfl⟩
    · omega
  | succ n ih =>
    intro j jz hj hjz hall
    obtain ⟨x, hx⟩ := lt_get (l := P) (j := k + j) (by omega)
    obtain ⟨y, hy⟩ := lt_get (l := P) (j := k + j - b) (by omega)
    have g1 := hpg (k + j) x hx
    have g2 := hpg (k + j - b) y hy
    have i1 : (fz + kz + jz).toNat = 120 * r + (k + j) := by omega
    have i2 : (fz + kz + jz - bz).toNat = 120 * r + (k + j - b) := by omega
    have hlk : lkp P k b j = (x == y) := by unfold lkp; rw [getD_s hx, getD_s hy]
    refine ygo 99999 90 rfl rfl (by first | exact trivial | (simp only [true_and, yu, ya, reduceIte, Nat.reduceEqDiff, Int32.reduceToInt, Int.toNat_natCast, Int.reduceToNat]; omega) | decide | (simp; done) | (simp; omega)) ?_
    try simp only [List.map_cons, List.map_nil, List.length_cons, List.length_nil, ylr_s, ylr_0, Nat.reduceAdd, Nat.reduceSub, List.cons_append, List.nil_append, List.set_cons_zero, List.set_cons_succ, Option.toList_none, Option.toList_some, Int32.reduceToInt, yu, ya, reduceIte, Nat.reduceEqDiff, Int.toNat_natCast, Int.reduceToNat]
    refine yi_icmpge rfl (by refine ⟨?_, ?_⟩ <;> first | exact yr_t _ | exact yr_b _ | (unfold yr; omega)) (fun c => ?_) (fun c => ?_)
    · omega
    refine ygo 99999 90 rfl rfl (by first | exact trivial | (simp only [true_and, yu, ya, reduceIte, Nat.reduceEqDiff, Int32.reduceToInt, Int.toNat_natCast, Int.reduceToNat]; omega) | decide | (simp; done) | (simp; omega)) ?_
    try simp only [List.map_cons, List.map_nil, List.length_cons, List.length_nil, ylr_s, ylr_0, Nat.reduceAdd, Nat.reduceSub, List.cons_append, List.nil_append, List.set_cons_zero, List.set_cons_succ, Option.toList_none, Option.toList_some, Int32.reduceToInt, yu, ya, reduceIte, Nat.reduceEqDiff, Int.toNat_natCast, Int.reduceToNat]
    refine yi_icmpge rfl (by refine ⟨?_, ?_⟩ <;> first | exact yr_t _ | exact yr_b _ | (unfold yr; omega)) (fun c1 => ?_) (fun c1 => ?_)
    · omega
    refine ygo 99999 90 rfl rfl (by first | exact trivial | (simp only [true_and, yu, ya, reduceIte, Nat.reduceEqDiff, Int32.reduceToInt, Int.toNat_natCast, Int.reduceToNat]; omega) | decide | (simp; done) | (simp; omega)) ?_
    try simp only [List.map_cons, List.map_nil, List.length_cons, List.length_nil, ylr_s, ylr_0, Nat.reduceAdd, Nat.reduceSub, List.cons_append, List.nil_append, List.set_cons_zero, List.set_cons_succ, Option.toList_none, Option.toList_some, Int32.reduceToInt, yu, ya, reduceIte, Nat.reduceEqDiff, Int.toNat_natCast, Int.reduceToNat]
    refine yi_icmpne rfl (by refine ⟨?_, ?_⟩ <;> first | exact yr_t _ | exact yr_b _ | (unfold yr; omega)) (fun c2 => ?_) (fun c2 => ?_)
    · rw [i1, i2, g1, g2, ti] at c2
      refine ygo 99999 90 rfl rfl (by first | exact trivial | (simp only [true_and, yu, ya, reduceIte, Nat.reduceEqDiff, Int32.reduceToInt, Int.toNat_natCast, Int.reduceToNat]; omega) | decide | (simp; done) | (simp; omega)) ?_
      try simp only [List.map_cons, List.map_nil, List.length_cons, List.length_nil, ylr_s, ylr_0, Nat.reduceAdd, Nat.reduceSub, List.cons_append, List.nil_append, List.set_cons_zero, List.set_cons_succ, Option.toList_none, Option.toList_some, Int32.reduceToInt, yu, ya, reduceIte, Nat.reduceEqDiff, Int.toNat_natCast, Int.reduceToNat]
      refine yi_ret_i rfl rfl ⟨by rw [lik_is (n := j) (by omega) hall (Or.inr (by rw [hlk]; exact beq_eq_false_iff_ne.mpr c2)), hjz], rfl⟩
    · rw [i1, i2, g1, g2, ti] at c2
      refine ygo 3 90 rfl rfl (by first | exact trivial | (simp only [true_and, yu, ya, reduceIte, Nat.reduceEqDiff, Int32.reduceToInt, Int.toNat_natCast, Int.reduceToNat]; omega) | decide | (simp; done) | (simp; omega)) ?_
      try simp only [List.map_cons, List.map_nil, List.length_cons, List.length_nil, ylr_s, ylr_0, Nat.reduceAdd, Nat.reduceSub, List.cons_append, List.nil_append, List.set_cons_zero, List.set_cons_succ, Option.toList_none, Option.toList_some, Int32.reduceToInt, yu, ya, reduceIte, Nat.reduceEqDiff, Int.toNat_natCast, Int.reduceToNat]
      refine ih (j + 1) _ (by omega) (by omega) (fun i hi => ?_)
      by_cases e : i = j
      · subst e; rw [hlk, c2]; simp
      · exact hall i (by omega)
set_option maxRecDepth 100000 in
set_option maxHeartbeats 2000000 in
theorem cm_like {G : xG} {d a r k b : Nat} {Z : pZ} {ws qs P : List Int32} {e : Int32 × Int32 × List Int32} {fz nz kz bz : Int} {f : Nat → Int} {A : Nat → List Int32} (h : mW Z ws qs (f, A)) (he : Z.1.2.2.2[r]? = some e) (hP : e.2.2 = P) (hr : r < 8) (hfz : fz = 120 * r) (hnz : nz = P.length) (hkz : kz = k) (hbz : bz = b) (hk : k ≤ P.length) (hb1 : 1 ≤ b) (hb : b ≤ k) (hP1 : P.length ≤ 120) : ym G d a mX9_likeAhead [.inr 0, .inl fz, .inl nz, .inl kz, .inl bz] (f, A) (fun w Y' => w = some (.inl (lik P k b)) ∧ Y' = (f, A)) := by
  refine ym_at 6 rfl (by decide) (Nat.le_of_ble_eq_true rfl) tX9_likeAhead_ok ?_
  try simp only [List.map_cons, List.map_nil, List.length_cons, List.length_nil, ylr_s, ylr_0, Nat.reduceAdd, Nat.reduceSub, List.cons_append, List.nil_append, List.set_cons_zero, List.set_cons_succ, Option.toList_none, Option.toList_some, Int32.reduceToInt, yu, ya, reduceIte, Nat.reduceEqDiff, Int.toNat_natCast, Int.reduceToNat]
  refine ygo 3 90 rfl rfl (by first | exact trivial | (simp only [true_and, yu, ya, reduceIte, Nat.reduceEqDiff, Int32.reduceToInt, Int.toNat_natCast, Int.reduceToNat]; omega) | decide | (simp; done) | (simp; omega)) ?_
  try simp only [List.map_cons, List.map_nil, List.length_cons, List.length_nil, ylr_s, ylr_0, Nat.reduceAdd, Nat.reduceSub, List.cons_append, List.nil_append, List.set_cons_zero, List.set_cons_succ, Option.toList_none, Option.toList_some, Int32.reduceToInt, yu, ya, reduceIte, Nat.reduceEqDiff, Int.toNat_natCast, Int.reduceToNat]
  exact l_like h he hP hr hfz hnz hkz hbz hk hb1 hb hP1 (P.length - k) 0 0 (by omega) rfl (fun i hi => absurd hi (by omega))
set_option maxRecDepth 100000 in
set_option maxHeartbeats 2000000 in
theorem l_best {G : xG} {d a r k : Nat} {Z : pZ} {ws qs P : List Int32} {e : Int32 × Int32 × List Int32} {fz nz kz : Int} {f : Nat → Int} {A : Nat → List Int32} (h : mW Z ws qs (f, A)) (he : Z.1.2.2.2[r]? = some e) (hP : e.2.2 = P) (hr : r < 8) (hfz : fz = 120 * r) (hnz : nz = P.length) (hkz : kz = k) (hk : k ≤ P.length) (hP1 : P.length ≤ 120) : ∀ (n b : Nat) (bez mz bz : Int) (x7 : Option yv), b + n = k → bz = (b : Int) + 1 → bez = (bst P k b).2 → mz = (bst P k b).1 →
    yw G (d + 1) a mX9_bestBack 9 [some (.inr 0), some (.inl fz), some (.inl nz), some (.inl kz), some (.inl bez), some (.inl mz), some (.inl bz), x7] [] (f, A) (fun w Y' => w = some (.inl (if (bst P k k).1 < 3 then 0 else (bst P k k).2)) ∧ Y' = (f, A)) := by
  intro n
  induction n with
  | zero =>
    intro b bez mz bz x7 hb hbz hbe hm
    have hbk : b = k := by omega
    subst hbk
    have hle := bst_le P b b
    refine ygo 99999 90 rfl rfl (by first | exact trivial | (simp only [true_and, yu, ya, reduceIte, Nat.reduceEqDiff, Int32.reduceToInt, Int.toNat_natCast, Int.reduceToNat]; omega) | decide | (simp; done) | (simp; omega)) ?_
    try simp only [List.map_cons, List.map_nil, List.length_cons, List.length_nil, ylr_s, ylr_0, Nat.reduceAdd, Nat.reduceSub, List.cons_append, List.nil_append, List.set_cons_zero, List.set_cons_succ, Option.toList_none, Option.toList_some, Int32.reduceToInt, yu, ya, reduceIte, Nat.reduceEqDiff, Int.toNat_natCast, Int.reduceToNat]
    refine yi_icmpgt rfl (by refine ⟨?_, ?_⟩ <;> first | exact yr_t _ | exact yr_b _ | (unfold yr; omega)) (fun c => ?_) (fun c => ?_)
    · refine ygo 99999 90 rfl rfl (by first | exact trivial | (simp only [true_and, yu, ya, reduceIte, Nat.reduceEqDiff, Int32.reduceToInt, Int.toNat_natCast, Int.reduceToNat]; omega) | decide | (simp; done) | (simp; omega)) ?_
      try simp only [List.map_cons, List.map_nil, List.length_cons, List.length_nil, ylr_s, ylr_0, Nat.reduceAdd, Nat.reduceSub, List.cons_append, List.nil_append, List.set_cons_zero, List.set_cons_succ, Option.toList_none, Option.toList_some, Int32.reduceToInt, yu, ya, reduceIte, Nat.reduceEqDiff, Int.toNat_natCast, Int.reduceToNat]
      refine yi_icmpge rfl (by refine ⟨?_, ?_⟩ <;> first | exact yr_t _ | exact yr_b _ | (unfold yr; omega)) (fun c1 => ?_) (fun c1 => ?_)
      · refine ygo 99999 90 rfl rfl (by first | exact trivial | (simp only [true_and, yu, ya, reduceIte, Nat.reduceEqDiff, Int32.reduceToInt, Int.toNat_natCast, Int.reduceToNat]; omega) | decide | (simp; done) | (simp; omega)) ?_
        try simp only [List.map_cons, List.map_nil, List.length_cons, List.length_nil, ylr_s, ylr_0, Nat.reduceAdd, Nat.reduceSub, List.cons_append, List.nil_append, List.set_cons_zero, List.set_cons_succ, Option.toList_none, Option.toList_some, Int32.reduceToInt, yu, ya, reduceIte, Nat.reduceEqDiff, Int.toNat_natCast, Int.reduceToNat]
        refine yi_ret_i rfl rfl ⟨by rw [if_neg (by omega), hbe], rfl⟩
      · refine ygo 99999 90 rfl rfl (by first | exact trivial | (simp only [true_and, yu, ya, reduceIte, Nat.reduceEqDiff, Int32.reduceToInt, Int.toNat_natCast, Int.reduceToNat]; omega) | decide | (simp; done) | (simp; omega)) ?_
        try simp only [List.map_cons, List.map_nil, List.length_cons, List.length_nil, ylr_s, ylr_0, Nat.reduceAdd, Nat.reduceSub, List.cons_append, List.nil_append, List.set_cons_zero, List.set_cons_succ, Option.toList_none, Option.toList_some, Int32.reduceToInt, yu, ya, reduceIte, Nat.reduceEqDiff, Int.toNat_natCast, Int.reduceToNat]
        refine yi_ret_i rfl rfl ⟨by rw [if_pos (by omega)], rfl⟩
    · omega
  | succ n ih =>
    intro b bez mz bz x7 hb hbz hbe hm
    have hle := bst_le P k b
    have hll := lik_le P k (b + 1)
    have hst : bst P k (b + 1) = if (bst P k b).1 < lik P k (b + 1) then (lik P k (b + 1), b + 1) else bst P k b := rfl
    refine ygo 99999 90 rfl rfl (by first | exact trivial | (simp only [true_and, yu, ya, reduceIte, Nat.reduceEqDiff, Int32.reduceToInt, Int.toNat_natCast, Int.reduceToNat]; omega) | decide | (simp; done) | (simp; omega)) ?_
    try simp only [List.map_cons, List.map_nil, List.length_cons, List.length_nil, ylr_s, ylr_0, Nat.reduceAdd, Nat.reduceSub, List.cons_append, List.nil_append, List.set_cons_zero, List.set_cons_succ, Option.toList_none, Option.toList_some, Int32.reduceToInt, yu, ya, reduceIte, Nat.reduceEqDiff, Int.toNat_natCast, Int.reduceToNat]
    refine yi_icmpgt rfl (by refine ⟨?_, ?_⟩ <;> first | exact yr_t _ | exact yr_b _ | (unfold yr; omega)) (fun c => ?_) (fun c => ?_)
    · omega
    refine ygo 99999 90 rfl rfl (by first | exact trivial | (simp only [true_and, yu, ya, reduceIte, Nat.reduceEqDiff, Int32.reduceToInt, Int.toNat_natCast, Int.reduceToNat]; omega) | decide | (simp; done) | (simp; omega)) ?_
    try simp only [List.map_cons, List.map_nil, List.length_cons, List.length_nil, ylr_s, ylr_0, Nat.reduceAdd, Nat.reduceSub, List.cons_append, List.nil_append, List.set_cons_zero, List.set_cons_succ, Option.toList_none, Option.toList_some, Int32.reduceToInt, yu, ya, reduceIte, Nat.reduceEqDiff, Int.toNat_natCast, Int.reduceToNat]
    refine yi_icmpgt rfl (by refine ⟨?_, ?_⟩ <;> first | exact yr_t _ | exact yr_b _ | (unfold yr; omega)) (fun c1 => ?_) (fun c1 => ?_)
    · omega
    refine ygo 99999 90 rfl rfl (by first | exact trivial | (simp only [true_and, yu, ya, reduceIte, Nat.reduceEqDiff, Int32.reduceToInt, Int.toNat_natCast, Int.reduceToNat]; omega) | decide | (simp; done) | (simp; omega)) ?_
    try simp only [List.map_cons, List.map_nil, List.length_cons, List.length_nil, ylr_s, ylr_0, Nat.reduceAdd, Nat.reduceSub, List.cons_append, List.nil_append, List.set_cons_zero, List.set_cons_succ, Option.toList_none, Option.toList_some, Int32.reduceToInt, yu, ya, reduceIte, Nat.reduceEqDiff, Int.toNat_natCast, Int.reduceToNat]
    refine ycV rfl rfl rfl (cm_like (b := b + 1) h he hP hr hfz hnz hkz (by omega) hk (by omega) (by omega) hP1) rfl kX9_likeAhead iX9_likeAhead rfl rfl rfl (Nat.le_of_ble_eq_true rfl) (fun v1 Y1 q1 => ?_)
    obtain ⟨rfl, rfl⟩ := q1
    refine ygo 99999 90 rfl rfl (by first | exact trivial | (simp only [true_and, yu, ya, reduceIte, Nat.reduceEqDiff, Int32.reduceToInt, Int.toNat_natCast, Int.reduceToNat]; omega) | decide | (simp; done) | (simp; omega)) ?_
    try simp only [List.map_cons, List.map_nil, List.length_cons, List.length_nil, ylr_s, ylr_0, Nat.reduceAdd, Nat.reduceSub, List.cons_append, List.nil_append, List.set_cons_zero, List.set_cons_succ, Option.toList_none, Option.toList_some, Int32.reduceToInt, yu, ya, reduceIte, Nat.reduceEqDiff, Int.toNat_natCast, Int.reduceToNat]
    refine yi_icmple rfl (by refine ⟨?_, ?_⟩ <;> first | exact yr_t _ | exact yr_b _ | (unfold yr; omega)) (fun c2 => ?_) (fun c2 => ?_)
    · rw [if_neg (by omega)] at hst
      refine ygo 9 90 rfl rfl (by first | exact trivial | (simp only [true_and, yu, ya, reduceIte, Nat.reduceEqDiff, Int32.reduceToInt, Int.toNat_natCast, Int.reduceToNat]; omega) | decide | (simp; done) | (simp; omega)) ?_
      try simp only [List.map_cons, List.map_nil, List.length_cons, List.length_nil, ylr_s, ylr_0, Nat.reduceAdd, Nat.reduceSub, List.cons_append, List.nil_append, List.set_cons_zero, List.set_cons_succ, Option.toList_none, Option.toList_some, Int32.reduceToInt, yu, ya, reduceIte, Nat.reduceEqDiff, Int.toNat_natCast, Int.reduceToNat]
      exact ih (b + 1) _ _ _ _ (by omega) (by omega) (by rw [hst]; exact hbe) (by rw [hst]; exact hm)
    · rw [if_pos (by omega)] at hst
      refine ygo 9 90 rfl rfl (by first | exact trivial | (simp only [true_and, yu, ya, reduceIte, Nat.reduceEqDiff, Int32.reduceToInt, Int.toNat_natCast, Int.reduceToNat]; omega) | decide | (simp; done) | (simp; omega)) ?_
      try simp only [List.map_cons, List.map_nil, List.length_cons, List.length_nil, ylr_s, ylr_0, Nat.reduceAdd, Nat.reduceSub, List.cons_append, List.nil_append, List.set_cons_zero, List.set_cons_succ, Option.toList_none, Option.toList_some, Int32.reduceToInt, yu, ya, reduceIte, Nat.reduceEqDiff, Int.toNat_natCast, Int.reduceToNat]
      exact ih (b + 1) _ _ _ _ (by omega) (by omega) (by rw [hst]; omega) (by rw [hst])
set_option maxRecDepth 100000 in
set_option maxHeartbeats 2000000 in
theorem cm_best {G : xG} {d a r k : Nat} {Z : pZ} {ws qs P : List Int32} {e : Int32 × Int32 × List Int32} {fz nz kz : Int} {f : Nat → Int} {A : Nat → List Int32} (h : mW Z ws qs (f, A)) (he : Z.1.2.2.2[r]? = some e) (hP : e.2.2 = P) (hr : r < 8) (hfz : fz = 120 * r) (hnz : nz = P.length) (hkz : kz = k) (hk : k ≤ P.length) (hP1 : P.length ≤ 120) : ym G (d + 1) a mX9_bestBack [.inr 0, .inl fz, .inl nz, .inl kz] (f, A) (fun w Y' => w = some (.inl (if (bst P k k).1 < 3 then 0 else (bst P k k).2)) ∧ Y' = (f, A)) := by
  refine ym_at 8 rfl (by decide) (Nat.le_of_ble_eq_true rfl) tX9_bestBack_ok ?_
  try simp only [List.map_cons, List.map_nil, List.length_cons, List.length_nil, ylr_s, ylr_0, Nat.reduceAdd, Nat.reduceSub, List.cons_append, List.nil_append, List.set_cons_zero, List.set_cons_succ, Option.toList_none, Option.toList_some, Int32.reduceToInt, yu, ya, reduceIte, Nat.reduceEqDiff, Int.toNat_natCast, Int.reduceToNat]
  refine ygo 9 90 rfl rfl (by first | exact trivial | (simp only [true_and, yu, ya, reduceIte, Nat.reduceEqDiff, Int32.reduceToInt, Int.toNat_natCast, Int.reduceToNat]; omega) | decide | (simp; done) | (simp; omega)) ?_
  try simp only [List.map_cons, List.map_nil, List.length_cons, List.length_nil, ylr_s, ylr_0, Nat.reduceAdd, Nat.reduceSub, List.cons_append, List.nil_append, List.set_cons_zero, List.set_cons_succ, Option.toList_none, Option.toList_some, Int32.reduceToInt, yu, ya, reduceIte, Nat.reduceEqDiff, Int.toNat_natCast, Int.reduceToNat]
  exact l_best h he hP hr hfz hnz hkz hk hP1 k 0 0 0 1 none (by omega) rfl rfl rfl
theorem bst_pos {P : List Int32} {k : Nat} : ∀ b, 0 < (bst P k b).1 → 1 ≤ (bst P k b).2 ∧ (bst P k b).1 = lik P k (bst P k b).2
  | 0, h => by simp [bst] at h
  | b + 1, h => by
    have hst : bst P k (b + 1) = if (bst P k b).1 < lik P k (b + 1) then (lik P k (b + 1), b + 1) else bst P k b := rfl
    by_cases hc : (bst P k b).1 < lik P k (b + 1)
    · rw [if_pos hc] at hst
      rw [hst]
      exact ⟨by omega, rfl⟩
    · rw [if_neg hc] at hst
      rw [hst] at h ⊢
      exact bst_pos b h
set_option maxRecDepth 100000 in
set_option maxHeartbeats 2000000 in
theorem l_ops {G : xG} {d a r : Nat} {Z : pZ} {ws P F : List Int32} {e : Int32 × Int32 × List Int32} {fz nz : Int} (he : Z.1.2.2.2[r]? = some e) (hP : e.2.2 = P) (hr : r < 8) (hfz : fz = 120 * r) (hnz : nz = P.length) (hP1 : P.length ≤ 120) : ∀ (n k pf : Nat) (kz pz : Int) (qs : List Int32) (x5 x6 : Option yv) (f : Nat → Int) (A : Nat → List Int32), P.length - k ≤ n → pf ≤ k → k ≤ P.length → kz = k → pz = (k : Int) - pf → qs ++ opz P n k pf = F → qs.length + (P.length - pf) + 1 ≤ 480 → mW Z ws qs (f, A) →
    yw G (d + 3) a mX9_writeOps 5 [some (.inr 0), some (.inl fz), some (.inl nz), some (.inl kz), some (.inl pz), x5, x6] [] (f, A) (fun w Y' => w = none ∧ mW Z ws F Y') := by
  have fin : ∀ (k pf : Nat) (kz pz : Int) (qs : List Int32) (x5 x6 : Option yv) (f : Nat → Int) (A : Nat → List Int32), k = P.length → pf ≤ k → kz = k → pz = (k : Int) - pf → qs ++ seg P pf P.length = F → qs.length + (P.length - pf) + 1 ≤ 480 → mW Z ws qs (f, A) → yw G (d + 3) a mX9_writeOps 5 [some (.inr 0), some (.inl fz), some (.inl nz), some (.inl kz), some (.inl pz), x5, x6] [] (f, A) (fun w Y' => w = none ∧ mW Z ws F Y') := by
    intro k pf kz pz qs x5 x6 f A hk hpf hkz hpz hF hq h
    refine ygo 99999 90 rfl rfl (by first | exact trivial | (simp only [true_and, yu, ya, reduceIte, Nat.reduceEqDiff, Int32.reduceToInt, Int.toNat_natCast, Int.reduceToNat]; omega) | decide | (simp; done) | (simp; omega)) ?_
    try simp only [List.map_cons, List.map_nil, List.length_cons, List.length_nil, ylr_s, ylr_0, Nat.reduceAdd, Nat.reduceSub, List.cons_append, List.nil_append, List.set_cons_zero, List.set_cons_succ, Option.toList_none, Option.toList_some, Int32.reduceToInt, yu, ya, reduceIte, Nat.reduceEqDiff, Int.toNat_natCast, Int.reduceToNat]
    refine yi_icmpge rfl (by refine ⟨?_, ?_⟩ <;> first | exact yr_t _ | exact yr_b _ | (unfold yr; omega)) (fun c => ?_) (fun c => ?_)
    · refine ygo 99999 90 rfl rfl (by first | exact trivial | (simp only [true_and, yu, ya, reduceIte, Nat.reduceEqDiff, Int32.reduceToInt, Int.toNat_natCast, Int.reduceToNat]; omega) | decide | (simp; done) | (simp; omega)) ?_
      try simp only [List.map_cons, List.map_nil, List.length_cons, List.length_nil, ylr_s, ylr_0, Nat.reduceAdd, Nat.reduceSub, List.cons_append, List.nil_append, List.set_cons_zero, List.set_cons_succ, Option.toList_none, Option.toList_some, Int32.reduceToInt, yu, ya, reduceIte, Nat.reduceEqDiff, Int.toNat_natCast, Int.reduceToNat]
      refine ycV rfl rfl rfl (cm_writePlain (i := pf) (j := P.length) h he hP hr (by omega) (by omega) (by omega) (Nat.le_refl _) hP1 (by omega)) rfl kX9_writePlain iX9_writePlain rfl rfl rfl (Nat.le_of_ble_eq_true rfl) (fun v1 Y1 q1 => ?_)
      obtain ⟨rfl, h1⟩ := q1
      obtain ⟨f1, A1⟩ := Y1
      rw [hF] at h1
      refine ygo 99999 90 rfl rfl (by first | exact trivial | (simp only [true_and, yu, ya, reduceIte, Nat.reduceEqDiff, Int32.reduceToInt, Int.toNat_natCast, Int.reduceToNat]; omega) | decide | (simp; done) | (simp; omega)) ?_
      try simp only [List.map_cons, List.map_nil, List.length_cons, List.length_nil, ylr_s, ylr_0, Nat.reduceAdd, Nat.reduceSub, List.cons_append, List.nil_append, List.set_cons_zero, List.set_cons_succ, Option.toList_none, Option.toList_some, Int32.reduceToInt, yu, ya, reduceIte, Nat.reduceEqDiff, Int.toNat_natCast, Int.reduceToNat]
      refine yi_ret_v rfl rfl ⟨rfl, h1⟩
    · omega
  intro n
  induction n with
  | zero =>
    intro k pf kz pz qs x5 x6 f A hn hpf hk hkz hpz hF hq h
    exact fin k pf kz pz qs x5 x6 f A (by omega) hpf hkz hpz hF hq h
  | succ n ih =>
    intro k pf kz pz qs x5 x6 f A hn hpf hk hkz hpz hF hq h
    by_cases hkl : k < P.length
    · have hop : opz P (n + 1) k pf = if k < P.length then (if (bst P k k).1 < 3 then opz P n (k + 1) pf else seg P pf k ++ nI ((bst P k k).1 + 125) :: nI (bst P k k).2 :: opz P n (k + (bst P k k).1) (k + (bst P k k).1)) else seg P pf P.length := rfl
      rw [hop, if_pos hkl] at hF
      have hbl := bst_le P k k
      refine ygo 99999 90 rfl rfl (by first | exact trivial | (simp only [true_and, yu, ya, reduceIte, Nat.reduceEqDiff, Int32.reduceToInt, Int.toNat_natCast, Int.reduceToNat]; omega) | decide | (simp; done) | (simp; omega)) ?_
      try simp only [List.map_cons, List.map_nil, List.length_cons, List.length_nil, ylr_s, ylr_0, Nat.reduceAdd, Nat.reduceSub, List.cons_append, List.nil_append, List.set_cons_zero, List.set_cons_succ, Option.toList_none, Option.toList_some, Int32.reduceToInt, yu, ya, reduceIte, Nat.reduceEqDiff, Int.toNat_natCast, Int.reduceToNat]
      refine yi_icmpge rfl (by refine ⟨?_, ?_⟩ <;> first | exact yr_t _ | exact yr_b _ | (unfold yr; omega)) (fun c => ?_) (fun c => ?_)
      · omega
      refine ygo 99999 90 rfl rfl (by first | exact trivial | (simp only [true_and, yu, ya, reduceIte, Nat.reduceEqDiff, Int32.reduceToInt, Int.toNat_natCast, Int.reduceToNat]; omega) | decide | (simp; done) | (simp; omega)) ?_
      try simp only [List.map_cons, List.map_nil, List.length_cons, List.length_nil, ylr_s, ylr_0, Nat.reduceAdd, Nat.reduceSub, List.cons_append, List.nil_append, List.set_cons_zero, List.set_cons_succ, Option.toList_none, Option.toList_some, Int32.reduceToInt, yu, ya, reduceIte, Nat.reduceEqDiff, Int.toNat_natCast, Int.reduceToNat]
      refine ycV rfl rfl rfl (cm_best h he hP hr hfz hnz hkz hk hP1) rfl kX9_bestBack iX9_bestBack rfl rfl rfl (Nat.le_of_ble_eq_true rfl) (fun v1 Y1 q1 => ?_)
      obtain ⟨rfl, rfl⟩ := q1
      by_cases h3 : (bst P k k).1 < 3
      · rw [if_pos h3] at hF
        rw [if_pos h3]
        refine ygo 99999 90 rfl rfl (by first | exact trivial | (simp only [true_and, yu, ya, reduceIte, Nat.reduceEqDiff, Int32.reduceToInt, Int.toNat_natCast, Int.reduceToNat]; omega) | decide | (simp; done) | (simp; omega)) ?_
        try simp only [List.map_cons, List.map_nil, List.length_cons, List.length_nil, ylr_s, ylr_0, Nat.reduceAdd, Nat.reduceSub, List.cons_append, List.nil_append, List.set_cons_zero, List.set_cons_succ, Option.toList_none, Option.toList_some, Int32.reduceToInt, yu, ya, reduceIte, Nat.reduceEqDiff, Int.toNat_natCast, Int.reduceToNat]
        refine yi_ifgt rfl (by first | exact yr_t _ | exact yr_b _ | (unfold yr; omega)) (fun c1 => ?_) (fun c1 => ?_)
        · omega
        refine ygo 99999 90 rfl rfl (by first | exact trivial | (simp only [true_and, yu, ya, reduceIte, Nat.reduceEqDiff, Int32.reduceToInt, Int.toNat_natCast, Int.reduceToNat]; omega) | decide | (simp; done) | (simp; omega)) ?_
        try simp only [List.map_cons, List.map_nil, List.length_cons, List.length_nil, ylr_s, ylr_0, Nat.reduceAdd, Nat.reduceSub, List.cons_append, List.nil_append, List.set_cons_zero, List.set_cons_succ, Option.toList_none, Option.toList_some, Int32.reduceToInt, yu, ya, reduceIte, Nat.reduceEqDiff, Int.toNat_natCast, Int.reduceToNat]
        refine yi_icmpne rfl (by refine ⟨?_, ?_⟩ <;> first | exact yr_t _ | exact yr_b _ | (unfold yr; omega)) (fun c2 => ?_) (fun c2 => ?_)
        · refine ygo 99999 90 rfl rfl (by first | exact trivial | (simp only [true_and, yu, ya, reduceIte, Nat.reduceEqDiff, Int32.reduceToInt, Int.toNat_natCast, Int.reduceToNat]; omega) | decide | (simp; done) | (simp; omega)) ?_
          try simp only [List.map_cons, List.map_nil, List.length_cons, List.length_nil, ylr_s, ylr_0, Nat.reduceAdd, Nat.reduceSub, List.cons_append, List.nil_append, List.set_cons_zero, List.set_cons_succ, Option.toList_none, Option.toList_some, Int32.reduceToInt, yu, ya, reduceIte, Nat.reduceEqDiff, Int.toNat_natCast, Int.reduceToNat]
          refine yi_ifle rfl (by first | exact yr_t _ | exact yr_b _ | (unfold yr; omega)) (fun c3 => ?_) (fun c3 => ?_)
          · refine ygo 5 90 rfl rfl (by first | exact trivial | (simp only [true_and, yu, ya, reduceIte, Nat.reduceEqDiff, Int32.reduceToInt, Int.toNat_natCast, Int.reduceToNat]; omega) | decide | (simp; done) | (simp; omega)) ?_
            try simp only [List.map_cons, List.map_nil, List.length_cons, List.length_nil, ylr_s, ylr_0, Nat.reduceAdd, Nat.reduceSub, List.cons_append, List.nil_append, List.set_cons_zero, List.set_cons_succ, Option.toList_none, Option.toList_some, Int32.reduceToInt, yu, ya, reduceIte, Nat.reduceEqDiff, Int.toNat_natCast, Int.reduceToNat]
            exact ih (k + 1) pf _ _ qs _ _ f A (by omega) (by omega) (by omega) (by omega) (by omega) hF hq h
          · omega
        · omega
      · rw [if_neg h3] at hF
        rw [if_neg h3]
        have hbp := bst_pos (P := P) (k := k) k (by omega)
        refine ygo 99999 90 rfl rfl (by first | exact trivial | (simp only [true_and, yu, ya, reduceIte, Nat.reduceEqDiff, Int32.reduceToInt, Int.toNat_natCast, Int.reduceToNat]; omega) | decide | (simp; done) | (simp; omega)) ?_
        try simp only [List.map_cons, List.map_nil, List.length_cons, List.length_nil, ylr_s, ylr_0, Nat.reduceAdd, Nat.reduceSub, List.cons_append, List.nil_append, List.set_cons_zero, List.set_cons_succ, Option.toList_none, Option.toList_some, Int32.reduceToInt, yu, ya, reduceIte, Nat.reduceEqDiff, Int.toNat_natCast, Int.reduceToNat]
        refine yi_ifgt rfl (by first | exact yr_t _ | exact yr_b _ | (unfold yr; omega)) (fun c1 => ?_) (fun c1 => ?_)
        · refine ygo 99999 90 rfl rfl (by first | exact trivial | (simp only [true_and, yu, ya, reduceIte, Nat.reduceEqDiff, Int32.reduceToInt, Int.toNat_natCast, Int.reduceToNat]; omega) | decide | (simp; done) | (simp; omega)) ?_
          try simp only [List.map_cons, List.map_nil, List.length_cons, List.length_nil, ylr_s, ylr_0, Nat.reduceAdd, Nat.reduceSub, List.cons_append, List.nil_append, List.set_cons_zero, List.set_cons_succ, Option.toList_none, Option.toList_some, Int32.reduceToInt, yu, ya, reduceIte, Nat.reduceEqDiff, Int.toNat_natCast, Int.reduceToNat]
          refine ycV rfl rfl rfl (cm_writePlain (i := pf) (j := k) h he hP hr (by omega) (by omega) hpf hk hP1 (by omega)) rfl kX9_writePlain iX9_writePlain rfl rfl rfl (Nat.le_of_ble_eq_true rfl) (fun v2 Y2 q2 => ?_)
          obtain ⟨rfl, h1⟩ := q2
          obtain ⟨f1, A1⟩ := Y2
          have hsl := seg_len (P := P) (i := pf) (j := k) hk
          refine ygo 99999 90 rfl rfl (by first | exact trivial | (simp only [true_and, yu, ya, reduceIte, Nat.reduceEqDiff, Int32.reduceToInt, Int.toNat_natCast, Int.reduceToNat]; omega) | decide | (simp; done) | (simp; omega)) ?_
          try simp only [List.map_cons, List.map_nil, List.length_cons, List.length_nil, ylr_s, ylr_0, Nat.reduceAdd, Nat.reduceSub, List.cons_append, List.nil_append, List.set_cons_zero, List.set_cons_succ, Option.toList_none, Option.toList_some, Int32.reduceToInt, yu, ya, reduceIte, Nat.reduceEqDiff, Int.toNat_natCast, Int.reduceToNat]
          refine yi_ifle rfl (by first | exact yr_t _ | exact yr_b _ | (unfold yr; omega)) (fun c3 => ?_) (fun c3 => ?_)
          · omega
          refine ygo 99999 90 rfl rfl (by first | exact trivial | (simp only [true_and, yu, ya, reduceIte, Nat.reduceEqDiff, Int32.reduceToInt, Int.toNat_natCast, Int.reduceToNat]; omega) | decide | (simp; done) | (simp; omega)) ?_
          try simp only [List.map_cons, List.map_nil, List.length_cons, List.length_nil, ylr_s, ylr_0, Nat.reduceAdd, Nat.reduceSub, List.cons_append, List.nil_append, List.set_cons_zero, List.set_cons_succ, Option.toList_none, Option.toList_some, Int32.reduceToInt, yu, ya, reduceIte, Nat.reduceEqDiff, Int.toNat_natCast, Int.reduceToNat]
          refine ycV rfl rfl rfl (cm_like (b := (bst P k k).2) h1 he hP hr hfz hnz hkz rfl hk hbp.1 hbl.2 hP1) rfl kX9_likeAhead iX9_likeAhead rfl rfl rfl (Nat.le_of_ble_eq_true rfl) (fun v3 Y3 q3 => ?_)
          obtain ⟨rfl, rfl⟩ := q3
          rw [← hbp.2]
          refine ygo 99999 90 rfl rfl (by first | exact trivial | (simp only [true_and, yu, ya, reduceIte, Nat.reduceEqDiff, Int32.reduceToInt, Int.toNat_natCast, Int.reduceToNat]; omega) | decide | (simp; done) | (simp; omega)) ?_
          try simp only [List.map_cons, List.map_nil, List.length_cons, List.length_nil, ylr_s, ylr_0, Nat.reduceAdd, Nat.reduceSub, List.cons_append, List.nil_append, List.set_cons_zero, List.set_cons_succ, Option.toList_none, Option.toList_some, Int32.reduceToInt, yu, ya, reduceIte, Nat.reduceEqDiff, Int.toNat_natCast, Int.reduceToNat]
          refine ycV rfl rfl rfl (cm_squeeze (v := nI ((bst P k k).1 + 125)) h1 (by exact iofn ((bst P k k).1 + 125)) (by simp only [List.length_append]; omega)) rfl kX9_squeeze iX9_squeeze rfl rfl rfl (Nat.le_of_ble_eq_true rfl) (fun v4 Y4 q4 => ?_)
          obtain ⟨rfl, h2⟩ := q4
          obtain ⟨f2, A2⟩ := Y4
          refine ygo 99999 90 rfl rfl (by first | exact trivial | (simp only [true_and, yu, ya, reduceIte, Nat.reduceEqDiff, Int32.reduceToInt, Int.toNat_natCast, Int.reduceToNat]; omega) | decide | (simp; done) | (simp; omega)) ?_
          try simp only [List.map_cons, List.map_nil, List.length_cons, List.length_nil, ylr_s, ylr_0, Nat.reduceAdd, Nat.reduceSub, List.cons_append, List.nil_append, List.set_cons_zero, List.set_cons_succ, Option.toList_none, Option.toList_some, Int32.reduceToInt, yu, ya, reduceIte, Nat.reduceEqDiff, Int.toNat_natCast, Int.reduceToNat]
          refine ycV rfl rfl rfl (cm_squeeze (v := nI (bst P k k).2) h2 (iofn _) (by simp only [List.length_append, List.length_singleton]; omega)) rfl kX9_squeeze iX9_squeeze rfl rfl rfl (Nat.le_of_ble_eq_true rfl) (fun v5 Y5 q5 => ?_)
          obtain ⟨rfl, h4⟩ := q5
          obtain ⟨f3, A3⟩ := Y5
          refine ygo 5 90 rfl rfl (by first | exact trivial | (simp only [true_and, yu, ya, reduceIte, Nat.reduceEqDiff, Int32.reduceToInt, Int.toNat_natCast, Int.reduceToNat]; omega) | decide | (simp; done) | (simp; omega)) ?_
          try simp only [List.map_cons, List.map_nil, List.length_cons, List.length_nil, ylr_s, ylr_0, Nat.reduceAdd, Nat.reduceSub, List.cons_append, List.nil_append, List.set_cons_zero, List.set_cons_succ, Option.toList_none, Option.toList_some, Int32.reduceToInt, yu, ya, reduceIte, Nat.reduceEqDiff, Int.toNat_natCast, Int.reduceToNat]
          refine ih (k + (bst P k k).1) (k + (bst P k k).1) _ _ _ _ _ f3 A3 (by omega) (Nat.le_refl _) (by omega) (by omega) (by omega) (by rw [← hF]; simp) (by simp only [List.length_append, List.length_singleton]; omega) h4
        · omega
    · have hop : opz P (n + 1) k pf = if k < P.length then (if (bst P k k).1 < 3 then opz P n (k + 1) pf else seg P pf k ++ nI ((bst P k k).1 + 125) :: nI (bst P k k).2 :: opz P n (k + (bst P k k).1) (k + (bst P k k).1)) else seg P pf P.length := rfl
      rw [hop, if_neg hkl] at hF
      exact fin k pf kz pz qs x5 x6 f A (by omega) hpf hkz hpz hF hq h
theorem prs_eq {P : List Int32} {k l : Nat} {b : Int32} (hb : P[k]? = some b) (hall : ∀ i, i < l + 1 → P[k + i]? = some b) : prs 0 (P.drop k) = prs l (P.drop (k + l)) := by
  induction l with
  | zero => rfl
  | succ l ih =>
    rw [ih (fun i hi => hall i (by omega))]
    have h1 := hall l (by omega)
    have h2 := hall (l + 1) (by omega)
    have hlt := (List.getElem?_eq_some_iff.mp h1).1
    rw [prs_drop hlt l, getD_s h1, if_pos (by rw [← h2]; rfl)]
    rfl
set_option maxRecDepth 100000 in
set_option maxHeartbeats 2000000 in
theorem l_pairs2 {G : xG} {d a r k : Nat} {Z : pZ} {ws qs P : List Int32} {e : Int32 × Int32 × List Int32} {fz nz kz : Int} {b : Int32} {f : Nat → Int} {A : Nat → List Int32} {Q : Option yv → yS → Prop} (h : mW Z ws qs (f, A)) (he : Z.1.2.2.2[r]? = some e) (hP : e.2.2 = P) (hr : r < 8) (hfz : fz = 120 * r) (hnz : nz = P.length) (hkz : kz = k) (hP1 : P.length ≤ 120) (hb : P[k]? = some b)
    (kq : ∀ (l : Nat) (lz : Int), lz = l → 1 ≤ l → k + l ≤ P.length → prs 0 (P.drop k) = nI l :: b :: prs 0 (P.drop (k + l)) → yw G d a mX9_writePairs 54 [some (.inr 0), some (.inl fz), some (.inl nz), some (.inl kz), some (.inl lz)] [] (f, A) Q) : ∀ (n l : Nat) (lz : Int), k + l + n = P.length → 1 ≤ l → lz = l → (∀ i, i < l → P[k + i]? = some b) →
    yw G d a mX9_writePairs 10 [some (.inr 0), some (.inl fz), some (.inl nz), some (.inl kz), some (.inl lz)] [] (f, A) Q := by
  have hpg := h.pg he
  rw [hP] at hpg
  have fin : ∀ l, 1 ≤ l → k + l ≤ P.length → (∀ i, i < l → P[k + i]? = some b) → P[k + l]? ≠ some b → prs 0 (P.drop k) = nI l :: b :: prs 0 (P.drop (k + l)) := by
    intro l h1 h2 hall hne
    rw [prs_eq (l := l - 1) hb (fun i hi => hall i (by omega))]
    have hl := hall (l - 1) (by omega)
    have hlt := (List.getElem?_eq_some_iff.mp hl).1
    rw [prs_drop hlt, getD_s hl, if_neg (by rw [show k + (l - 1) + 1 = k + l by omega]; exact hne), show k + (l - 1) + 1 = k + l by omega, show l - 1 + 1 = l by omega]
  intro n
  induction n with
  | zero =>
    intro l lz hl hl1 hlz hall
    refine ygo 99999 90 rfl rfl (by first | exact trivial | (simp only [true_and, yu, ya, reduceIte, Nat.reduceEqDiff, Int32.reduceToInt, Int.toNat_natCast, Int.reduceToNat]; omega) | decide | (simp; done) | (simp; omega)) ?_
    try simp only [List.map_cons, List.map_nil, List.length_cons, List.length_nil, ylr_s, ylr_0, Nat.reduceAdd, Nat.reduceSub, List.cons_append, List.nil_append, List.set_cons_zero, List.set_cons_succ, Option.toList_none, Option.toList_some, Int32.reduceToInt, yu, ya, reduceIte, Nat.reduceEqDiff, Int.toNat_natCast, Int.reduceToNat]
    refine yi_icmpge rfl (by refine ⟨?_, ?_⟩ <;> first | exact yr_t _ | exact yr_b _ | (unfold yr; omega)) (fun c => ?_) (fun c => ?_)
    · exact kq l _ hlz hl1 (by omega) (fin l hl1 (by omega) hall (by rw [List.getElem?_eq_none (by omega)]; simp))
    · omega
  | succ n ih =>
    intro l lz hl hl1 hlz hall
    obtain ⟨x, hx⟩ := lt_get (l := P) (j := k + l) (by omega)
    have g1 := hpg (k + l) x hx
    have g2 := hpg k b hb
    have i1 : (fz + kz + lz).toNat = 120 * r + (k + l) := by omega
    have i2 : (fz + kz).toNat = 120 * r + k := by omega
    refine ygo 99999 90 rfl rfl (by first | exact trivial | (simp only [true_and, yu, ya, reduceIte, Nat.reduceEqDiff, Int32.reduceToInt, Int.toNat_natCast, Int.reduceToNat]; omega) | decide | (simp; done) | (simp; omega)) ?_
    try simp only [List.map_cons, List.map_nil, List.length_cons, List.length_nil, ylr_s, ylr_0, Nat.reduceAdd, Nat.reduceSub, List.cons_append, List.nil_append, List.set_cons_zero, List.set_cons_succ, Option.toList_none, Option.toList_some, Int32.reduceToInt, yu, ya, reduceIte, Nat.reduceEqDiff, Int.toNat_natCast, Int.reduceToNat]
    refine yi_icmpge rfl (by refine ⟨?_, ?_⟩ <;> first | exact yr_t _ | exact yr_b _ | (unfold yr; omega)) (fun c => ?_) (fun c => ?_)
    · omega
    refine ygo 99999 90 rfl rfl (by first | exact trivial | (simp only [true_and, yu, ya, reduceIte, Nat.reduceEqDiff, Int32.reduceToInt, Int.toNat_natCast, Int.reduceToNat]; omega) | decide | (simp; done) | (simp; omega)) ?_
    try simp only [List.map_cons, List.map_nil, List.length_cons, List.length_nil, ylr_s, ylr_0, Nat.reduceAdd, Nat.reduceSub, List.cons_append, List.nil_append, List.set_cons_zero, List.set_cons_succ, Option.toList_none, Option.toList_some, Int32.reduceToInt, yu, ya, reduceIte, Nat.reduceEqDiff, Int.toNat_natCast, Int.reduceToNat]
    refine yi_icmpge rfl (by refine ⟨?_, ?_⟩ <;> first | exact yr_t _ | exact yr_b _ | (unfold yr; omega)) (fun c1 => ?_) (fun c1 => ?_)
    · omega
    refine ygo 99999 90 rfl rfl (by first | exact trivial | (simp only [true_and, yu, ya, reduceIte, Nat.reduceEqDiff, Int32.reduceToInt, Int.toNat_natCast, Int.reduceToNat]; omega) | decide | (simp; done) | (simp; omega)) ?_
    try simp only [List.map_cons, List.map_nil, List.length_cons, List.length_nil, ylr_s, ylr_0, Nat.reduceAdd, Nat.reduceSub, List.cons_append, List.nil_append, List.set_cons_zero, List.set_cons_succ, Option.toList_none, Option.toList_some, Int32.reduceToInt, yu, ya, reduceIte, Nat.reduceEqDiff, Int.toNat_natCast, Int.reduceToNat]
    refine yi_icmpne rfl (by refine ⟨?_, ?_⟩ <;> first | exact yr_t _ | exact yr_b _ | (unfold yr; omega)) (fun c2 => ?_) (fun c2 => ?_)
    · rw [i1, i2, g1, g2, ti] at c2
      exact kq l _ hlz hl1 (by omega) (fin l hl1 (by omega) hall (by rw [hx]; intro hc; exact c2 (by simpa using hc)))
    · rw [i1, i2, g1, g2, ti] at c2
      refine ygo 10 90 rfl rfl (by first | exact trivial | (simp only [true_and, yu, ya, reduceIte, Nat.reduceEqDiff, Int32.reduceToInt, Int.toNat_natCast, Int.reduceToNat]; omega) | decide | (simp; done) | (simp; omega)) ?_
      try simp only [List.map_cons, List.map_nil, List.length_cons, List.length_nil, ylr_s, ylr_0, Nat.reduceAdd, Nat.reduceSub, List.cons_append, List.nil_append, List.set_cons_zero, List.set_cons_succ, Option.toList_none, Option.toList_some, Int32.reduceToInt, yu, ya, reduceIte, Nat.reduceEqDiff, Int.toNat_natCast, Int.reduceToNat]
      refine ih (l + 1) _ (by omega) (by omega) (by omega) (fun i hi => ?_)
      by_cases e : i = l
      · subst e; rw [hx, c2]
      · exact hall i (by omega)
set_option maxRecDepth 100000 in
set_option maxHeartbeats 2000000 in
theorem l_pairs {G : xG} {d a r : Nat} {Z : pZ} {ws P F : List Int32} {e : Int32 × Int32 × List Int32} {fz nz : Int} (he : Z.1.2.2.2[r]? = some e) (hP : e.2.2 = P) (hr : r < 8) (hfz : fz = 120 * r) (hnz : nz = P.length) (hP1 : P.length ≤ 120) : ∀ (n k : Nat) (kz : Int) (qs : List Int32) (x4 : Option yv) (f : Nat → Int) (A : Nat → List Int32), P.length - k ≤ n → k ≤ P.length → kz = k → qs ++ prs 0 (P.drop k) = F → qs.length + 2 * (P.length - k) ≤ 480 → mW Z ws qs (f, A) →
    yw G (d + 1) a mX9_writePairs 2 [some (.inr 0), some (.inl fz), some (.inl nz), some (.inl kz), x4] [] (f, A) (fun w Y' => w = none ∧ mW Z ws F Y') := by
  intro n
  induction n with
  | zero =>
    intro k kz qs x4 f A hn hk hkz hF hq h
    have hk2 : k = P.length := by omega
    subst hk2
    rw [List.drop_length] at hF
    refine ygo 99999 90 rfl rfl (by first | exact trivial | (simp only [true_and, yu, ya, reduceIte, Nat.reduceEqDiff, Int32.reduceToInt, Int.toNat_natCast, Int.reduceToNat]; omega) | decide | (simp; done) | (simp; omega)) ?_
    try simp only [List.map_cons, List.map_nil, List.length_cons, List.length_nil, ylr_s, ylr_0, Nat.reduceAdd, Nat.reduceSub, List.cons_append, List.nil_append, List.set_cons_zero, List.set_cons_succ, Option.toList_none, Option.toList_some, Int32.reduceToInt, yu, ya, reduceIte, Nat.reduceEqDiff, Int.toNat_natCast, Int.reduceToNat]
    refine yi_icmpge rfl (by refine ⟨?_, ?_⟩ <;> first | exact yr_t _ | exact yr_b _ | (unfold yr; omega)) (fun c => ?_) (fun c => ?_)
    · refine ygo 99999 90 rfl rfl (by first | exact trivial | (simp only [true_and, yu, ya, reduceIte, Nat.reduceEqDiff, Int32.reduceToInt, Int.toNat_natCast, Int.reduceToNat]; omega) | decide | (simp; done) | (simp; omega)) ?_
      try simp only [List.map_cons, List.map_nil, List.length_cons, List.length_nil, ylr_s, ylr_0, Nat.reduceAdd, Nat.reduceSub, List.cons_append, List.nil_append, List.set_cons_zero, List.set_cons_succ, Option.toList_none, Option.toList_some, Int32.reduceToInt, yu, ya, reduceIte, Nat.reduceEqDiff, Int.toNat_natCast, Int.reduceToNat]
      refine yi_ret_v rfl rfl ⟨rfl, by rw [← hF]; simpa [prs] using h⟩
    · omega
  | succ n ih =>
    intro k kz qs x4 f A hn hk hkz hF hq h
    by_cases hkl : k < P.length
    · obtain ⟨b, hb⟩ := lt_get (l := P) (j := k) hkl
      refine ygo 99999 90 rfl rfl (by first | exact trivial | (simp only [true_and, yu, ya, reduceIte, Nat.reduceEqDiff, Int32.reduceToInt, Int.toNat_natCast, Int.reduceToNat]; omega) | decide | (simp; done) | (simp; omega)) ?_
      try simp only [List.map_cons, List.map_nil, List.length_cons, List.length_nil, ylr_s, ylr_0, Nat.reduceAdd, Nat.reduceSub, List.cons_append, List.nil_append, List.set_cons_zero, List.set_cons_succ, Option.toList_none, Option.toList_some, Int32.reduceToInt, yu, ya, reduceIte, Nat.reduceEqDiff, Int.toNat_natCast, Int.reduceToNat]
      refine yi_icmpge rfl (by refine ⟨?_, ?_⟩ <;> first | exact yr_t _ | exact yr_b _ | (unfold yr; omega)) (fun c => ?_) (fun c => ?_)
      · omega
      refine ygo 10 90 rfl rfl (by first | exact trivial | (simp only [true_and, yu, ya, reduceIte, Nat.reduceEqDiff, Int32.reduceToInt, Int.toNat_natCast, Int.reduceToNat]; omega) | decide | (simp; done) | (simp; omega)) ?_
      try simp only [List.map_cons, List.map_nil, List.length_cons, List.length_nil, ylr_s, ylr_0, Nat.reduceAdd, Nat.reduceSub, List.cons_append, List.nil_append, List.set_cons_zero, List.set_cons_succ, Option.toList_none, Option.toList_some, Int32.reduceToInt, yu, ya, reduceIte, Nat.reduceEqDiff, Int.toNat_natCast, Int.reduceToNat]
      refine l_pairs2 h he hP hr hfz hnz hkz hP1 hb (fun l lz hlz hl1 hkl2 hpr => ?_) (P.length - (k + 1)) 1 _ (by omega) (Nat.le_refl _) rfl (fun i hi => by rw [show i = 0 by omega]; exact hb)
      have g2 := h.pg he k b (by rw [hP]; exact hb)
      have i2 : (fz + kz).toNat = 120 * r + k := by omega
      refine ygo 99999 90 rfl rfl (by first | exact trivial | (simp only [true_and, yu, ya, reduceIte, Nat.reduceEqDiff, Int32.reduceToInt, Int.toNat_natCast, Int.reduceToNat]; omega) | decide | (simp; done) | (simp; omega)) ?_
      try simp only [List.map_cons, List.map_nil, List.length_cons, List.length_nil, ylr_s, ylr_0, Nat.reduceAdd, Nat.reduceSub, List.cons_append, List.nil_append, List.set_cons_zero, List.set_cons_succ, Option.toList_none, Option.toList_some, Int32.reduceToInt, yu, ya, reduceIte, Nat.reduceEqDiff, Int.toNat_natCast, Int.reduceToNat]
      refine ycV rfl rfl rfl (cm_squeeze (v := nI l) h (by rw [hlz]; exact iofn l) (by omega)) rfl kX9_squeeze iX9_squeeze rfl rfl rfl (Nat.le_of_ble_eq_true rfl) (fun v1 Y1 q1 => ?_)
      obtain ⟨rfl, h1⟩ := q1
      obtain ⟨f1, A1⟩ := Y1
      have g3 := h1.pg he k b (by rw [hP]; exact hb)
      refine ygo 99999 90 rfl rfl (by first | exact trivial | (simp only [true_and, yu, ya, reduceIte, Nat.reduceEqDiff, Int32.reduceToInt, Int.toNat_natCast, Int.reduceToNat]; omega) | decide | (simp; done) | (simp; omega)) ?_
      try simp only [List.map_cons, List.map_nil, List.length_cons, List.length_nil, ylr_s, ylr_0, Nat.reduceAdd, Nat.reduceSub, List.cons_append, List.nil_append, List.set_cons_zero, List.set_cons_succ, Option.toList_none, Option.toList_some, Int32.reduceToInt, yu, ya, reduceIte, Nat.reduceEqDiff, Int.toNat_natCast, Int.reduceToNat]
      refine ycV rfl rfl rfl (cm_squeeze (v := b) h1 (by rw [i2, g3, iof]) (by simp only [List.length_append, List.length_singleton]; omega)) rfl kX9_squeeze iX9_squeeze rfl rfl rfl (Nat.le_of_ble_eq_true rfl) (fun v2 Y2 q2 => ?_)
      obtain ⟨rfl, h2⟩ := q2
      obtain ⟨f2, A2⟩ := Y2
      refine ygo 2 90 rfl rfl (by first | exact trivial | (simp only [true_and, yu, ya, reduceIte, Nat.reduceEqDiff, Int32.reduceToInt, Int.toNat_natCast, Int.reduceToNat]; omega) | decide | (simp; done) | (simp; omega)) ?_
      try simp only [List.map_cons, List.map_nil, List.length_cons, List.length_nil, ylr_s, ylr_0, Nat.reduceAdd, Nat.reduceSub, List.cons_append, List.nil_append, List.set_cons_zero, List.set_cons_succ, Option.toList_none, Option.toList_some, Int32.reduceToInt, yu, ya, reduceIte, Nat.reduceEqDiff, Int.toNat_natCast, Int.reduceToNat]
      refine ih (k + l) _ _ _ f2 A2 (by omega) (by omega) (by omega) (by rw [← hF, hpr]; simp) (by simp only [List.length_append, List.length_singleton]; omega) h2
    · have hk2 : k = P.length := by omega
      subst hk2
      rw [List.drop_length] at hF
      refine ygo 99999 90 rfl rfl (by first | exact trivial | (simp only [true_and, yu, ya, reduceIte, Nat.reduceEqDiff, Int32.reduceToInt, Int.toNat_natCast, Int.reduceToNat]; omega) | decide | (simp; done) | (simp; omega)) ?_
      try simp only [List.map_cons, List.map_nil, List.length_cons, List.length_nil, ylr_s, ylr_0, Nat.reduceAdd, Nat.reduceSub, List.cons_append, List.nil_append, List.set_cons_zero, List.set_cons_succ, Option.toList_none, Option.toList_some, Int32.reduceToInt, yu, ya, reduceIte, Nat.reduceEqDiff, Int.toNat_natCast, Int.reduceToNat]
      refine yi_icmpge rfl (by refine ⟨?_, ?_⟩ <;> first | exact yr_t _ | exact yr_b _ | (unfold yr; omega)) (fun c => ?_) (fun c => ?_)
      · refine ygo 99999 90 rfl rfl (by first | exact trivial | (simp only [true_and, yu, ya, reduceIte, Nat.reduceEqDiff, Int32.reduceToInt, Int.toNat_natCast, Int.reduceToNat]; omega) | decide | (simp; done) | (simp; omega)) ?_
        try simp only [List.map_cons, List.map_nil, List.length_cons, List.length_nil, ylr_s, ylr_0, Nat.reduceAdd, Nat.reduceSub, List.cons_append, List.nil_append, List.set_cons_zero, List.set_cons_succ, Option.toList_none, Option.toList_some, Int32.reduceToInt, yu, ya, reduceIte, Nat.reduceEqDiff, Int.toNat_natCast, Int.reduceToNat]
        refine yi_ret_v rfl rfl ⟨rfl, by rw [← hF]; simpa [prs] using h⟩
      · omega
