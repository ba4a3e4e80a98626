set_option maxRecDepth 100000 in
set_option maxHeartbeats 2000000 in
theorem l_sumOf {G : xG} {d a pk n : Nat} {Z : pZ} {bs : List Int32} {s0 : Int32} {x1 nz : Int} {f : Nat → Int} {A : Nat → List Int32} (hR : mR Z (f, A)) (h23 : f 23 = pk) (hp : pkd Z pk bs) (hn : nz = n) (hnl : n ≤ bs.length) : ∀ (m k : Nat) (kz sz : Int), k + m = n → kz = k → sz = (ssum s0 (bs.take k)).toInt →
    yw G (d + 1) a mX9_sumOf 5 [some (.inr 0), some (.inl x1), some (.inl nz), some (.inl sz), some (.inl kz)] [] (f, A) (fun w Y' => w = some (.inl (ssum s0 (bs.take n)).toInt) ∧ Y' = (f, A)) := by
  obtain ⟨xp, hxp, hxb, hp16, hlb, hbb⟩ := id hp
  intro m
  induction m with
  | zero =>
    intro k kz sz hk hkz hs
    have hkn : k = n := by omega
    refine ygo 99999 90 rfl rfl (by first | exact trivial | (simp only [true_and, eq_self, or_true, true_or, and_true, yu, ya, reduceIte, Nat.reduceEqDiff, Int32.reduceToInt, Int.toNat_natCast, Int.reduceToNat]; omega) | decide | (simp; done) | (simp; omega)) ?_
    try simp only [List.map_cons, List.map_nil, List.length_cons, List.length_nil, ylr_s, ylr_0, Nat.reduceAdd, Nat.reduceSub, List.cons_append, List.nil_append, List.set_cons_zero, List.set_cons_succ, Option.toList_none, Option.toList_some, Int32.reduceToInt, yu, ya, reduceIte, Nat.reduceEqDiff, Int.toNat_natCast, Int.reduceToNat]
    refine yi_icmpge rfl (by refine ⟨?_, ?_⟩ <;> first | exact yr_t _ | exact yr_b _ | (unfold yr; omega)) (fun c => ?_) (fun c => ?_)
    · refine ygo 99999 90 rfl rfl (by first | exact trivial | (simp only [true_and, eq_self, or_true, true_or, and_true, yu, ya, reduceIte, Nat.reduceEqDiff, Int32.reduceToInt, Int.toNat_natCast, Int.reduceToNat]; omega) | decide | (simp; done) | (simp; omega)) ?_
      try simp only [List.map_cons, List.map_nil, List.length_cons, List.length_nil, ylr_s, ylr_0, Nat.reduceAdd, Nat.reduceSub, List.cons_append, List.nil_append, List.set_cons_zero, List.set_cons_succ, Option.toList_none, Option.toList_some, Int32.reduceToInt, yu, ya, reduceIte, Nat.reduceEqDiff, Int.toNat_natCast, Int.reduceToNat]
      refine yi_ret_i rfl rfl ⟨by rw [hs, hkn], rfl⟩
    · omega
  | succ m ih =>
    intro k kz sz hk hkz hs
    obtain ⟨x, hx⟩ := lt_get (l := bs) (j := k) (by omega)
    refine ygo 99999 90 rfl rfl (by first | exact trivial | (simp only [true_and, eq_self, or_true, true_or, and_true, yu, ya, reduceIte, Nat.reduceEqDiff, Int32.reduceToInt, Int.toNat_natCast, Int.reduceToNat]; omega) | decide | (simp; done) | (simp; omega)) ?_
    try simp only [List.map_cons, List.map_nil, List.length_cons, List.length_nil, ylr_s, ylr_0, Nat.reduceAdd, Nat.reduceSub, List.cons_append, List.nil_append, List.set_cons_zero, List.set_cons_succ, Option.toList_none, Option.toList_some, Int32.reduceToInt, yu, ya, reduceIte, Nat.reduceEqDiff, Int.toNat_natCast, Int.reduceToNat]
    refine yi_icmpge rfl (by refine ⟨?_, ?_⟩ <;> first | exact yr_t _ | exact yr_b _ | (unfold yr; omega)) (fun c => ?_) (fun c => ?_)
    · omega
    refine ygo 99999 90 rfl rfl (by first | exact trivial | (simp only [true_and, eq_self, or_true, true_or, and_true, yu, ya, reduceIte, Nat.reduceEqDiff, Int32.reduceToInt, Int.toNat_natCast, Int.reduceToNat]; omega) | decide | (simp; done) | (simp; omega)) ?_
    try simp only [List.map_cons, List.map_nil, List.length_cons, List.length_nil, ylr_s, ylr_0, Nat.reduceAdd, Nat.reduceSub, List.cons_append, List.nil_append, List.set_cons_zero, List.set_cons_succ, Option.toList_none, Option.toList_some, Int32.reduceToInt, yu, ya, reduceIte, Nat.reduceEqDiff, Int.toNat_natCast, Int.reduceToNat]
    refine ycV rfl rfl rfl (cm_here (i := k) (b := x) hR h23 hp hkz hx) rfl kX9_here iX9_here rfl rfl rfl (Nat.le_of_ble_eq_true rfl) (fun v1 Y1 q1 => ?_)
    obtain ⟨rfl, rfl⟩ := q1
    refine ygo 99999 90 rfl rfl (by first | exact trivial | (simp only [true_and, eq_self, or_true, true_or, and_true, yu, ya, reduceIte, Nat.reduceEqDiff, Int32.reduceToInt, Int.toNat_natCast, Int.reduceToNat]; omega) | decide | (simp; done) | (simp; omega)) ?_
    try simp only [List.map_cons, List.map_nil, List.length_cons, List.length_nil, ylr_s, ylr_0, Nat.reduceAdd, Nat.reduceSub, List.cons_append, List.nil_append, List.set_cons_zero, List.set_cons_succ, Option.toList_none, Option.toList_some, Int32.reduceToInt, yu, ya, reduceIte, Nat.reduceEqDiff, Int.toNat_natCast, Int.reduceToNat]
    refine ycS rfl rfl rfl (cm_go (b := x) hs rfl) rfl kX9_go iX9_go rfl rfl (Nat.le_of_ble_eq_true rfl) (fun v2 Y2 q2 => ?_)
    obtain ⟨rfl, rfl⟩ := q2
    refine ygo 5 90 rfl rfl (by first | exact trivial | (simp only [true_and, eq_self, or_true, true_or, and_true, yu, ya, reduceIte, Nat.reduceEqDiff, Int32.reduceToInt, Int.toNat_natCast, Int.reduceToNat]; omega) | decide | (simp; done) | (simp; omega)) ?_
    try simp only [List.map_cons, List.map_nil, List.length_cons, List.length_nil, ylr_s, ylr_0, Nat.reduceAdd, Nat.reduceSub, List.cons_append, List.nil_append, List.set_cons_zero, List.set_cons_succ, Option.toList_none, Option.toList_some, Int32.reduceToInt, yu, ya, reduceIte, Nat.reduceEqDiff, Int.toNat_natCast, Int.reduceToNat]
    exact ih (k + 1) _ _ (by omega) (by omega) (by rw [ssum_s hx])
set_option maxRecDepth 100000 in
set_option maxHeartbeats 2000000 in
theorem cm_sumOf {G : xG} {d a pk n : Nat} {Z : pZ} {bs : List Int32} {s0 : Int32} {x1 nz : Int} {f : Nat → Int} {A : Nat → List Int32} (hR : mR Z (f, A)) (h23 : f 23 = pk) (hp : pkd Z pk bs) (hn : nz = n) (hnl : n ≤ bs.length) (h1 : x1 = s0.toInt) : ym G (d + 1) a mX9_sumOf [.inr 0, .inl x1, .inl nz] (f, A) (fun w Y' => w = some (.inl (ssum s0 (bs.take n)).toInt) ∧ Y' = (f, A)) := by
  refine ym_at 5 rfl (by decide) (Nat.le_of_ble_eq_true rfl) tX9_sumOf_ok ?_
  try simp only [List.map_cons, List.map_nil, List.length_cons, List.length_nil, ylr_s, ylr_0, Nat.reduceAdd, Nat.reduceSub, List.cons_append, List.nil_append, List.set_cons_zero, List.set_cons_succ, Option.toList_none, Option.toList_some, Int32.reduceToInt, yu, ya, reduceIte, Nat.reduceEqDiff, Int.toNat_natCast, Int.reduceToNat]
  refine ygo 5 90 rfl rfl (by first | exact trivial | (simp only [true_and, eq_self, or_true, true_or, and_true, yu, ya, reduceIte, Nat.reduceEqDiff, Int32.reduceToInt, Int.toNat_natCast, Int.reduceToNat]; omega) | decide | (simp; done) | (simp; omega)) ?_
  try simp only [List.map_cons, List.map_nil, List.length_cons, List.length_nil, ylr_s, ylr_0, Nat.reduceAdd, Nat.reduceSub, List.cons_append, List.nil_append, List.set_cons_zero, List.set_cons_succ, Option.toList_none, Option.toList_some, Int32.reduceToInt, yu, ya, reduceIte, Nat.reduceEqDiff, Int.toNat_natCast, Int.reduceToNat]
  exact l_sumOf hR h23 hp hn hnl n 0 0 _ (by omega) rfl (by rw [h1]; rfl)
set_option maxRecDepth 100000 in
set_option maxHeartbeats 2000000 in
theorem cm_isSigned {G : xG} {d a pk : Nat} {Z : pZ} {bs : List Int32} {T : Int32 × Int32 × Int32 × Int32} {f : Nat → Int} {A : Nat → List Int32} (hR : mR Z (f, A)) (h23 : f 23 = pk) (hp : pkd Z pk bs) (hT : hdT bs T) : ym G (d + 1) a mX9_isSigned [.inr 0] (f, A) (fun w Y' => w = some (.inl (if T.2.2.2 = 0 then 0 else 1)) ∧ Y' = (f, A)) := by
  obtain ⟨-, -, m, hm, m1, m2, -, ht⟩ := hT
  have hlt : m < 2 ↔ m.toInt < 2 := by rw [i_lt]; rfl
  have h10 : ¬ (1 : Int32) = 0 := by decide
  refine ym_at 1 rfl (by decide) (Nat.le_of_ble_eq_true rfl) tX9_isSigned_ok ?_
  try simp only [List.map_cons, List.map_nil, List.length_cons, List.length_nil, ylr_s, ylr_0, Nat.reduceAdd, Nat.reduceSub, List.cons_append, List.nil_append, List.set_cons_zero, List.set_cons_succ, Option.toList_none, Option.toList_some, Int32.reduceToInt, yu, ya, reduceIte, Nat.reduceEqDiff, Int.toNat_natCast, Int.reduceToNat]
  refine ygo 99999 90 rfl rfl (by first | exact trivial | (simp only [true_and, eq_self, or_true, true_or, and_true, yu, ya, reduceIte, Nat.reduceEqDiff, Int32.reduceToInt, Int.toNat_natCast, Int.reduceToNat]; omega) | decide | (simp; done) | (simp; omega)) ?_
  try simp only [List.map_cons, List.map_nil, List.length_cons, List.length_nil, ylr_s, ylr_0, Nat.reduceAdd, Nat.reduceSub, List.cons_append, List.nil_append, List.set_cons_zero, List.set_cons_succ, Option.toList_none, Option.toList_some, Int32.reduceToInt, yu, ya, reduceIte, Nat.reduceEqDiff, Int.toNat_natCast, Int.reduceToNat]
  refine ycV rfl rfl rfl (cm_here (i := 4) (b := m) hR h23 hp rfl hm) rfl kX9_here iX9_here rfl rfl rfl (Nat.le_of_ble_eq_true rfl) (fun v1 Y1 q1 => ?_)
  obtain ⟨rfl, rfl⟩ := q1
  refine ygo 99999 90 rfl rfl (by first | exact trivial | (simp only [true_and, eq_self, or_true, true_or, and_true, yu, ya, reduceIte, Nat.reduceEqDiff, Int32.reduceToInt, Int.toNat_natCast, Int.reduceToNat]; omega) | decide | (simp; done) | (simp; omega)) ?_
  try simp only [List.map_cons, List.map_nil, List.length_cons, List.length_nil, ylr_s, ylr_0, Nat.reduceAdd, Nat.reduceSub, List.cons_append, List.nil_append, List.set_cons_zero, List.set_cons_succ, Option.toList_none, Option.toList_some, Int32.reduceToInt, yu, ya, reduceIte, Nat.reduceEqDiff, Int.toNat_natCast, Int.reduceToNat]
  refine yi_icmple rfl (by refine ⟨?_, ?_⟩ <;> first | exact yr_t _ | exact yr_b _ | (unfold yr; omega)) (fun c => ?_) (fun c => ?_)
  · have : T.2.2.2 = 0 := by rw [ht, if_pos (hlt.mpr (by omega))]
    rw [if_pos this]
    refine ygo 99999 90 rfl rfl (by first | exact trivial | (simp only [true_and, eq_self, or_true, true_or, and_true, yu, ya, reduceIte, Nat.reduceEqDiff, Int32.reduceToInt, Int.toNat_natCast, Int.reduceToNat]; omega) | decide | (simp; done) | (simp; omega)) ?_
    try simp only [List.map_cons, List.map_nil, List.length_cons, List.length_nil, ylr_s, ylr_0, Nat.reduceAdd, Nat.reduceSub, List.cons_append, List.nil_append, List.set_cons_zero, List.set_cons_succ, Option.toList_none, Option.toList_some, Int32.reduceToInt, yu, ya, reduceIte, Nat.reduceEqDiff, Int.toNat_natCast, Int.reduceToNat]
    refine yi_ret_z rfl rfl (by omega) ⟨rfl, rfl⟩
  · have : ¬ T.2.2.2 = 0 := by rw [ht, if_neg (fun hc => by have := hlt.mp hc; omega)]; exact h10
    rw [if_neg this]
    refine ygo 99999 90 rfl rfl (by first | exact trivial | (simp only [true_and, eq_self, or_true, true_or, and_true, yu, ya, reduceIte, Nat.reduceEqDiff, Int32.reduceToInt, Int.toNat_natCast, Int.reduceToNat]; omega) | decide | (simp; done) | (simp; omega)) ?_
    try simp only [List.map_cons, List.map_nil, List.length_cons, List.length_nil, ylr_s, ylr_0, Nat.reduceAdd, Nat.reduceSub, List.cons_append, List.nil_append, List.set_cons_zero, List.set_cons_succ, Option.toList_none, Option.toList_some, Int32.reduceToInt, yu, ya, reduceIte, Nat.reduceEqDiff, Int.toNat_natCast, Int.reduceToNat]
    refine yi_ret_z rfl rfl (by omega) ⟨rfl, rfl⟩
def nx4 (bs : List Int32) : Nat → pS → pS
  | 0, s => s
  | n + 1, s => nx4 bs n (nxt bs 0 255 s).2
theorem nx4_w {bs : List Int32} : ∀ (n : Nat) {s : pS}, s.2.1.isSome = true → nx4 bs n s = s
  | 0, _, _ => rfl
  | n + 1, s, h => by
    show nx4 bs n (nxt bs 0 255 s).2 = s
    rw [nxt_w h]
    exact nx4_w n h
set_option maxRecDepth 100000 in
set_option maxHeartbeats 2000000 in
theorem l_wrSig {G : xG} {d a pk : Nat} {Z : pZ} {bs : List Int32} {pz : Int} {x2 x4 x5 : Option yv} {Y0 : yS} {Q : Option yv → yS → Prop} (hp : pkd Z pk bs) : ∀ (n i : Nat) (iz : Int) (s : pS) (f : Nat → Int) (A : Nat → List Int32), i + n = 4 → iz = i → mRd Z pk bs s (f, A) → fkp Y0 (f, A) → (s.2.1 = none → hdT bs s.2.2.1.1) → (∀ (f' : Nat → Int) (A' : Nat → List Int32) (x3 : Option yv), mRd Z pk bs (if s.2.2.1.1.2.2.2 = 0 then s else nx4 bs n s) (f', A') → fkp Y0 (f', A') → yw G (d + 4) a mX9_wrong 201 [some (.inr 0), some (.inl pz), x2, x3, x4, x5] [] (f', A') Q) →
    yw G (d + 4) a mX9_wrong 168 [some (.inr 0), some (.inl pz), x2, some (.inl iz), x4, x5] [] (f, A) Q := by
  obtain ⟨xp, hxp, hxb, hp16, hlb, hbb⟩ := id hp
  intro n
  induction n with
  | zero =>
    intro i iz s f A hi hiz h hk0 hT hQ
    have e : (if s.2.2.1.1.2.2.2 = 0 then s else nx4 bs 0 s) = s := by split <;> rfl
    rw [e] at hQ
    refine ygo 99999 90 rfl rfl (by first | exact trivial | (simp only [true_and, eq_self, or_true, true_or, and_true, yu, ya, reduceIte, Nat.reduceEqDiff, Int32.reduceToInt, Int.toNat_natCast, Int.reduceToNat]; omega) | decide | (simp; done) | (simp; omega)) ?_
    try simp only [List.map_cons, List.map_nil, List.length_cons, List.length_nil, ylr_s, ylr_0, Nat.reduceAdd, Nat.reduceSub, List.cons_append, List.nil_append, List.set_cons_zero, List.set_cons_succ, Option.toList_none, Option.toList_some, Int32.reduceToInt, yu, ya, reduceIte, Nat.reduceEqDiff, Int.toNat_natCast, Int.reduceToNat]
    refine yi_icmpge rfl (by refine ⟨?_, ?_⟩ <;> first | exact yr_t _ | exact yr_b _ | (unfold yr; omega)) (fun c => ?_) (fun c => ?_)
    · exact hQ f A _ h hk0
    · omega
  | succ n ih =>
    intro i iz s f A hi hiz h hk0 hT hQ
    have h24 : f 24 = oZ s.2.1 := h.2.2.1
    refine ygo 99999 90 rfl rfl (by first | exact trivial | (simp only [true_and, eq_self, or_true, true_or, and_true, yu, ya, reduceIte, Nat.reduceEqDiff, Int32.reduceToInt, Int.toNat_natCast, Int.reduceToNat]; omega) | decide | (simp; done) | (simp; omega)) ?_
    try simp only [List.map_cons, List.map_nil, List.length_cons, List.length_nil, ylr_s, ylr_0, Nat.reduceAdd, Nat.reduceSub, List.cons_append, List.nil_append, List.set_cons_zero, List.set_cons_succ, Option.toList_none, Option.toList_some, Int32.reduceToInt, yu, ya, reduceIte, Nat.reduceEqDiff, Int.toNat_natCast, Int.reduceToNat]
    refine yi_icmpge rfl (by refine ⟨?_, ?_⟩ <;> first | exact yr_t _ | exact yr_b _ | (unfold yr; omega)) (fun c => ?_) (fun c => ?_)
    · omega
    cases hw : s.2.1 with
    | some w =>
      have hsm : s.2.1.isSome = true := by rw [hw]; rfl
      have hz : f 24 = w := by rw [h24, hw]; rfl
      have hwl := h.2.2.2.2.2.2 w hw
      have e : (if s.2.2.1.1.2.2.2 = 0 then s else nx4 bs (n + 1) s) = s := by
        split
        · rfl
        · exact nx4_w _ hsm
      rw [e] at hQ
      refine ygo 99999 90 rfl rfl (by first | exact trivial | (simp only [true_and, eq_self, or_true, true_or, and_true, yu, ya, reduceIte, Nat.reduceEqDiff, Int32.reduceToInt, Int.toNat_natCast, Int.reduceToNat]; omega) | decide | (simp; done) | (simp; omega)) ?_
      try simp only [List.map_cons, List.map_nil, List.length_cons, List.length_nil, ylr_s, ylr_0, Nat.reduceAdd, Nat.reduceSub, List.cons_append, List.nil_append, List.set_cons_zero, List.set_cons_succ, Option.toList_none, Option.toList_some, Int32.reduceToInt, yu, ya, reduceIte, Nat.reduceEqDiff, Int.toNat_natCast, Int.reduceToNat]
      refine yi_ifge rfl (by first | exact yr_t _ | exact yr_b _ | (unfold yr; omega)) (fun c2 => ?_) (fun c2 => ?_)
      · exact hQ f A _ h hk0
      · omega
    | none =>
      have hz : f 24 = -1 := by rw [h24, hw]; rfl
      have hTT := hT hw
      refine ygo 99999 90 rfl rfl (by first | exact trivial | (simp only [true_and, eq_self, or_true, true_or, and_true, yu, ya, reduceIte, Nat.reduceEqDiff, Int32.reduceToInt, Int.toNat_natCast, Int.reduceToNat]; omega) | decide | (simp; done) | (simp; omega)) ?_
      try simp only [List.map_cons, List.map_nil, List.length_cons, List.length_nil, ylr_s, ylr_0, Nat.reduceAdd, Nat.reduceSub, List.cons_append, List.nil_append, List.set_cons_zero, List.set_cons_succ, Option.toList_none, Option.toList_some, Int32.reduceToInt, yu, ya, reduceIte, Nat.reduceEqDiff, Int.toNat_natCast, Int.reduceToNat]
      refine yi_ifge rfl (by first | exact yr_t _ | exact yr_b _ | (unfold yr; omega)) (fun c2 => ?_) (fun c2 => ?_)
      · omega
      refine ygo 99999 90 rfl rfl (by first | exact trivial | (simp only [true_and, eq_self, or_true, true_or, and_true, yu, ya, reduceIte, Nat.reduceEqDiff, Int32.reduceToInt, Int.toNat_natCast, Int.reduceToNat]; omega) | decide | (simp; done) | (simp; omega)) ?_
      try simp only [List.map_cons, List.map_nil, List.length_cons, List.length_nil, ylr_s, ylr_0, Nat.reduceAdd, Nat.reduceSub, List.cons_append, List.nil_append, List.set_cons_zero, List.set_cons_succ, Option.toList_none, Option.toList_some, Int32.reduceToInt, yu, ya, reduceIte, Nat.reduceEqDiff, Int.toNat_natCast, Int.reduceToNat]
      refine ycV rfl rfl rfl (cm_isSigned h.1 h.2.1 hp hTT) rfl kX9_isSigned iX9_isSigned rfl rfl rfl (Nat.le_of_ble_eq_true rfl) (fun v1 Y1 q1 => ?_)
      obtain ⟨rfl, rfl⟩ := q1
      have hsp : (if s.2.2.1.1.2.2.2 = 0 then (0 : Int) else 1) = 0 ↔ s.2.2.1.1.2.2.2 = 0 := by split <;> simp_all
      refine yi_ifeq rfl (by unfold yr; split <;> omega) (fun c3 => ?_) (fun c3 => ?_)
      · rw [if_pos (hsp.mp c3)] at hQ
        exact hQ f A _ h hk0
      · have c4 : ¬ s.2.2.1.1.2.2.2 = 0 := fun hc => c3 (hsp.mpr hc)
        refine ygo 99999 90 rfl rfl (by first | exact trivial | (simp only [true_and, eq_self, or_true, true_or, and_true, yu, ya, reduceIte, Nat.reduceEqDiff, Int32.reduceToInt, Int.toNat_natCast, Int.reduceToNat]; omega) | decide | (simp; done) | (simp; omega)) ?_
        try simp only [List.map_cons, List.map_nil, List.length_cons, List.length_nil, ylr_s, ylr_0, Nat.reduceAdd, Nat.reduceSub, List.cons_append, List.nil_append, List.set_cons_zero, List.set_cons_succ, Option.toList_none, Option.toList_some, Int32.reduceToInt, yu, ya, reduceIte, Nat.reduceEqDiff, Int.toNat_natCast, Int.reduceToNat]
        refine ycV rfl rfl rfl (cm_want (most := 255) h hp rfl (by decide)) rfl kX9_want iX9_want rfl rfl rfl (Nat.le_of_ble_eq_true rfl) (fun v2 Y2 q2 => ?_)
        obtain ⟨rfl, h2, k2⟩ := q2
        obtain ⟨f2, A2⟩ := Y2
        have er : (nxt bs 0 255 s).2.2.2 = s.2.2 := nxt_rest ..
        refine ygo 168 90 rfl rfl (by first | exact trivial | (simp only [true_and, eq_self, or_true, true_or, and_true, yu, ya, reduceIte, Nat.reduceEqDiff, Int32.reduceToInt, Int.toNat_natCast, Int.reduceToNat]; omega) | decide | (simp; done) | (simp; omega)) ?_
        try simp only [List.map_cons, List.map_nil, List.length_cons, List.length_nil, ylr_s, ylr_0, Nat.reduceAdd, Nat.reduceSub, List.cons_append, List.nil_append, List.set_cons_zero, List.set_cons_succ, Option.toList_none, Option.toList_some, Int32.reduceToInt, yu, ya, reduceIte, Nat.reduceEqDiff, Int.toNat_natCast, Int.reduceToNat]
        refine ih (i + 1) _ _ f2 A2 (by omega) (by omega) h2 (hk0.tr k2) (fun _ => by rw [er]; exact hTT) (fun f' A' x3 hm hk => ?_)
        rw [er, if_neg c4] at hm
        rw [if_neg c4] at hQ
        exact hQ f' A' x3 hm hk
theorem four_blw (S : Int32) {k : Nat} (hk : k < 4) : blw ((four S).getD k 0) 256 := by
  have hb : ∀ j : Int32, blw (bsh S j) 256 := fun j => bsh_blw S j
  rcases (show k = 0 ∨ k = 1 ∨ k = 2 ∨ k = 3 by omega) with rfl | rfl | rfl | rfl <;> exact hb _
theorem due_f {bs : List Int32} {v : Int32} {s : pS} (h : (nxt bs v v s).2.2.1 = none) : s.2.1 = none := (nxt_get h).1
set_option maxRecDepth 100000 in
set_option maxHeartbeats 2000000 in
theorem l_wrEnd {G : xG} {d a pk : Nat} {Z : pZ} {bs : List Int32} {s : pS} {S : Int32} {pz : Int} {x3 x4 x5 : Option yv} {f : Nat → Int} {A : Nat → List Int32} (h : mRd Z pk bs s (f, A)) (hp : pkd Z pk bs) (hS : s.2.1 = none → S = ssum 1 (bs.take s.1)) (hT : s.2.1 = none → hdT bs s.2.2.1.1) (hpz : pz = pk) :
    yw G (d + 4) a mX9_wrong 142 [some (.inr 0), some (.inl pz), some (.inl S.toInt), x3, x4, x5] [] (f, A) (fun w Y' => w = some (.inl (oI (hEndS bs s).2.1).toInt) ∧ mR Z Y' ∧ fkp (f, A) Y' ∧ ∀ w, (hEndS bs s).2.1 = some w → w ≤ bs.length) := by
  obtain ⟨xp, hxp, hxb, hp16, hlb, hbb⟩ := id hp
  refine ygo 99999 90 rfl rfl (by first | exact trivial | (simp only [true_and, eq_self, or_true, true_or, and_true, yu, ya, reduceIte, Nat.reduceEqDiff, Int32.reduceToInt, Int.toNat_natCast, Int.reduceToNat]; omega) | decide | (simp; done) | (simp; omega)) ?_
  try simp only [List.map_cons, List.map_nil, List.length_cons, List.length_nil, ylr_s, ylr_0, Nat.reduceAdd, Nat.reduceSub, List.cons_append, List.nil_append, List.set_cons_zero, List.set_cons_succ, Option.toList_none, Option.toList_some, Int32.reduceToInt, yu, ya, reduceIte, Nat.reduceEqDiff, Int.toNat_natCast, Int.reduceToNat]
  refine yi_iflt rfl (by first | exact yr_t _ | exact yr_b _ | (unfold yr; omega)) (fun c1 => ?_) (fun c1 => ?_)
  · omega
  refine ygo 99999 90 rfl rfl (by first | exact trivial | (simp only [true_and, eq_self, or_true, true_or, and_true, yu, ya, reduceIte, Nat.reduceEqDiff, Int32.reduceToInt, Int.toNat_natCast, Int.reduceToNat]; omega) | decide | (simp; done) | (simp; omega)) ?_
  try simp only [List.map_cons, List.map_nil, List.length_cons, List.length_nil, ylr_s, ylr_0, Nat.reduceAdd, Nat.reduceSub, List.cons_append, List.nil_append, List.set_cons_zero, List.set_cons_succ, Option.toList_none, Option.toList_some, Int32.reduceToInt, yu, ya, reduceIte, Nat.reduceEqDiff, Int.toNat_natCast, Int.reduceToNat]
  refine ycV rfl rfl rfl (cm_exactly (v := (four S).getD 0 0) h hp (by rw [fourB (k := 0) (by omega) (by omega)]) (four_blw S (by omega))) rfl kX9_exactly iX9_exactly rfl rfl rfl (Nat.le_of_ble_eq_true rfl) (fun v1 Y1 q1 => ?_)
  obtain ⟨rfl, h1, k1⟩ := q1
  obtain ⟨f1, A1⟩ := Y1
  refine ygo 99999 90 rfl rfl (by first | exact trivial | (simp only [true_and, eq_self, or_true, true_or, and_true, yu, ya, reduceIte, Nat.reduceEqDiff, Int32.reduceToInt, Int.toNat_natCast, Int.reduceToNat]; omega) | decide | (simp; done) | (simp; omega)) ?_
  try simp only [List.map_cons, List.map_nil, List.length_cons, List.length_nil, ylr_s, ylr_0, Nat.reduceAdd, Nat.reduceSub, List.cons_append, List.nil_append, List.set_cons_zero, List.set_cons_succ, Option.toList_none, Option.toList_some, Int32.reduceToInt, yu, ya, reduceIte, Nat.reduceEqDiff, Int.toNat_natCast, Int.reduceToNat]
  refine yi_iflt rfl (by first | exact yr_t _ | exact yr_b _ | (unfold yr; omega)) (fun c2 => ?_) (fun c2 => ?_)
  · omega
  refine ygo 99999 90 rfl rfl (by first | exact trivial | (simp only [true_and, eq_self, or_true, true_or, and_true, yu, ya, reduceIte, Nat.reduceEqDiff, Int32.reduceToInt, Int.toNat_natCast, Int.reduceToNat]; omega) | decide | (simp; done) | (simp; omega)) ?_
  try simp only [List.map_cons, List.map_nil, List.length_cons, List.length_nil, ylr_s, ylr_0, Nat.reduceAdd, Nat.reduceSub, List.cons_append, List.nil_append, List.set_cons_zero, List.set_cons_succ, Option.toList_none, Option.toList_some, Int32.reduceToInt, yu, ya, reduceIte, Nat.reduceEqDiff, Int.toNat_natCast, Int.reduceToNat]
  refine ycV rfl rfl rfl (cm_exactly (v := (four S).getD 1 0) h1 hp (by rw [fourB (k := 1) (by omega) (by omega)]) (four_blw S (by omega))) rfl kX9_exactly iX9_exactly rfl rfl rfl (Nat.le_of_ble_eq_true rfl) (fun v2 Y2 q2 => ?_)
  obtain ⟨rfl, h2, k2⟩ := q2
  obtain ⟨f2, A2⟩ := Y2
  refine ygo 99999 90 rfl rfl (by first | exact trivial | (simp only [true_and, eq_self, or_true, true_or, and_true, yu, ya, reduceIte, Nat.reduceEqDiff, Int32.reduceToInt, Int.toNat_natCast, Int.reduceToNat]; omega) | decide | (simp; done) | (simp; omega)) ?_
  try simp only [List.map_cons, List.map_nil, List.length_cons, List.length_nil, ylr_s, ylr_0, Nat.reduceAdd, Nat.reduceSub, List.cons_append, List.nil_append, List.set_cons_zero, List.set_cons_succ, Option.toList_none, Option.toList_some, Int32.reduceToInt, yu, ya, reduceIte, Nat.reduceEqDiff, Int.toNat_natCast, Int.reduceToNat]
  refine yi_iflt rfl (by first | exact yr_t _ | exact yr_b _ | (unfold yr; omega)) (fun c3 => ?_) (fun c3 => ?_)
  · omega
  refine ygo 99999 90 rfl rfl (by first | exact trivial | (simp only [true_and, eq_self, or_true, true_or, and_true, yu, ya, reduceIte, Nat.reduceEqDiff, Int32.reduceToInt, Int.toNat_natCast, Int.reduceToNat]; omega) | decide | (simp; done) | (simp; omega)) ?_
  try simp only [List.map_cons, List.map_nil, List.length_cons, List.length_nil, ylr_s, ylr_0, Nat.reduceAdd, Nat.reduceSub, List.cons_append, List.nil_append, List.set_cons_zero, List.set_cons_succ, Option.toList_none, Option.toList_some, Int32.reduceToInt, yu, ya, reduceIte, Nat.reduceEqDiff, Int.toNat_natCast, Int.reduceToNat]
  refine ycV rfl rfl rfl (cm_exactly (v := (four S).getD 2 0) h2 hp (by rw [fourB (k := 2) (by omega) (by omega)]) (four_blw S (by omega))) rfl kX9_exactly iX9_exactly rfl rfl rfl (Nat.le_of_ble_eq_true rfl) (fun v3 Y3 q3 => ?_)
  obtain ⟨rfl, h3, k3⟩ := q3
  obtain ⟨f3, A3⟩ := Y3
  refine ygo 99999 90 rfl rfl (by first | exact trivial | (simp only [true_and, eq_self, or_true, true_or, and_true, yu, ya, reduceIte, Nat.reduceEqDiff, Int32.reduceToInt, Int.toNat_natCast, Int.reduceToNat]; omega) | decide | (simp; done) | (simp; omega)) ?_
  try simp only [List.map_cons, List.map_nil, List.length_cons, List.length_nil, ylr_s, ylr_0, Nat.reduceAdd, Nat.reduceSub, List.cons_append, List.nil_append, List.set_cons_zero, List.set_cons_succ, Option.toList_none, Option.toList_some, Int32.reduceToInt, yu, ya, reduceIte, Nat.reduceEqDiff, Int.toNat_natCast, Int.reduceToNat]
  refine yi_iflt rfl (by first | exact yr_t _ | exact yr_b _ | (unfold yr; omega)) (fun c4 => ?_) (fun c4 => ?_)
  · omega
  refine ygo 99999 90 rfl rfl (by first | exact trivial | (simp only [true_and, eq_self, or_true, true_or, and_true, yu, ya, reduceIte, Nat.reduceEqDiff, Int32.reduceToInt, Int.toNat_natCast, Int.reduceToNat]; omega) | decide | (simp; done) | (simp; omega)) ?_
  try simp only [List.map_cons, List.map_nil, List.length_cons, List.length_nil, ylr_s, ylr_0, Nat.reduceAdd, Nat.reduceSub, List.cons_append, List.nil_append, List.set_cons_zero, List.set_cons_succ, Option.toList_none, Option.toList_some, Int32.reduceToInt, yu, ya, reduceIte, Nat.reduceEqDiff, Int.toNat_natCast, Int.reduceToNat]
  refine ycV rfl rfl rfl (cm_exactly (v := (four S).getD 3 0) h3 hp (by rw [fourB (k := 3) (by omega) (by omega)]) (four_blw S (by omega))) rfl kX9_exactly iX9_exactly rfl rfl rfl (Nat.le_of_ble_eq_true rfl) (fun v4 Y4 q4 => ?_)
  obtain ⟨rfl, h4, k4⟩ := q4
  obtain ⟨f4, A4⟩ := Y4
  have hk4 := ((k1.tr k2).tr k3).tr k4
  have h4' : mRd Z pk bs (due bs S 0 (due bs S 8 (due bs S 16 (due bs S 24 s)))) (f4, A4) := h4
  have hE : (hEndS bs s).2.1 = (let s1 := due bs S 0 (due bs S 8 (due bs S 16 (due bs S 24 s))); let s2 := if s1.2.2.1.1.2.2.2 = 0 then s1 else nx4 bs 4 s1; if s2.1 < bs.length then refS s2.1 s2 else s2).2.1 := by
    cases hw : s.2.1 with
    | none =>
      unfold hEndS
      rw [if_neg (by rw [hw]; decide), ← hS hw]
      rfl
    | some w =>
      have hsm : s.2.1.isSome = true := by rw [hw]; rfl
      have hd : ∀ k, due bs S k s = s := fun k => by unfold due; rw [nxt_w hsm]
      unfold hEndS
      rw [if_pos hsm, hd, hd, hd, hd]
      dsimp only
      rw [nx4_w 4 hsm]
      have e : (if s.2.2.1.1.2.2.2 = 0 then s else s) = s := by split <;> rfl
      rw [e, refif_w hsm]
  have hf1 : (due bs S 0 (due bs S 8 (due bs S 16 (due bs S 24 s)))).2.1 = none → s.2.1 = none := fun hn => due_f (due_f (due_f (due_f hn)))
  have hr1 : (due bs S 0 (due bs S 8 (due bs S 16 (due bs S 24 s)))).2.2 = s.2.2 := by
    unfold due
    rw [nxt_rest, nxt_rest, nxt_rest, nxt_rest]
  dsimp only at hE
  generalize due bs S 0 (due bs S 8 (due bs S 16 (due bs S 24 s))) = s1 at hE h4' hf1 hr1
  refine ygo 99999 90 rfl rfl (by first | exact trivial | (simp only [true_and, eq_self, or_true, true_or, and_true, yu, ya, reduceIte, Nat.reduceEqDiff, Int32.reduceToInt, Int.toNat_natCast, Int.reduceToNat]; omega) | decide | (simp; done) | (simp; omega)) ?_
  try simp only [List.map_cons, List.map_nil, List.length_cons, List.length_nil, ylr_s, ylr_0, Nat.reduceAdd, Nat.reduceSub, List.cons_append, List.nil_append, List.set_cons_zero, List.set_cons_succ, Option.toList_none, Option.toList_some, Int32.reduceToInt, yu, ya, reduceIte, Nat.reduceEqDiff, Int.toNat_natCast, Int.reduceToNat]
  refine yi_iflt rfl (by first | exact yr_t _ | exact yr_b _ | (unfold yr; omega)) (fun c5 => ?_) (fun c5 => ?_)
  · refine ygo 168 90 rfl rfl (by first | exact trivial | (simp only [true_and, eq_self, or_true, true_or, and_true, yu, ya, reduceIte, Nat.reduceEqDiff, Int32.reduceToInt, Int.toNat_natCast, Int.reduceToNat]; omega) | decide | (simp; done) | (simp; omega)) ?_
    try simp only [List.map_cons, List.map_nil, List.length_cons, List.length_nil, ylr_s, ylr_0, Nat.reduceAdd, Nat.reduceSub, List.cons_append, List.nil_append, List.set_cons_zero, List.set_cons_succ, Option.toList_none, Option.toList_some, Int32.reduceToInt, yu, ya, reduceIte, Nat.reduceEqDiff, Int.toNat_natCast, Int.reduceToNat]
    refine l_wrSig hp 4 0 0 s1 f4 A4 (by omega) rfl h4' hk4 (fun hn => by rw [hr1]; exact hT (hf1 hn)) (fun f5 A5 x3 hm hk => ?_)
    generalize (if s1.2.2.1.1.2.2.2 = 0 then s1 else nx4 bs 4 s1) = s2 at hm hE
    have h24 : f5 24 = oZ s2.2.1 := hm.2.2.1
    rw [hE]
    cases hw : s2.2.1 with
    | some w =>
      have hwl := hm.2.2.2.2.2.2 w hw
      have hz : f5 24 = w := by rw [h24, hw]; rfl
      rw [refif_w (by rw [hw]; rfl), hw]
      have ho : (oI (some w)).toInt = w := i_n (by omega)
      rw [ho]
      refine ygo 99999 90 rfl rfl (by first | exact trivial | (simp only [true_and, eq_self, or_true, true_or, and_true, yu, ya, reduceIte, Nat.reduceEqDiff, Int32.reduceToInt, Int.toNat_natCast, Int.reduceToNat]; omega) | decide | (simp; done) | (simp; omega)) ?_
      try simp only [List.map_cons, List.map_nil, List.length_cons, List.length_nil, ylr_s, ylr_0, Nat.reduceAdd, Nat.reduceSub, List.cons_append, List.nil_append, List.set_cons_zero, List.set_cons_succ, Option.toList_none, Option.toList_some, Int32.reduceToInt, yu, ya, reduceIte, Nat.reduceEqDiff, Int.toNat_natCast, Int.reduceToNat]
      refine yi_iflt rfl (by first | exact yr_t _ | exact yr_b _ | (unfold yr; omega)) (fun c6 => ?_) (fun c6 => ?_)
      · omega
      · refine ygo 99999 90 rfl rfl (by first | exact trivial | (simp only [true_and, eq_self, or_true, true_or, and_true, yu, ya, reduceIte, Nat.reduceEqDiff, Int32.reduceToInt, Int.toNat_natCast, Int.reduceToNat]; omega) | decide | (simp; done) | (simp; omega)) ?_
        try simp only [List.map_cons, List.map_nil, List.length_cons, List.length_nil, ylr_s, ylr_0, Nat.reduceAdd, Nat.reduceSub, List.cons_append, List.nil_append, List.set_cons_zero, List.set_cons_succ, Option.toList_none, Option.toList_some, Int32.reduceToInt, yu, ya, reduceIte, Nat.reduceEqDiff, Int.toNat_natCast, Int.reduceToNat]
        rw [hz]
        refine yi_ret_i rfl rfl ⟨rfl, hm.1, hk, fun w' hw' => by cases hw'; exact hwl⟩
    | none =>
      have hz : f5 24 = -1 := by rw [h24, hw]; rfl
      have h22 : f5 22 = s2.1 := hm.2.2.2.2.2.1 hw
      have h22b : f5 22 ≤ bs.length := hm.2.2.2.2.1
      have hR := hm.1
      have h21 : (A5 21).getD pk 0 = nI bs.length := by rw [← hxb]; exact (hR.2.1.2 pk xp hxp).1
      have hlen : ((A5 21).getD pk 0).toInt = bs.length := by rw [h21, i_n (by omega)]
      have hpt : pz.toNat = pk := by omega
      refine ygo 99999 90 rfl rfl (by first | exact trivial | (simp only [true_and, eq_self, or_true, true_or, and_true, yu, ya, reduceIte, Nat.reduceEqDiff, Int32.reduceToInt, Int.toNat_natCast, Int.reduceToNat]; omega) | decide | (simp; done) | (simp; omega)) ?_
      try simp only [List.map_cons, List.map_nil, List.length_cons, List.length_nil, ylr_s, ylr_0, Nat.reduceAdd, Nat.reduceSub, List.cons_append, List.nil_append, List.set_cons_zero, List.set_cons_succ, Option.toList_none, Option.toList_some, Int32.reduceToInt, yu, ya, reduceIte, Nat.reduceEqDiff, Int.toNat_natCast, Int.reduceToNat]
      refine yi_iflt rfl (by first | exact yr_t _ | exact yr_b _ | (unfold yr; omega)) (fun c6 => ?_) (fun c6 => ?_)
      · refine ygo 99999 90 rfl rfl (by (simp only [true_and, yu, ya, reduceIte, Nat.reduceEqDiff, Int32.reduceToInt, Int.toNat_natCast, Int.reduceToNat]; omega)) ?_
        try simp only [List.map_cons, List.map_nil, List.length_cons, List.length_nil, ylr_s, ylr_0, Nat.reduceAdd, Nat.reduceSub, List.cons_append, List.nil_append, List.set_cons_zero, List.set_cons_succ, Option.toList_none, Option.toList_some, Int32.reduceToInt, yu, ya, reduceIte, Nat.reduceEqDiff, Int.toNat_natCast, Int.reduceToNat]
        refine yi_icmpge rfl (by refine ⟨?_, ?_⟩ <;> first | exact yr_t _ | exact yr_b _ | (unfold yr; omega)) (fun c7 => ?_) (fun c7 => ?_)
        · rw [hpt, hlen] at c7
          rw [if_neg (by omega), hw]
          refine ygo 99999 90 rfl rfl (by first | exact trivial | (simp only [true_and, eq_self, or_true, true_or, and_true, yu, ya, reduceIte, Nat.reduceEqDiff, Int32.reduceToInt, Int.toNat_natCast, Int.reduceToNat]; omega) | decide | (simp; done) | (simp; omega)) ?_
          try simp only [List.map_cons, List.map_nil, List.length_cons, List.length_nil, ylr_s, ylr_0, Nat.reduceAdd, Nat.reduceSub, List.cons_append, List.nil_append, List.set_cons_zero, List.set_cons_succ, Option.toList_none, Option.toList_some, Int32.reduceToInt, yu, ya, reduceIte, Nat.reduceEqDiff, Int.toNat_natCast, Int.reduceToNat]
          refine yi_ret_i rfl rfl ⟨rfl, hm.1, hk, fun w' hw' => by cases hw'⟩
        · rw [hpt, hlen] at c7
          have hr : refS s2.1 s2 = (s2.1, some s2.1, s2.2.2) := if_neg (by rw [hw]; decide)
          rw [if_pos (by omega), hr]
          have ho : (oI (some s2.1)).toInt = s2.1 := i_n (by omega)
          dsimp only
          rw [ho]
          refine ygo 99999 90 rfl rfl (by first | exact trivial | (simp only [true_and, eq_self, or_true, true_or, and_true, yu, ya, reduceIte, Nat.reduceEqDiff, Int32.reduceToInt, Int.toNat_natCast, Int.reduceToNat]; omega) | decide | (simp; done) | (simp; omega)) ?_
          try simp only [List.map_cons, List.map_nil, List.length_cons, List.length_nil, ylr_s, ylr_0, Nat.reduceAdd, Nat.reduceSub, List.cons_append, List.nil_append, List.set_cons_zero, List.set_cons_succ, Option.toList_none, Option.toList_some, Int32.reduceToInt, yu, ya, reduceIte, Nat.reduceEqDiff, Int.toNat_natCast, Int.reduceToNat]
          rw [h22]
          refine yi_ret_i rfl rfl ⟨rfl, hm.1, hk, fun w' hw' => by cases hw'; omega⟩
      · omega
  · omega
