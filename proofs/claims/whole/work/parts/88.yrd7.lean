theorem hPlain1_p {bs : List Int32} {r : Nat} {s : pS} : (hPlain1 bs r s).1 = (nxt bs 0 255 s).2.1 ∧ (hPlain1 bs r s).2.1 = (nxt bs 0 255 s).2.2.1 := ⟨rfl, rfl⟩
set_option maxRecDepth 100000 in
set_option maxHeartbeats 2000000 in
theorem l_readPlain {G : xG} {d a pk r m : Nat} {Z : pZ} {bs : List Int32} {lz mz : Int} {Y0 : yS} {F : pS} (hp : pkd Z pk bs) (hm : mz = m) (hm1 : m ≤ 1000) : ∀ (n k : Nat) (kz : Int) (s : pS) (f : Nat → Int) (A : Nat → List Int32), k + n = m → kz = k → hLoop (hPlain1 bs r) n s = F → mRd Z pk bs s (f, A) → fkp Y0 (f, A) →
    yw G (d + 2) a mX9_readPlain 16 [some (.inr 0), some (.inl lz), some (.inl mz), some (.inl kz)] [] (f, A) (fun w Y' => w = none ∧ mRd Z pk bs F Y' ∧ fkp Y0 Y') := by
  intro n
  induction n with
  | zero =>
    intro k kz s f A hk hkz hF h hk0
    have hsF : s = F := hF
    subst hsF
    refine ygo 99999 90 rfl rfl (by first | exact trivial | (simp only [true_and, eq_self, or_true, true_or, and_true, yu, ya, reduceIte, Nat.reduceEqDiff, Int32.reduceToInt, Int.toNat_natCast, Int.reduceToNat]; omega) | decide | (simp; done) | (simp; omega)) ?_
    try simp only [List.map_cons, List.map_nil, List.length_cons, List.length_nil, ylr_s, ylr_0, Nat.reduceAdd, Nat.reduceSub, List.cons_append, List.nil_append, List.set_cons_zero, List.set_cons_succ, Option.toList_none, Option.toList_some, Int32.reduceToInt, yu, ya, reduceIte, Nat.reduceEqDiff, Int.toNat_natCast, Int.reduceToNat]
    refine yi_icmpge rfl (by refine ⟨?_, ?_⟩ <;> first | exact yr_t _ | exact yr_b _ | (unfold yr; omega)) (fun c => ?_) (fun c => ?_)
    · refine ygo 99999 90 rfl rfl (by first | exact trivial | (simp only [true_and, eq_self, or_true, true_or, and_true, yu, ya, reduceIte, Nat.reduceEqDiff, Int32.reduceToInt, Int.toNat_natCast, Int.reduceToNat]; omega) | decide | (simp; done) | (simp; omega)) ?_
      try simp only [List.map_cons, List.map_nil, List.length_cons, List.length_nil, ylr_s, ylr_0, Nat.reduceAdd, Nat.reduceSub, List.cons_append, List.nil_append, List.set_cons_zero, List.set_cons_succ, Option.toList_none, Option.toList_some, Int32.reduceToInt, yu, ya, reduceIte, Nat.reduceEqDiff, Int.toNat_natCast, Int.reduceToNat]
      refine yi_ret_v rfl rfl ⟨rfl, h, hk0⟩
    · omega
  | succ n ih =>
    intro k kz s f A hk hkz hF h hk0
    refine ygo 99999 90 rfl rfl (by first | exact trivial | (simp only [true_and, eq_self, or_true, true_or, and_true, yu, ya, reduceIte, Nat.reduceEqDiff, Int32.reduceToInt, Int.toNat_natCast, Int.reduceToNat]; omega) | decide | (simp; done) | (simp; omega)) ?_
    try simp only [List.map_cons, List.map_nil, List.length_cons, List.length_nil, ylr_s, ylr_0, Nat.reduceAdd, Nat.reduceSub, List.cons_append, List.nil_append, List.set_cons_zero, List.set_cons_succ, Option.toList_none, Option.toList_some, Int32.reduceToInt, yu, ya, reduceIte, Nat.reduceEqDiff, Int.toNat_natCast, Int.reduceToNat]
    refine yi_icmpge rfl (by refine ⟨?_, ?_⟩ <;> first | exact yr_t _ | exact yr_b _ | (unfold yr; omega)) (fun c => ?_) (fun c => ?_)
    · omega
    refine ygo 99999 90 rfl rfl (by first | exact trivial | (simp only [true_and, eq_self, or_true, true_or, and_true, yu, ya, reduceIte, Nat.reduceEqDiff, Int32.reduceToInt, Int.toNat_natCast, Int.reduceToNat]; omega) | decide | (simp; done) | (simp; omega)) ?_
    try simp only [List.map_cons, List.map_nil, List.length_cons, List.length_nil, ylr_s, ylr_0, Nat.reduceAdd, Nat.reduceSub, List.cons_append, List.nil_append, List.set_cons_zero, List.set_cons_succ, Option.toList_none, Option.toList_some, Int32.reduceToInt, yu, ya, reduceIte, Nat.reduceEqDiff, Int.toNat_natCast, Int.reduceToNat]
    refine ycV rfl rfl rfl (cm_want (most := 255) h hp rfl (by decide)) rfl kX9_want iX9_want rfl rfl rfl (Nat.le_of_ble_eq_true rfl) (fun v1 Y1 q1 => ?_)
    obtain ⟨rfl, h1, k1⟩ := q1
    obtain ⟨f1, A1⟩ := Y1
    refine ygo 16 90 rfl rfl (by first | exact trivial | (simp only [true_and, eq_self, or_true, true_or, and_true, yu, ya, reduceIte, Nat.reduceEqDiff, Int32.reduceToInt, Int.toNat_natCast, Int.reduceToNat]; omega) | decide | (simp; done) | (simp; omega)) ?_
    try simp only [List.map_cons, List.map_nil, List.length_cons, List.length_nil, ylr_s, ylr_0, Nat.reduceAdd, Nat.reduceSub, List.cons_append, List.nil_append, List.set_cons_zero, List.set_cons_succ, Option.toList_none, Option.toList_some, Int32.reduceToInt, yu, ya, reduceIte, Nat.reduceEqDiff, Int.toNat_natCast, Int.reduceToNat]
    cases hw : s.2.1 with
    | some w =>
      have hsm : s.2.1.isSome = true := by rw [hw]; rfl
      rw [nxt_w hsm] at h1
      rw [hLoop_wrong hsm] at hF
      exact ih (k + 1) _ s f1 A1 (by omega) (by omega) (by rw [hLoop_wrong hsm]; exact hF) h1 (hk0.tr k1)
    | none =>
      have hF' : hLoop (hPlain1 bs r) n (hPlain1 bs r s) = F := by
        rw [← hF]
        show _ = if s.2.1.isSome = true then s else hLoop (hPlain1 bs r) n (hPlain1 bs r s)
        rw [if_neg (by rw [hw]; decide)]
      exact ih (k + 1) _ (hPlain1 bs r s) f1 A1 (by omega) (by omega) hF' (h1.say hPlain1_p.1 hPlain1_p.2) (hk0.tr k1)
theorem mRd_ref {Z : pZ} {pk : Nat} {bs : List Int32} {s : pS} {f : Nat → Int} {A : Nat → List Int32} {x : Nat} (h : mRd Z pk bs s (f, A)) (hn : s.2.1 = none) (hx : x ≤ bs.length) : mRd Z pk bs (refS x s) (yu f 24 x, A) := by
  have hr : refS x s = (s.1, some x, s.2.2) := if_neg (by rw [hn]; decide)
  rw [hr]
  exact ⟨h.1, h.2.1, rfl, h.2.2.2.1, h.2.2.2.2.1, (fun hc => by cases hc), (fun w hw => by cases hw; exact hx)⟩
set_option maxRecDepth 100000 in
set_option maxHeartbeats 2000000 in
theorem cm_readPlain {G : xG} {d a pk r : Nat} {x z : Int32} {xz zz : Int} {Z : pZ} {bs : List Int32} {s : pS} {f : Nat → Int} {A : Nat → List Int32} (h : mRd Z pk bs s (f, A)) (hp : pkd Z pk bs) (hn : s.2.1 = none) (hxz : xz = x.toInt) (hzz : zz = z.toInt) (hz0 : 0 ≤ z.toInt) (hz1 : z.toInt ≤ 250) : ym G (d + 2) a mX9_readPlain [.inr 0, .inl xz, .inl zz] (f, A) (fun w Y' => w = none ∧ mRd Z pk bs (hPlainPage bs r x z s) Y' ∧ fkp (f, A) Y') := by
  have hxr := i_rng x
  have h22 : f 22 = s.1 := h.2.2.2.2.2.1 hn
  have h22b : f 22 ≤ bs.length := h.2.2.2.2.1
  unfold hPlainPage
  refine ym_at 4 rfl (by decide) (Nat.le_of_ble_eq_true rfl) tX9_readPlain_ok ?_
  try simp only [List.map_cons, List.map_nil, List.length_cons, List.length_nil, ylr_s, ylr_0, Nat.reduceAdd, Nat.reduceSub, List.cons_append, List.nil_append, List.set_cons_zero, List.set_cons_succ, Option.toList_none, Option.toList_some, Int32.reduceToInt, yu, ya, reduceIte, Nat.reduceEqDiff, Int.toNat_natCast, Int.reduceToNat]
  refine ygo 99999 90 rfl rfl (by first | exact trivial | (simp only [true_and, eq_self, or_true, true_or, and_true, yu, ya, reduceIte, Nat.reduceEqDiff, Int32.reduceToInt, Int.toNat_natCast, Int.reduceToNat]; omega) | decide | (simp; done) | (simp; omega)) ?_
  try simp only [List.map_cons, List.map_nil, List.length_cons, List.length_nil, ylr_s, ylr_0, Nat.reduceAdd, Nat.reduceSub, List.cons_append, List.nil_append, List.set_cons_zero, List.set_cons_succ, Option.toList_none, Option.toList_some, Int32.reduceToInt, yu, ya, reduceIte, Nat.reduceEqDiff, Int.toNat_natCast, Int.reduceToNat]
  refine yi_icmpeq rfl (by refine ⟨?_, ?_⟩ <;> first | exact yr_t _ | exact yr_b _ | (unfold yr; omega)) (fun c => ?_) (fun c => ?_)
  · rw [hxz, hzz, ti] at c
    rw [if_pos c]
    refine ygo 16 90 rfl rfl (by first | exact trivial | (simp only [true_and, eq_self, or_true, true_or, and_true, yu, ya, reduceIte, Nat.reduceEqDiff, Int32.reduceToInt, Int.toNat_natCast, Int.reduceToNat]; omega) | decide | (simp; done) | (simp; omega)) ?_
    try simp only [List.map_cons, List.map_nil, List.length_cons, List.length_nil, ylr_s, ylr_0, Nat.reduceAdd, Nat.reduceSub, List.cons_append, List.nil_append, List.set_cons_zero, List.set_cons_succ, Option.toList_none, Option.toList_some, Int32.reduceToInt, yu, ya, reduceIte, Nat.reduceEqDiff, Int.toNat_natCast, Int.reduceToNat]
    exact l_readPlain (r := r) (m := z.toInt.toNat) hp (by omega) (by omega) z.toInt.toNat 0 0 s f A (by omega) rfl rfl h fkp.rf
  · rw [hxz, hzz, ti] at c
    rw [if_neg c]
    have hr := mRd_ref (x := s.1) h hn (by omega)
    refine ygo 99999 90 rfl rfl (by first | exact trivial | (simp only [true_and, eq_self, or_true, true_or, and_true, yu, ya, reduceIte, Nat.reduceEqDiff, Int32.reduceToInt, Int.toNat_natCast, Int.reduceToNat]; omega) | decide | (simp; done) | (simp; omega)) ?_
    try simp only [List.map_cons, List.map_nil, List.length_cons, List.length_nil, ylr_s, ylr_0, Nat.reduceAdd, Nat.reduceSub, List.cons_append, List.nil_append, List.set_cons_zero, List.set_cons_succ, Option.toList_none, Option.toList_some, Int32.reduceToInt, yu, ya, reduceIte, Nat.reduceEqDiff, Int.toNat_natCast, Int.reduceToNat]
    rw [h22]
    refine yi_ret_v rfl rfl ⟨rfl, hr, fkp.f24⟩
theorem srow_rw {s : pS} {k : Nat} {w : Int32 × Int32 × List Int32} {x : List Int32} (h : s.2.2.1.2.2.2[k]? = some w) (hk : k < 8) : rwb (srow k x s) k = x ∧ ∃ w' : Int32 × Int32 × List Int32, (srow k x s).2.2.1.2.2.2[k]? = some w' := by
  have := rset_get h x
  exact ⟨rwb_eq (s := srow k x s) this hk, _, this⟩
set_option maxRecDepth 100000 in
set_option maxHeartbeats 2000000 in
theorem l_readPairs {G : xG} {d a pk k e lr : Nat} {Z : pZ} {bs : List Int32} {x1 x2 ez : Int} {Y0 : yS} {F : pS} (hp : pkd Z pk bs) (hk8 : k < 8) (hez : ez = e) (he : e ≤ 1000) (hlr : lr ≤ 120) : ∀ (n : Nat) (lz : Int) (s : pS) (x5 : Option yv) (f : Nat → Int) (A : Nat → List Int32), (s.2.1 = none → e ≤ s.1 + n ∧ lz = (lr : Int) - (rwb s k).length ∧ (rwb s k).length ≤ lr ∧ ∃ w, s.2.2.1.2.2.2[k]? = some w) → yr lz → hLack k (nI lr) (hUntil (hPairs1 bs k e (nI lr)) e n s) = F → mRd Z pk bs s (f, A) → fkp Y0 (f, A) →
    yw G (d + 2) a mX9_readPairs 10 [some (.inr 0), some (.inl x1), some (.inl x2), some (.inl ez), some (.inl lz), x5] [] (f, A) (fun w Y' => w = none ∧ mRd Z pk bs F Y' ∧ fkp Y0 Y') := by
  obtain ⟨xp, hxp, hxb, hp16, hlb, hbb⟩ := id hp
  have done : ∀ (lz : Int) (s : pS) (x5 : Option yv) (f : Nat → Int) (A : Nat → List Int32), (s.2.1 = none → e ≤ s.1 ∧ lz = (lr : Int) - (rwb s k).length ∧ (rwb s k).length ≤ lr) → yr lz → hLack k (nI lr) s = F → mRd Z pk bs s (f, A) → fkp Y0 (f, A) → yw G (d + 2) a mX9_readPairs 87 [some (.inr 0), some (.inl x1), some (.inl x2), some (.inl ez), some (.inl lz), x5] [] (f, A) (fun w Y' => w = none ∧ mRd Z pk bs F Y' ∧ fkp Y0 Y') := by
    intro lz s x5 f A hfine hy hF h hk0
    have h24 : f 24 = oZ s.2.1 := h.2.2.1
    have h22b : f 22 ≤ bs.length := h.2.2.2.2.1
    unfold yr at hy
    cases hw : s.2.1 with
    | some w =>
      have hwl := h.2.2.2.2.2.2 w hw
      have hFs : F = s := by
        rw [← hF]
        unfold hLack
        split
        · exact refS_w (by rw [hw]; rfl)
        · rfl
      have hz : f 24 = w := by rw [h24, hw]; rfl
      rw [hFs]
      refine ygo 99999 90 rfl rfl (by first | exact trivial | (simp only [true_and, eq_self, or_true, true_or, and_true, yu, ya, reduceIte, Nat.reduceEqDiff, Int32.reduceToInt, Int.toNat_natCast, Int.reduceToNat]; omega) | decide | (simp; done) | (simp; omega)) ?_
      try simp only [List.map_cons, List.map_nil, List.length_cons, List.length_nil, ylr_s, ylr_0, Nat.reduceAdd, Nat.reduceSub, List.cons_append, List.nil_append, List.set_cons_zero, List.set_cons_succ, Option.toList_none, Option.toList_some, Int32.reduceToInt, yu, ya, reduceIte, Nat.reduceEqDiff, Int.toNat_natCast, Int.reduceToNat]
      refine yi_ifge rfl (by first | exact yr_t _ | exact yr_b _ | (unfold yr; omega)) (fun c => ?_) (fun c => ?_)
      · refine ygo 99999 90 rfl rfl (by first | exact trivial | (simp only [true_and, eq_self, or_true, true_or, and_true, yu, ya, reduceIte, Nat.reduceEqDiff, Int32.reduceToInt, Int.toNat_natCast, Int.reduceToNat]; omega) | decide | (simp; done) | (simp; omega)) ?_
        try simp only [List.map_cons, List.map_nil, List.length_cons, List.length_nil, ylr_s, ylr_0, Nat.reduceAdd, Nat.reduceSub, List.cons_append, List.nil_append, List.set_cons_zero, List.set_cons_succ, Option.toList_none, Option.toList_some, Int32.reduceToInt, yu, ya, reduceIte, Nat.reduceEqDiff, Int.toNat_natCast, Int.reduceToNat]
        refine yi_ret_v rfl rfl ⟨rfl, h, hk0⟩
      · omega
    | none =>
      have hz : f 24 = -1 := by rw [h24, hw]; rfl
      have hf := hfine hw
      have hcond : (0 < nI lr - nI (rwb s k).length) ↔ 0 < lz := by
        rw [nI_subN hf.2.2, i_lt, i_n (by omega)]
        have : (0 : Int32).toInt = 0 := rfl
        omega
      have h22 : f 22 = s.1 := h.2.2.2.2.2.1 hw
      refine ygo 99999 90 rfl rfl (by first | exact trivial | (simp only [true_and, eq_self, or_true, true_or, and_true, yu, ya, reduceIte, Nat.reduceEqDiff, Int32.reduceToInt, Int.toNat_natCast, Int.reduceToNat]; omega) | decide | (simp; done) | (simp; omega)) ?_
      try simp only [List.map_cons, List.map_nil, List.length_cons, List.length_nil, ylr_s, ylr_0, Nat.reduceAdd, Nat.reduceSub, List.cons_append, List.nil_append, List.set_cons_zero, List.set_cons_succ, Option.toList_none, Option.toList_some, Int32.reduceToInt, yu, ya, reduceIte, Nat.reduceEqDiff, Int.toNat_natCast, Int.reduceToNat]
      refine yi_ifge rfl (by first | exact yr_t _ | exact yr_b _ | (unfold yr; omega)) (fun c => ?_) (fun c => ?_)
      · omega
      refine ygo 99999 90 rfl rfl (by first | exact trivial | (simp only [true_and, eq_self, or_true, true_or, and_true, yu, ya, reduceIte, Nat.reduceEqDiff, Int32.reduceToInt, Int.toNat_natCast, Int.reduceToNat]; omega) | decide | (simp; done) | (simp; omega)) ?_
      try simp only [List.map_cons, List.map_nil, List.length_cons, List.length_nil, ylr_s, ylr_0, Nat.reduceAdd, Nat.reduceSub, List.cons_append, List.nil_append, List.set_cons_zero, List.set_cons_succ, Option.toList_none, Option.toList_some, Int32.reduceToInt, yu, ya, reduceIte, Nat.reduceEqDiff, Int.toNat_natCast, Int.reduceToNat]
      refine yi_ifle rfl (by first | exact yr_t _ | exact yr_b _ | (unfold yr; omega)) (fun c2 => ?_) (fun c2 => ?_)
      · have hFs : F = s := by
          rw [← hF]
          unfold hLack
          rw [if_neg (fun hc => by have := hcond.mp hc; omega)]
        rw [hFs]
        refine ygo 99999 90 rfl rfl (by first | exact trivial | (simp only [true_and, eq_self, or_true, true_or, and_true, yu, ya, reduceIte, Nat.reduceEqDiff, Int32.reduceToInt, Int.toNat_natCast, Int.reduceToNat]; omega) | decide | (simp; done) | (simp; omega)) ?_
        try simp only [List.map_cons, List.map_nil, List.length_cons, List.length_nil, ylr_s, ylr_0, Nat.reduceAdd, Nat.reduceSub, List.cons_append, List.nil_append, List.set_cons_zero, List.set_cons_succ, Option.toList_none, Option.toList_some, Int32.reduceToInt, yu, ya, reduceIte, Nat.reduceEqDiff, Int.toNat_natCast, Int.reduceToNat]
        refine yi_ret_v rfl rfl ⟨rfl, h, hk0⟩
      · have hFs : F = refS s.1 s := by
          rw [← hF]
          unfold hLack
          rw [if_pos (hcond.mpr (by omega))]
        have hr := mRd_ref (x := s.1) h hw (by omega)
        rw [hFs]
        refine ygo 99999 90 rfl rfl (by first | exact trivial | (simp only [true_and, eq_self, or_true, true_or, and_true, yu, ya, reduceIte, Nat.reduceEqDiff, Int32.reduceToInt, Int.toNat_natCast, Int.reduceToNat]; omega) | decide | (simp; done) | (simp; omega)) ?_
        try simp only [List.map_cons, List.map_nil, List.length_cons, List.length_nil, ylr_s, ylr_0, Nat.reduceAdd, Nat.reduceSub, List.cons_append, List.nil_append, List.set_cons_zero, List.set_cons_succ, Option.toList_none, Option.toList_some, Int32.reduceToInt, yu, ya, reduceIte, Nat.reduceEqDiff, Int.toNat_natCast, Int.reduceToNat]
        rw [h22]
        refine yi_ret_v rfl rfl ⟨rfl, hr, hk0.tr fkp.f24⟩
  intro n
  induction n with
  | zero =>
    intro lz s x5 f A hfine hy hF h hk0
    have h24 : f 24 = oZ s.2.1 := h.2.2.1
    have h22a : 0 ≤ f 22 := h.2.2.2.1
    have h22b : f 22 ≤ bs.length := h.2.2.2.2.1
    have hF' : hLack k (nI lr) s = F := hF
    have hd := done lz s x5 f A (fun hn => by have := hfine hn; exact ⟨by omega, this.2.1, this.2.2.1⟩) hy hF' h hk0
    refine ygo 99999 90 rfl rfl (by first | exact trivial | (simp only [true_and, eq_self, or_true, true_or, and_true, yu, ya, reduceIte, Nat.reduceEqDiff, Int32.reduceToInt, Int.toNat_natCast, Int.reduceToNat]; omega) | decide | (simp; done) | (simp; omega)) ?_
    try simp only [List.map_cons, List.map_nil, List.length_cons, List.length_nil, ylr_s, ylr_0, Nat.reduceAdd, Nat.reduceSub, List.cons_append, List.nil_append, List.set_cons_zero, List.set_cons_succ, Option.toList_none, Option.toList_some, Int32.reduceToInt, yu, ya, reduceIte, Nat.reduceEqDiff, Int.toNat_natCast, Int.reduceToNat]
    refine yi_icmpge rfl (by refine ⟨?_, ?_⟩ <;> first | exact yr_t _ | exact yr_b _ | (unfold yr; omega)) (fun c => ?_) (fun c => ?_)
    · exact hd
    cases hw : s.2.1 with
    | none =>
      have := hfine hw
      have h22 : f 22 = s.1 := h.2.2.2.2.2.1 hw
      omega
    | some w =>
      have hwl := h.2.2.2.2.2.2 w hw
      have hz : f 24 = w := by rw [h24, hw]; rfl
      refine ygo 99999 90 rfl rfl (by first | exact trivial | (simp only [true_and, eq_self, or_true, true_or, and_true, yu, ya, reduceIte, Nat.reduceEqDiff, Int32.reduceToInt, Int.toNat_natCast, Int.reduceToNat]; omega) | decide | (simp; done) | (simp; omega)) ?_
      try simp only [List.map_cons, List.map_nil, List.length_cons, List.length_nil, ylr_s, ylr_0, Nat.reduceAdd, Nat.reduceSub, List.cons_append, List.nil_append, List.set_cons_zero, List.set_cons_succ, Option.toList_none, Option.toList_some, Int32.reduceToInt, yu, ya, reduceIte, Nat.reduceEqDiff, Int.toNat_natCast, Int.reduceToNat]
      refine yi_ifge rfl (by first | exact yr_t _ | exact yr_b _ | (unfold yr; omega)) (fun c2 => ?_) (fun c2 => ?_)
      · exact hd
      · omega
  | succ n ih =>
    intro lz s x5 f A hfine hy hF h hk0
    have h24 : f 24 = oZ s.2.1 := h.2.2.1
    have h22a : 0 ≤ f 22 := h.2.2.2.1
    have h22b : f 22 ≤ bs.length := h.2.2.2.2.1
    have hU : hUntil (hPairs1 bs k e (nI lr)) e (n + 1) s = if e ≤ s.1 ∨ s.2.1.isSome = true then s else hUntil (hPairs1 bs k e (nI lr)) e n (hPairs1 bs k e (nI lr) s) := rfl
    rw [hU] at hF
    cases hw : s.2.1 with
    | some w =>
      have hwl := h.2.2.2.2.2.2 w hw
      have hz : f 24 = w := by rw [h24, hw]; rfl
      rw [if_pos (Or.inr (by rw [hw]; rfl))] at hF
      have hd := done lz s x5 f A (fun hn => by rw [hw] at hn; cases hn) hy hF h hk0
      refine ygo 99999 90 rfl rfl (by first | exact trivial | (simp only [true_and, eq_self, or_true, true_or, and_true, yu, ya, reduceIte, Nat.reduceEqDiff, Int32.reduceToInt, Int.toNat_natCast, Int.reduceToNat]; omega) | decide | (simp; done) | (simp; omega)) ?_
      try simp only [List.map_cons, List.map_nil, List.length_cons, List.length_nil, ylr_s, ylr_0, Nat.reduceAdd, Nat.reduceSub, List.cons_append, List.nil_append, List.set_cons_zero, List.set_cons_succ, Option.toList_none, Option.toList_some, Int32.reduceToInt, yu, ya, reduceIte, Nat.reduceEqDiff, Int.toNat_natCast, Int.reduceToNat]
      refine yi_icmpge rfl (by refine ⟨?_, ?_⟩ <;> first | exact yr_t _ | exact yr_b _ | (unfold yr; omega)) (fun c => ?_) (fun c => ?_)
      · exact hd
      refine ygo 99999 90 rfl rfl (by first | exact trivial | (simp only [true_and, eq_self, or_true, true_or, and_true, yu, ya, reduceIte, Nat.reduceEqDiff, Int32.reduceToInt, Int.toNat_natCast, Int.reduceToNat]; omega) | decide | (simp; done) | (simp; omega)) ?_
      try simp only [List.map_cons, List.map_nil, List.length_cons, List.length_nil, ylr_s, ylr_0, Nat.reduceAdd, Nat.reduceSub, List.cons_append, List.nil_append, List.set_cons_zero, List.set_cons_succ, Option.toList_none, Option.toList_some, Int32.reduceToInt, yu, ya, reduceIte, Nat.reduceEqDiff, Int.toNat_natCast, Int.reduceToNat]
      refine yi_ifge rfl (by first | exact yr_t _ | exact yr_b _ | (unfold yr; omega)) (fun c2 => ?_) (fun c2 => ?_)
      · exact hd
      · omega
    | none =>
      have hf := hfine hw
      have hz : f 24 = -1 := by rw [h24, hw]; rfl
      have h22 : f 22 = s.1 := h.2.2.2.2.2.1 hw
      by_cases hes : e ≤ s.1
      · rw [if_pos (Or.inl hes)] at hF
        have hd := done lz s x5 f A (fun hn => ⟨hes, hf.2.1, hf.2.2.1⟩) hy hF h hk0
        refine ygo 99999 90 rfl rfl (by first | exact trivial | (simp only [true_and, eq_self, or_true, true_or, and_true, yu, ya, reduceIte, Nat.reduceEqDiff, Int32.reduceToInt, Int.toNat_natCast, Int.reduceToNat]; omega) | decide | (simp; done) | (simp; omega)) ?_
        try simp only [List.map_cons, List.map_nil, List.length_cons, List.length_nil, ylr_s, ylr_0, Nat.reduceAdd, Nat.reduceSub, List.cons_append, List.nil_append, List.set_cons_zero, List.set_cons_succ, Option.toList_none, Option.toList_some, Int32.reduceToInt, yu, ya, reduceIte, Nat.reduceEqDiff, Int.toNat_natCast, Int.reduceToNat]
        refine yi_icmpge rfl (by refine ⟨?_, ?_⟩ <;> first | exact yr_t _ | exact yr_b _ | (unfold yr; omega)) (fun c => ?_) (fun c => ?_)
        · exact hd
        · omega
      · rw [if_neg (by rw [hw]; intro hc; rcases hc with hc | hc; exact hes hc; cases hc)] at hF
        obtain ⟨w, hwk⟩ := hf.2.2.2
        have hlen0 : (rwb s k).length ≤ 120 := by omega
        generalize hhi : (if s.1 + 1 = e then (0 : Int32) else nI lr - nI (rwb s k).length) = hi
        have hP1 : hPairs1 bs k e (nI lr) s = if (nxt bs 0 255 (nxt bs 1 hi s).2).2.2.1.isSome then (nxt bs 0 255 (nxt bs 1 hi s).2).2 else srow k (rwb s k ++ List.replicate (nxt bs 1 hi s).1.toInt.toNat (nxt bs 0 255 (nxt bs 1 hi s).2).1) (nxt bs 0 255 (nxt bs 1 hi s).2).2 := by
          unfold hPairs1
          rw [hhi]
        have hhiz : hi.toInt = if s.1 + 1 = e then 0 else lz := by
          rw [← hhi]
          split
          · rfl
          · rw [nI_subN hf.2.2.1, i_n (by omega)]; omega
        have hlz : 0 ≤ lz ∧ lz ≤ 120 := by omega
        have go : ∀ (oz : Int) (f1 : Nat → Int) (A1 : Nat → List Int32), mRd Z pk bs (nxt bs 1 hi s).2 (f1, A1) → fkp Y0 (f1, A1) → ((nxt bs 1 hi s).2.2.1 = none → oz = (nxt bs 1 hi s).1.toInt) → -1 ≤ oz → oz ≤ 255 → yw G (d + 2) a mX9_readPairs 70 [some (.inr 0), some (.inl x1), some (.inl x2), some (.inl ez), some (.inl lz), some (.inl oz)] [.inr 0] (f1, A1) (fun w Y' => w = none ∧ mRd Z pk bs F Y' ∧ fkp Y0 Y') := by
          intro oz f1 A1 h1 k1 hoz ho1 ho2
          refine ygo 99999 90 rfl rfl (by first | exact trivial | (simp only [true_and, eq_self, or_true, true_or, and_true, yu, ya, reduceIte, Nat.reduceEqDiff, Int32.reduceToInt, Int.toNat_natCast, Int.reduceToNat]; omega) | decide | (simp; done) | (simp; omega)) ?_
          try simp only [List.map_cons, List.map_nil, List.length_cons, List.length_nil, ylr_s, ylr_0, Nat.reduceAdd, Nat.reduceSub, List.cons_append, List.nil_append, List.set_cons_zero, List.set_cons_succ, Option.toList_none, Option.toList_some, Int32.reduceToInt, yu, ya, reduceIte, Nat.reduceEqDiff, Int.toNat_natCast, Int.reduceToNat]
          refine ycV rfl rfl rfl (cm_want (most := 255) h1 hp rfl (by decide)) rfl kX9_want iX9_want rfl rfl rfl (Nat.le_of_ble_eq_true rfl) (fun v2 Y2 q2 => ?_)
          obtain ⟨rfl, h2, k2⟩ := q2
          obtain ⟨f2, A2⟩ := Y2
          have hm : mRd Z pk bs (hPairs1 bs k e (nI lr) s) (f2, A2) := by
            rw [hP1]
            split
            · exact h2
            · exact h2.say rfl rfl
          refine ygo 10 90 rfl rfl (by first | exact trivial | (simp only [true_and, eq_self, or_true, true_or, and_true, yu, ya, reduceIte, Nat.reduceEqDiff, Int32.reduceToInt, Int.toNat_natCast, Int.reduceToNat]; omega) | decide | (simp; done) | (simp; omega)) ?_
          try simp only [List.map_cons, List.map_nil, List.length_cons, List.length_nil, ylr_s, ylr_0, Nat.reduceAdd, Nat.reduceSub, List.cons_append, List.nil_append, List.set_cons_zero, List.set_cons_succ, Option.toList_none, Option.toList_some, Int32.reduceToInt, yu, ya, reduceIte, Nat.reduceEqDiff, Int.toNat_natCast, Int.reduceToNat]
          refine ih _ (hPairs1 bs k e (nI lr) s) _ f2 A2 (fun hn => ?_) (by unfold yr; omega) hF hm (k1.tr k2)
          have hyf : (nxt bs 0 255 (nxt bs 1 hi s).2).2.2.1 = none := by
            rw [hP1] at hn
            split at hn
            next hc => exact hn
            next hc => exact isN (by simpa using hc)
          rw [hP1, if_neg (by rw [hyf]; decide)]
          have b1 := nxt_get hyf
          have b2 := nxt_get b1.1
          have hoz' := hoz b1.1
          have hr := b2.2.2.2
          rw [i_le, i_le, hhiz] at hr
          have z1 : (1 : Int32).toInt = 1 := rfl
          have hne : ¬ s.1 + 1 = e := by
            intro hc
            rw [if_pos hc] at hr
            omega
          rw [if_neg hne] at hr
          have hw2 : (nxt bs 0 255 (nxt bs 1 hi s).2).2.2.2.1.2.2.2[k]? = some w := by rw [nxt_rest, nxt_rest]; exact hwk
          have hsr := srow_rw (x := rwb s k ++ List.replicate (nxt bs 1 hi s).1.toInt.toNat (nxt bs 0 255 (nxt bs 1 hi s).2).1) hw2 hk8
          rw [hsr.1]
          have hst : (srow k (rwb s k ++ List.replicate (nxt bs 1 hi s).1.toInt.toNat (nxt bs 0 255 (nxt bs 1 hi s).2).1) (nxt bs 0 255 (nxt bs 1 hi s).2).2).1 = s.1 + 2 := by
            show (nxt bs 0 255 (nxt bs 1 hi s).2).2.1 = s.1 + 2
            rw [b1.2.2.1, b2.2.2.1]
          rw [hst, List.length_append, List.length_replicate]
          exact ⟨by omega, by omega, by omega, hsr.2⟩
        refine ygo 99999 90 rfl rfl (by first | exact trivial | (simp only [true_and, eq_self, or_true, true_or, and_true, yu, ya, reduceIte, Nat.reduceEqDiff, Int32.reduceToInt, Int.toNat_natCast, Int.reduceToNat]; omega) | decide | (simp; done) | (simp; omega)) ?_
        try simp only [List.map_cons, List.map_nil, List.length_cons, List.length_nil, ylr_s, ylr_0, Nat.reduceAdd, Nat.reduceSub, List.cons_append, List.nil_append, List.set_cons_zero, List.set_cons_succ, Option.toList_none, Option.toList_some, Int32.reduceToInt, yu, ya, reduceIte, Nat.reduceEqDiff, Int.toNat_natCast, Int.reduceToNat]
        refine yi_icmpge rfl (by refine ⟨?_, ?_⟩ <;> first | exact yr_t _ | exact yr_b _ | (unfold yr; omega)) (fun c => ?_) (fun c => ?_)
        · omega
        refine ygo 99999 90 rfl rfl (by first | exact trivial | (simp only [true_and, eq_self, or_true, true_or, and_true, yu, ya, reduceIte, Nat.reduceEqDiff, Int32.reduceToInt, Int.toNat_natCast, Int.reduceToNat]; omega) | decide | (simp; done) | (simp; omega)) ?_
        try simp only [List.map_cons, List.map_nil, List.length_cons, List.length_nil, ylr_s, ylr_0, Nat.reduceAdd, Nat.reduceSub, List.cons_append, List.nil_append, List.set_cons_zero, List.set_cons_succ, Option.toList_none, Option.toList_some, Int32.reduceToInt, yu, ya, reduceIte, Nat.reduceEqDiff, Int.toNat_natCast, Int.reduceToNat]
        refine yi_ifge rfl (by first | exact yr_t _ | exact yr_b _ | (unfold yr; omega)) (fun c2 => ?_) (fun c2 => ?_)
        · omega
        refine ygo 99999 90 rfl rfl (by first | exact trivial | (simp only [true_and, eq_self, or_true, true_or, and_true, yu, ya, reduceIte, Nat.reduceEqDiff, Int32.reduceToInt, Int.toNat_natCast, Int.reduceToNat]; omega) | decide | (simp; done) | (simp; omega)) ?_
        try simp only [List.map_cons, List.map_nil, List.length_cons, List.length_nil, ylr_s, ylr_0, Nat.reduceAdd, Nat.reduceSub, List.cons_append, List.nil_append, List.set_cons_zero, List.set_cons_succ, Option.toList_none, Option.toList_some, Int32.reduceToInt, yu, ya, reduceIte, Nat.reduceEqDiff, Int.toNat_natCast, Int.reduceToNat]
        refine ycV rfl rfl rfl (cm_want (most := 255) h hp rfl (by decide)) rfl kX9_want iX9_want rfl rfl rfl (Nat.le_of_ble_eq_true rfl) (fun v1 Y1 q1 => ?_)
        obtain ⟨rfl, h1, k1⟩ := q1
        obtain ⟨f1, A1⟩ := Y1
        have z1 : (1 : Int32).toInt = 1 := rfl
        have z255 : (255 : Int32).toInt = 255 := rfl
        cases hb : bs[s.1]? with
        | none =>
          have hg1 : bs.getD s.1 (-1) = -1 := by rw [List.getD_eq_getElem?_getD, hb]; rfl
          have e1 : nxt bs 0 255 s = (0, s.1, some s.1, s.2.2) := by
            unfold nxt
            rw [if_neg (by rw [hw]; decide), if_pos (Or.inl hg1)]
          have e2 : nxt bs 1 hi s = (1, s.1, some s.1, s.2.2) := by
            unfold nxt
            rw [if_neg (by rw [hw]; decide), if_pos (Or.inl hg1)]
          have hwv : wv (nxt bs 0 255 s) = -1 := by rw [e1]; rfl
          rw [e1] at h1
          rw [hwv]
          refine ygo 99999 90 rfl rfl (by first | exact trivial | (simp only [true_and, eq_self, or_true, true_or, and_true, yu, ya, reduceIte, Nat.reduceEqDiff, Int32.reduceToInt, Int.toNat_natCast, Int.reduceToNat]; omega) | decide | (simp; done) | (simp; omega)) ?_
          try simp only [List.map_cons, List.map_nil, List.length_cons, List.length_nil, ylr_s, ylr_0, Nat.reduceAdd, Nat.reduceSub, List.cons_append, List.nil_append, List.set_cons_zero, List.set_cons_succ, Option.toList_none, Option.toList_some, Int32.reduceToInt, yu, ya, reduceIte, Nat.reduceEqDiff, Int.toNat_natCast, Int.reduceToNat]
          refine yi_ifeq rfl (by first | exact yr_t _ | exact yr_b _ | (unfold yr; omega)) (fun c3 => ?_) (fun c3 => ?_)
          · omega
          refine ygo 99999 90 rfl rfl (by first | exact trivial | (simp only [true_and, eq_self, or_true, true_or, and_true, yu, ya, reduceIte, Nat.reduceEqDiff, Int32.reduceToInt, Int.toNat_natCast, Int.reduceToNat]; omega) | decide | (simp; done) | (simp; omega)) ?_
          try simp only [List.map_cons, List.map_nil, List.length_cons, List.length_nil, ylr_s, ylr_0, Nat.reduceAdd, Nat.reduceSub, List.cons_append, List.nil_append, List.set_cons_zero, List.set_cons_succ, Option.toList_none, Option.toList_some, Int32.reduceToInt, yu, ya, reduceIte, Nat.reduceEqDiff, Int.toNat_natCast, Int.reduceToNat]
          refine yi_icmpgt rfl (by refine ⟨?_, ?_⟩ <;> first | exact yr_t _ | exact yr_b _ | (unfold yr; omega)) (fun c4 => ?_) (fun c4 => ?_)
          · omega
          refine ygo 99999 90 rfl rfl (by first | exact trivial | (simp only [true_and, eq_self, or_true, true_or, and_true, yu, ya, reduceIte, Nat.reduceEqDiff, Int32.reduceToInt, Int.toNat_natCast, Int.reduceToNat]; omega) | decide | (simp; done) | (simp; omega)) ?_
          try simp only [List.map_cons, List.map_nil, List.length_cons, List.length_nil, ylr_s, ylr_0, Nat.reduceAdd, Nat.reduceSub, List.cons_append, List.nil_append, List.set_cons_zero, List.set_cons_succ, Option.toList_none, Option.toList_some, Int32.reduceToInt, yu, ya, reduceIte, Nat.reduceEqDiff, Int.toNat_natCast, Int.reduceToNat]
          refine yi_iflt rfl (by first | exact yr_t _ | exact yr_b _ | (unfold yr; omega)) (fun c5 => ?_) (fun c5 => ?_)
          · refine ygo 70 90 rfl rfl (by first | exact trivial | (simp only [true_and, eq_self, or_true, true_or, and_true, yu, ya, reduceIte, Nat.reduceEqDiff, Int32.reduceToInt, Int.toNat_natCast, Int.reduceToNat]; omega) | decide | (simp; done) | (simp; omega)) ?_
            try simp only [List.map_cons, List.map_nil, List.length_cons, List.length_nil, ylr_s, ylr_0, Nat.reduceAdd, Nat.reduceSub, List.cons_append, List.nil_append, List.set_cons_zero, List.set_cons_succ, Option.toList_none, Option.toList_some, Int32.reduceToInt, yu, ya, reduceIte, Nat.reduceEqDiff, Int.toNat_natCast, Int.reduceToNat]
            exact go _ f1 A1 (by rw [e2]; exact h1) (hk0.tr k1) (fun hc => by rw [e2] at hc; cases hc) (by omega) (by omega)
          · omega
        | some b =>
          have hbl := hbb b (List.mem_of_getElem? hb)
          have hsl := (List.getElem?_eq_some_iff.mp hb).1
          have hbne : ¬ b = -1 := by
            intro hc
            rw [hc] at hbl
            have : (-1 : Int32).toInt = -1 := rfl
            omega
          have z0 : (0 : Int32).toInt = 0 := rfl
          have e1 : nxt bs 0 255 s = (b, s.1 + 1, s.2.1, s.2.2) := by
            unfold nxt
            rw [if_neg (by rw [hw]; decide), getD_s hb, if_neg (by rw [i_lt, i_lt]; intro hc; rcases hc with hc | hc | hc; exact hbne hc; omega; omega)]
          have hwv : wv (nxt bs 0 255 s) = b.toInt := by rw [e1]; unfold wv; rw [hw]; rfl
          rw [e1] at h1
          have e22 : f1 22 = (s.1 : Int) + 1 := by
            have := h1.2.2.2.2.2.1 hw
            dsimp only at this
            rw [this]; rfl
          rw [hwv]
          have bad : (b.toInt < 1 ∨ hi.toInt < b.toInt) → yw G (d + 2) a mX9_readPairs 59 [some (.inr 0), some (.inl x1), some (.inl x2), some (.inl ez), some (.inl lz), some (.inl b.toInt)] [] (f1, A1) (fun w Y' => w = none ∧ mRd Z pk bs F Y' ∧ fkp Y0 Y') := by
            intro hbad
            have e2 : nxt bs 1 hi s = (1, s.1, some s.1, s.2.2) := by
              unfold nxt
              rw [if_neg (by rw [hw]; decide), getD_s hb, if_pos (by right; rw [i_lt, i_lt, z1]; exact hbad)]
            have hr := mRd_ref (x := s.1) h1 hw (by omega)
            have hi1 : f1 22 - 1 = s.1 := by omega
            refine ygo 70 90 rfl rfl (by first | exact trivial | (simp only [true_and, eq_self, or_true, true_or, and_true, yu, ya, reduceIte, Nat.reduceEqDiff, Int32.reduceToInt, Int.toNat_natCast, Int.reduceToNat]; omega) | decide | (simp; done) | (simp; omega)) ?_
            try simp only [List.map_cons, List.map_nil, List.length_cons, List.length_nil, ylr_s, ylr_0, Nat.reduceAdd, Nat.reduceSub, List.cons_append, List.nil_append, List.set_cons_zero, List.set_cons_succ, Option.toList_none, Option.toList_some, Int32.reduceToInt, yu, ya, reduceIte, Nat.reduceEqDiff, Int.toNat_natCast, Int.reduceToNat]
            rw [hi1]
            refine go b.toInt _ _ (by rw [e2]; exact ⟨hr.1, hr.2.1, rfl, hr.2.2.2.1, hr.2.2.2.2.1, (fun hc => by cases hc), (fun w hw => by cases hw <;> omega)⟩) ((hk0.tr k1).tr fkp.f24) (fun hc => by rw [e2] at hc; cases hc) (by omega) (by omega)
          refine ygo 99999 90 rfl rfl (by first | exact trivial | (simp only [true_and, eq_self, or_true, true_or, and_true, yu, ya, reduceIte, Nat.reduceEqDiff, Int32.reduceToInt, Int.toNat_natCast, Int.reduceToNat]; omega) | decide | (simp; done) | (simp; omega)) ?_
          try simp only [List.map_cons, List.map_nil, List.length_cons, List.length_nil, ylr_s, ylr_0, Nat.reduceAdd, Nat.reduceSub, List.cons_append, List.nil_append, List.set_cons_zero, List.set_cons_succ, Option.toList_none, Option.toList_some, Int32.reduceToInt, yu, ya, reduceIte, Nat.reduceEqDiff, Int.toNat_natCast, Int.reduceToNat]
          refine yi_ifeq rfl (by first | exact yr_t _ | exact yr_b _ | (unfold yr; omega)) (fun c3 => ?_) (fun c3 => ?_)
          · exact bad (by omega)
          refine ygo 99999 90 rfl rfl (by first | exact trivial | (simp only [true_and, eq_self, or_true, true_or, and_true, yu, ya, reduceIte, Nat.reduceEqDiff, Int32.reduceToInt, Int.toNat_natCast, Int.reduceToNat]; omega) | decide | (simp; done) | (simp; omega)) ?_
          try simp only [List.map_cons, List.map_nil, List.length_cons, List.length_nil, ylr_s, ylr_0, Nat.reduceAdd, Nat.reduceSub, List.cons_append, List.nil_append, List.set_cons_zero, List.set_cons_succ, Option.toList_none, Option.toList_some, Int32.reduceToInt, yu, ya, reduceIte, Nat.reduceEqDiff, Int.toNat_natCast, Int.reduceToNat]
          refine yi_icmpgt rfl (by refine ⟨?_, ?_⟩ <;> first | exact yr_t _ | exact yr_b _ | (unfold yr; omega)) (fun c4 => ?_) (fun c4 => ?_)
          · refine bad ?_
            rw [hhiz]
            split <;> omega
          refine ygo 99999 90 rfl rfl (by first | exact trivial | (simp only [true_and, eq_self, or_true, true_or, and_true, yu, ya, reduceIte, Nat.reduceEqDiff, Int32.reduceToInt, Int.toNat_natCast, Int.reduceToNat]; omega) | decide | (simp; done) | (simp; omega)) ?_
          try simp only [List.map_cons, List.map_nil, List.length_cons, List.length_nil, ylr_s, ylr_0, Nat.reduceAdd, Nat.reduceSub, List.cons_append, List.nil_append, List.set_cons_zero, List.set_cons_succ, Option.toList_none, Option.toList_some, Int32.reduceToInt, yu, ya, reduceIte, Nat.reduceEqDiff, Int.toNat_natCast, Int.reduceToNat]
          refine yi_iflt rfl (by first | exact yr_t _ | exact yr_b _ | (unfold yr; omega)) (fun c5 => ?_) (fun c5 => ?_)
          · omega
          refine ygo 99999 90 rfl rfl (by first | exact trivial | (simp only [true_and, eq_self, or_true, true_or, and_true, yu, ya, reduceIte, Nat.reduceEqDiff, Int32.reduceToInt, Int.toNat_natCast, Int.reduceToNat]; omega) | decide | (simp; done) | (simp; omega)) ?_
          try simp only [List.map_cons, List.map_nil, List.length_cons, List.length_nil, ylr_s, ylr_0, Nat.reduceAdd, Nat.reduceSub, List.cons_append, List.nil_append, List.set_cons_zero, List.set_cons_succ, Option.toList_none, Option.toList_some, Int32.reduceToInt, yu, ya, reduceIte, Nat.reduceEqDiff, Int.toNat_natCast, Int.reduceToNat]
          refine yi_icmpne rfl (by refine ⟨?_, ?_⟩ <;> first | exact yr_t _ | exact yr_b _ | (unfold yr; omega)) (fun c6 => ?_) (fun c6 => ?_)
          · have hne : ¬ s.1 + 1 = e := by omega
            rw [if_neg hne] at hhiz
            have e2 : nxt bs 1 hi s = (b, s.1 + 1, s.2.1, s.2.2) := by
              unfold nxt
              rw [if_neg (by rw [hw]; decide), getD_s hb, if_neg (by rw [i_lt, i_lt, z1]; intro hc; rcases hc with hc | hc | hc; exact hbne hc; omega; omega)]
            refine ygo 70 90 rfl rfl (by first | exact trivial | (simp only [true_and, eq_self, or_true, true_or, and_true, yu, ya, reduceIte, Nat.reduceEqDiff, Int32.reduceToInt, Int.toNat_natCast, Int.reduceToNat]; omega) | decide | (simp; done) | (simp; omega)) ?_
            try simp only [List.map_cons, List.map_nil, List.length_cons, List.length_nil, ylr_s, ylr_0, Nat.reduceAdd, Nat.reduceSub, List.cons_append, List.nil_append, List.set_cons_zero, List.set_cons_succ, Option.toList_none, Option.toList_some, Int32.reduceToInt, yu, ya, reduceIte, Nat.reduceEqDiff, Int.toNat_natCast, Int.reduceToNat]
            exact go _ f1 A1 (by rw [e2]; exact h1) (hk0.tr k1) (fun _ => by rw [e2]) (by omega) (by omega)
          · refine bad ?_
            rw [hhiz, if_pos (by omega)]
            omega
theorem rwN {s : pS} {k : Nat} (h : ∃ w : Int32 × Int32 × List Int32, s.2.2.1.2.2.2[k]? = some w ∧ w.2.2.length = 0) (hk : k < 8) : (rwb s k).length = 0 := by
  obtain ⟨w, h1, h2⟩ := h
  rw [rwb_eq h1 hk]; exact h2
set_option maxRecDepth 100000 in
set_option maxHeartbeats 2000000 in
theorem cm_readPairs {G : xG} {d a pk k lr z : Nat} {Z : pZ} {bs : List Int32} {s : pS} {xz zz : Int} {f : Nat → Int} {A : Nat → List Int32} (h : mRd Z pk bs s (f, A)) (hp : pkd Z pk bs) (hn : s.2.1 = none) (hxz : xz = lr) (hzz : zz = z) (hz : z ≤ 250) (hk8 : k < 8) (hlr : lr ≤ 120) (hw : ∃ w : Int32 × Int32 × List Int32, s.2.2.1.2.2.2[k]? = some w ∧ w.2.2.length = 0) : ym G (d + 2) a mX9_readPairs [.inr 0, .inl xz, .inl zz] (f, A) (fun w Y' => w = none ∧ mRd Z pk bs (hPairs bs k z (nI lr) s) Y' ∧ fkp (f, A) Y') := by
  have h22 : f 22 = s.1 := h.2.2.2.2.2.1 hn
  have h22b : f 22 ≤ bs.length := h.2.2.2.2.1
  obtain ⟨xp, hxp, hxb, hp16, hlb, hbb⟩ := id hp
  have h0 := rwN hw hk8
  obtain ⟨w, hw1, hw2⟩ := hw
  unfold hPairs
  refine ym_at 6 rfl (by decide) (Nat.le_of_ble_eq_true rfl) tX9_readPairs_ok ?_
  try simp only [List.map_cons, List.map_nil, List.length_cons, List.length_nil, ylr_s, ylr_0, Nat.reduceAdd, Nat.reduceSub, List.cons_append, List.nil_append, List.set_cons_zero, List.set_cons_succ, Option.toList_none, Option.toList_some, Int32.reduceToInt, yu, ya, reduceIte, Nat.reduceEqDiff, Int.toNat_natCast, Int.reduceToNat]
  refine ygo 10 90 rfl rfl (by first | exact trivial | (simp only [true_and, eq_self, or_true, true_or, and_true, yu, ya, reduceIte, Nat.reduceEqDiff, Int32.reduceToInt, Int.toNat_natCast, Int.reduceToNat]; omega) | decide | (simp; done) | (simp; omega)) ?_
  try simp only [List.map_cons, List.map_nil, List.length_cons, List.length_nil, ylr_s, ylr_0, Nat.reduceAdd, Nat.reduceSub, List.cons_append, List.nil_append, List.set_cons_zero, List.set_cons_succ, Option.toList_none, Option.toList_some, Int32.reduceToInt, yu, ya, reduceIte, Nat.reduceEqDiff, Int.toNat_natCast, Int.reduceToNat]
  exact l_readPairs hp hk8 (e := s.1 + z) (by rw [h22, hzz]; push_cast; rfl) (by omega) hlr 250 xz s none f A (fun _ => ⟨by omega, by omega, by omega, w, hw1⟩) (by unfold yr; omega) rfl h fkp.rf
