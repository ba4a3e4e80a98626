theorem hNeed_t {bs : List Int32} {s : pS} : (hNeed bs s).2.2.1.1 = s.2.2.1.1 ∧ (hNeed bs s).2.2.1.2.2 = s.2.2.1.2.2 ∧ (hNeed bs s).2.2.2 = s.2.2.2 := by
  unfold hNeed
  dsimp only
  rw [nxt_rest, nxt_rest, refif_rest, nxt_rest]
  exact ⟨rfl, rfl, rfl⟩
theorem hSeal_t {bs : List Int32} {s : pS} : (hSeal bs s).2.2.1.1 = s.2.2.1.1 ∧ (hSeal bs s).2.2.1.2.1 = s.2.2.1.2.1 ∧ (hSeal bs s).2.2.1.2.2.2 = s.2.2.1.2.2.2 ∧ (hSeal bs s).2.2.2 = s.2.2.2 := by
  unfold hSeal
  dsimp only
  rw [refif_rest, nxt_rest]
  exact ⟨rfl, rfl, rfl, rfl⟩
theorem hRow_t {bs : List Int32} {s : pS} : (hRow bs s).2.2.1.1 = s.2.2.1.1 ∧ (hRow bs s).2.2.1.2.1 = s.2.2.1.2.1 ∧ (hRow bs s).2.2.1.2.2.1 = s.2.2.1.2.2.1 := by
  unfold hRow
  dsimp only
  rw [hPair_rest]
  dsimp only
  rw [hPair_rest]
  dsimp only
  rw [nxt_rest, refif_rest, nxt_rest]
  exact ⟨rfl, rfl, rfl⟩
theorem hNeeds_t {bs : List Int32} {s : pS} : (hNeeds bs s).2.2.1.1 = s.2.2.1.1 ∧ (hNeeds bs s).2.2.1.2.2 = s.2.2.1.2.2 ∧ (hNeeds bs s).2.2.2 = s.2.2.2 := by
  unfold hNeeds
  refine ⟨?_, ?_, ?_⟩
  · rw [hLoop_inv (fun s : pS => s.2.2.1.1) (fun s => hNeed_t.1), nxt_rest]
  · rw [hLoop_inv (fun s : pS => s.2.2.1.2.2) (fun s => hNeed_t.2.1), nxt_rest]
  · rw [hLoop_inv (fun s : pS => s.2.2.2) (fun s => hNeed_t.2.2), nxt_rest]
theorem hSeals_t {bs : List Int32} {s : pS} : (hSeals bs s).2.2.1.1 = s.2.2.1.1 ∧ (hSeals bs s).2.2.1.2.1 = s.2.2.1.2.1 ∧ (hSeals bs s).2.2.1.2.2.2 = s.2.2.1.2.2.2 ∧ (hSeals bs s).2.2.2 = s.2.2.2 := by
  unfold hSeals
  refine ⟨?_, ?_, ?_, ?_⟩
  · rw [hLoop_inv (fun s : pS => s.2.2.1.1) (fun s => hSeal_t.1), nxt_rest]
  · rw [hLoop_inv (fun s : pS => s.2.2.1.2.1) (fun s => hSeal_t.2.1), nxt_rest]
  · rw [hLoop_inv (fun s : pS => s.2.2.1.2.2.2) (fun s => hSeal_t.2.2.1), nxt_rest]
  · rw [hLoop_inv (fun s : pS => s.2.2.2) (fun s => hSeal_t.2.2.2), nxt_rest]
theorem hRows_t {bs : List Int32} {s : pS} : (hRows bs s).2.2.1.1 = s.2.2.1.1 ∧ (hRows bs s).2.2.1.2.1 = s.2.2.1.2.1 ∧ (hRows bs s).2.2.1.2.2.1 = s.2.2.1.2.2.1 := by
  unfold hRows
  refine ⟨?_, ?_, ?_⟩
  · rw [hLoop_inv (fun s : pS => s.2.2.1.1) (fun s => hRow_t.1), nxt_rest]
  · rw [hLoop_inv (fun s : pS => s.2.2.1.2.1) (fun s => hRow_t.2.1), nxt_rest]
  · rw [hLoop_inv (fun s : pS => s.2.2.1.2.2.1) (fun s => hRow_t.2.2), nxt_rest]
theorem hLoop_fine {g : pS → pS} (hg : ∀ s, (g s).2.1 = none → s.2.1 = none) : ∀ (n : Nat) (s : pS), (hLoop g n s).2.1 = none → s.2.1 = none
  | 0, s, h => h
  | n + 1, s, h => by
    unfold hLoop at h
    split at h
    · exact h
    · exact hg s (hLoop_fine hg n (g s) h)
theorem yr_w {bs : List Int32} {most : Int32} {s : pS} (hm : 0 ≤ most.toInt) : -1 ≤ wv (nxt bs 0 most s) ∧ wv (nxt bs 0 most s) ≤ most.toInt := by
  have hr := nxt_rng (bs := bs) (lo := 0) (hi := most) (s := s) (by rw [i_le]; exact hm)
  rw [i_le, i_le] at hr
  have z0 : (0 : Int32).toInt = 0 := rfl
  unfold wv
  split <;> omega
set_option maxRecDepth 100000 in
set_option maxHeartbeats 2000000 in
theorem cm_readHead {G : xG} {d a pk : Nat} {Z : pZ} {bs : List Int32} {s : pS} {f : Nat → Int} {A : Nat → List Int32} (h : mRd Z pk bs s (f, A)) (hp : pkd Z pk bs) (h0 : s.1 = 0) (hnd : s.2.2.1.2 = ([], [], [])) (l1 : s.2.2.2.1.length = 8) (l2 : s.2.2.2.2.length = 8) : ym G (d + 3) a mX9_readHead [.inr 0] (f, A) (fun w Y' => w = none ∧ mRd Z pk bs (hRows bs (hSeals bs (hNeeds bs (hTitle bs s)))) Y' ∧ fkh (f, A) Y' ∧ ((hRows bs (hSeals bs (hNeeds bs (hTitle bs s)))).2.1 = none → HD bs (hRows bs (hSeals bs (hNeeds bs (hTitle bs s)))) Y'.1) ∧ -1 ≤ Y'.1 27 ∧ Y'.1 27 ≤ 8) := by
  obtain ⟨xp, hxp, hxb, hp16, hlb, hbb⟩ := id hp
  refine ym_at 3 rfl (by decide) (Nat.le_of_ble_eq_true rfl) tX9_readHead_ok ?_
  try simp only [List.map_cons, List.map_nil, List.length_cons, List.length_nil, ylr_s, ylr_0, Nat.reduceAdd, Nat.reduceSub, List.cons_append, List.nil_append, List.set_cons_zero, List.set_cons_succ, Option.toList_none, Option.toList_some, Int32.reduceToInt, yu, ya, reduceIte, Nat.reduceEqDiff, Int.toNat_natCast, Int.reduceToNat]
  refine ygo 99999 90 rfl rfl (by first | exact trivial | (simp only [true_and, eq_self, or_true, true_or, and_true, yu, ya, reduceIte, Nat.reduceEqDiff, Int32.reduceToInt, Int.toNat_natCast, Int.reduceToNat]; omega) | decide | (simp; done) | (simp; omega)) ?_
  try simp only [List.map_cons, List.map_nil, List.length_cons, List.length_nil, ylr_s, ylr_0, Nat.reduceAdd, Nat.reduceSub, List.cons_append, List.nil_append, List.set_cons_zero, List.set_cons_succ, Option.toList_none, Option.toList_some, Int32.reduceToInt, yu, ya, reduceIte, Nat.reduceEqDiff, Int.toNat_natCast, Int.reduceToNat]
  refine ycV rfl rfl rfl (cm_exactly (v := 80) h hp rfl (by decide)) rfl kX9_exactly iX9_exactly rfl rfl rfl (Nat.le_of_ble_eq_true rfl) (fun v1 Y1 q1 => ?_)
  obtain ⟨rfl, h1, k1⟩ := q1
  obtain ⟨f1, A1⟩ := Y1
  refine ygo 99999 90 rfl rfl (by first | exact trivial | (simp only [true_and, eq_self, or_true, true_or, and_true, yu, ya, reduceIte, Nat.reduceEqDiff, Int32.reduceToInt, Int.toNat_natCast, Int.reduceToNat]; omega) | decide | (simp; done) | (simp; omega)) ?_
  try simp only [List.map_cons, List.map_nil, List.length_cons, List.length_nil, ylr_s, ylr_0, Nat.reduceAdd, Nat.reduceSub, List.cons_append, List.nil_append, List.set_cons_zero, List.set_cons_succ, Option.toList_none, Option.toList_some, Int32.reduceToInt, yu, ya, reduceIte, Nat.reduceEqDiff, Int.toNat_natCast, Int.reduceToNat]
  refine ycV rfl rfl rfl (cm_exactly (v := 75) h1 hp rfl (by decide)) rfl kX9_exactly iX9_exactly rfl rfl rfl (Nat.le_of_ble_eq_true rfl) (fun v2 Y2 q2 => ?_)
  obtain ⟨rfl, h2, k2⟩ := q2
  obtain ⟨f2, A2⟩ := Y2
  refine ygo 99999 90 rfl rfl (by first | exact trivial | (simp only [true_and, eq_self, or_true, true_or, and_true, yu, ya, reduceIte, Nat.reduceEqDiff, Int32.reduceToInt, Int.toNat_natCast, Int.reduceToNat]; omega) | decide | (simp; done) | (simp; omega)) ?_
  try simp only [List.map_cons, List.map_nil, List.length_cons, List.length_nil, ylr_s, ylr_0, Nat.reduceAdd, Nat.reduceSub, List.cons_append, List.nil_append, List.set_cons_zero, List.set_cons_succ, Option.toList_none, Option.toList_some, Int32.reduceToInt, yu, ya, reduceIte, Nat.reduceEqDiff, Int.toNat_natCast, Int.reduceToNat]
  refine ycV rfl rfl rfl (cm_want (most := 63) h2 hp rfl (by decide)) rfl kX9_want iX9_want rfl rfl rfl (Nat.le_of_ble_eq_true rfl) (fun v3 Y3 q3 => ?_)
  obtain ⟨rfl, h3, k3⟩ := q3
  obtain ⟨f3, A3⟩ := Y3
  refine ygo 99999 90 rfl rfl (by first | exact trivial | (simp only [true_and, eq_self, or_true, true_or, and_true, yu, ya, reduceIte, Nat.reduceEqDiff, Int32.reduceToInt, Int.toNat_natCast, Int.reduceToNat]; omega) | decide | (simp; done) | (simp; omega)) ?_
  try simp only [List.map_cons, List.map_nil, List.length_cons, List.length_nil, ylr_s, ylr_0, Nat.reduceAdd, Nat.reduceSub, List.cons_append, List.nil_append, List.set_cons_zero, List.set_cons_succ, Option.toList_none, Option.toList_some, Int32.reduceToInt, yu, ya, reduceIte, Nat.reduceEqDiff, Int.toNat_natCast, Int.reduceToNat]
  refine ycV rfl rfl rfl (cm_want (most := 99) h3 hp rfl (by decide)) rfl kX9_want iX9_want rfl rfl rfl (Nat.le_of_ble_eq_true rfl) (fun v4 Y4 q4 => ?_)
  obtain ⟨rfl, h4, k4⟩ := q4
  obtain ⟨f4, A4⟩ := Y4
  refine ygo 99999 90 rfl rfl (by first | exact trivial | (simp only [true_and, eq_self, or_true, true_or, and_true, yu, ya, reduceIte, Nat.reduceEqDiff, Int32.reduceToInt, Int.toNat_natCast, Int.reduceToNat]; omega) | decide | (simp; done) | (simp; omega)) ?_
  try simp only [List.map_cons, List.map_nil, List.length_cons, List.length_nil, ylr_s, ylr_0, Nat.reduceAdd, Nat.reduceSub, List.cons_append, List.nil_append, List.set_cons_zero, List.set_cons_succ, Option.toList_none, Option.toList_some, Int32.reduceToInt, yu, ya, reduceIte, Nat.reduceEqDiff, Int.toNat_natCast, Int.reduceToNat]
  refine ycV rfl rfl rfl (cm_want (most := 3) h4 hp rfl (by decide)) rfl kX9_want iX9_want rfl rfl rfl (Nat.le_of_ble_eq_true rfl) (fun v5 Y5 q5 => ?_)
  obtain ⟨rfl, h5, k5⟩ := q5
  obtain ⟨f5, A5⟩ := Y5
  have hT := hTitle_mRd h5
  have kT := (((k1.tr k2).tr k3).tr k4).tr k5
  have hTr := hTitle_rest bs s
  have hTf : (hTitle bs s).2.1 = none → (hTitle bs s).1 = 5 ∧ hdT bs (hTitle bs s).2.2.1.1 := fun hc => (hTitle_f hc h0).2
  have hTn : (hTitle bs s).2.2.1.2 = ([], [], []) := hTr.1.trans hnd
  have hTl : (hTitle bs s).2.2.2.1.length = 8 ∧ (hTitle bs s).2.2.2.2.length = 8 := by rw [hTr.2]; exact ⟨l1, l2⟩
  generalize hTitle bs s = T at hT hTf hTn hTl ⊢
  obtain ⟨n, hn4, hnv, hnf, hnw⟩ := wv_cnt (bs := bs) (most := 4) (s := T) (by omega)
  have hyr := yr_w (bs := bs) (most := 4) (s := T) (by decide)
  have hNt := hNeeds_t (bs := bs) (s := T)
  have hN : hNeeds bs T = hLoop (hNeed bs) n (nxt bs 0 4 T).2 := by
    unfold hNeeds
    rw [show (4 : Int32) = nI 4 from rfl, hnv, i_n (by omega)]
    rfl
  have z4 : (4 : Int32).toInt = 4 := rfl
  refine ygo 99999 90 rfl rfl (by first | exact trivial | (simp only [true_and, eq_self, or_true, true_or, and_true, yu, ya, reduceIte, Nat.reduceEqDiff, Int32.reduceToInt, Int.toNat_natCast, Int.reduceToNat]; omega) | decide | (simp; done) | (simp; omega)) ?_
  try simp only [List.map_cons, List.map_nil, List.length_cons, List.length_nil, ylr_s, ylr_0, Nat.reduceAdd, Nat.reduceSub, List.cons_append, List.nil_append, List.set_cons_zero, List.set_cons_succ, Option.toList_none, Option.toList_some, Int32.reduceToInt, yu, ya, reduceIte, Nat.reduceEqDiff, Int.toNat_natCast, Int.reduceToNat]
  refine ycV rfl rfl rfl (cm_want (most := 4) hT hp rfl (by decide)) rfl kX9_want iX9_want rfl rfl rfl (Nat.le_of_ble_eq_true rfl) (fun v6 Y6 q6 => ?_)
  obtain ⟨rfl, h6, k6⟩ := q6
  obtain ⟨f6, A6⟩ := Y6
  have h6' : mRd Z pk bs (nxt bs 0 4 T).2 (yu f6 25 (wv (nxt bs 0 4 T)), A6) := h6.fk h6.1 rfl rfl rfl
  have kN : fkh (f, A) (yu f6 25 (wv (nxt bs 0 4 T)), A6) := (kT.tr k6).h.tr (fkh.u (by omega))
  -- behind the needs
  have rest1 : ∀ (fz kz : Int) (f7 : Nat → Int) (A7 : Nat → List Int32), mRd Z pk bs (hNeeds bs T) (f7, A7) → fkh (f, A) (f7, A7) → ((hNeeds bs T).2.1 = none → hdT bs (hNeeds bs T).2.2.1.1 ∧ f7 25 = (hNeeds bs T).2.2.1.2.1.length ∧ (hNeeds bs T).2.2.1.2.1.length ≤ 4 ∧ (hNeeds bs T).1 = 6 + (hNeeds bs T).2.2.1.2.1.length * 3 ∧ hdN bs 6 (hNeeds bs T).2.2.1.2.1) → yw G (d + 3) a mX9_readHead 84 [some (.inr 0), some (.inl fz), some (.inl kz)] [] (f7, A7) (fun w Y' => w = none ∧ mRd Z pk bs (hRows bs (hSeals bs (hNeeds bs T))) Y' ∧ fkh (f, A) Y' ∧ ((hRows bs (hSeals bs (hNeeds bs T))).2.1 = none → HD bs (hRows bs (hSeals bs (hNeeds bs T))) Y'.1) ∧ -1 ≤ Y'.1 27 ∧ Y'.1 27 ≤ 8) := by
    intro fz kz f7 A7 h7 k7 hfN
    have hNn : (hNeeds bs T).2.2.1.2.2 = ([], []) := by rw [hNt.2.1, hTn]
    have hNl : (hNeeds bs T).2.2.2.1.length = 8 ∧ (hNeeds bs T).2.2.2.2.length = 8 := by rw [hNt.2.2]; exact hTl
    generalize hNeeds bs T = N at h7 hfN hNn hNl ⊢
    obtain ⟨m, hm4, hmv, hmf, hmw⟩ := wv_cnt (bs := bs) (most := 4) (s := N) (by omega)
    have hyr2 := yr_w (bs := bs) (most := 4) (s := N) (by decide)
    have hSt := hSeals_t (bs := bs) (s := N)
    have hS : hSeals bs N = hLoop (hSeal bs) m (nxt bs 0 4 N).2 := by
      unfold hSeals
      rw [show (4 : Int32) = nI 4 from rfl, hmv, i_n (by omega)]
      rfl
    refine ygo 99999 90 rfl rfl (by first | exact trivial | (simp only [true_and, eq_self, or_true, true_or, and_true, yu, ya, reduceIte, Nat.reduceEqDiff, Int32.reduceToInt, Int.toNat_natCast, Int.reduceToNat]; omega) | decide | (simp; done) | (simp; omega)) ?_
    try simp only [List.map_cons, List.map_nil, List.length_cons, List.length_nil, ylr_s, ylr_0, Nat.reduceAdd, Nat.reduceSub, List.cons_append, List.nil_append, List.set_cons_zero, List.set_cons_succ, Option.toList_none, Option.toList_some, Int32.reduceToInt, yu, ya, reduceIte, Nat.reduceEqDiff, Int.toNat_natCast, Int.reduceToNat]
    refine ycV rfl rfl rfl (cm_want (most := 4) h7 hp rfl (by decide)) rfl kX9_want iX9_want rfl rfl rfl (Nat.le_of_ble_eq_true rfl) (fun v8 Y8 q8 => ?_)
    obtain ⟨rfl, h8, k8⟩ := q8
    obtain ⟨f8, A8⟩ := Y8
    have h8' : mRd Z pk bs (nxt bs 0 4 N).2 (yu f8 26 (wv (nxt bs 0 4 N)), A8) := h8.fk h8.1 rfl rfl rfl
    have kS : fkh (f, A) (yu f8 26 (wv (nxt bs 0 4 N)), A8) := (k7.tr k8.h).tr (fkh.u (by omega))
    have e25 : f8 25 = f7 25 := k8.2 25 (by decide) (by decide)
    have rest2 : ∀ (fz kz : Int) (f9 : Nat → Int) (A9 : Nat → List Int32), mRd Z pk bs (hSeals bs N) (f9, A9) → fkh (f, A) (f9, A9) → ((hSeals bs N).2.1 = none → hdT bs (hSeals bs N).2.2.1.1 ∧ f9 25 = (hSeals bs N).2.2.1.2.1.length ∧ (hSeals bs N).2.2.1.2.1.length ≤ 4 ∧ hdN bs 6 (hSeals bs N).2.2.1.2.1 ∧ f9 26 = (hSeals bs N).2.2.1.2.2.1.length ∧ (hSeals bs N).2.2.1.2.2.1.length ≤ 4 ∧ (hSeals bs N).1 = 7 + (hSeals bs N).2.2.1.2.1.length * 3 + (hSeals bs N).2.2.1.2.2.1.length ∧ hdS bs (7 + (hSeals bs N).2.2.1.2.1.length * 3) (hSeals bs N).2.2.1.2.2.1) → yw G (d + 3) a mX9_readHead 123 [some (.inr 0), some (.inl fz), some (.inl kz)] [] (f9, A9) (fun w Y' => w = none ∧ mRd Z pk bs (hRows bs (hSeals bs N)) Y' ∧ fkh (f, A) Y' ∧ ((hRows bs (hSeals bs N)).2.1 = none → HD bs (hRows bs (hSeals bs N)) Y'.1) ∧ -1 ≤ Y'.1 27 ∧ Y'.1 27 ≤ 8) := by
      intro fz kz f9 A9 h9 k9 hfS
      have hSn : (hSeals bs N).2.2.1.2.2.2 = [] := by rw [hSt.2.2.1, hNn]
      have hSl : (hSeals bs N).2.2.2.1.length = 8 ∧ (hSeals bs N).2.2.2.2.length = 8 := by rw [hSt.2.2.2]; exact hNl
      generalize hSeals bs N = S at h9 hfS hSn hSl ⊢
      obtain ⟨r, hr8, hrv, hrf, hrw⟩ := wv_cnt (bs := bs) (most := 8) (s := S) (by omega)
      have hyr3 := yr_w (bs := bs) (most := 8) (s := S) (by decide)
      have z8 : (8 : Int32).toInt = 8 := rfl
      have hRt := hRows_t (bs := bs) (s := S)
      have hR : hRows bs S = hLoop (hRow bs) r (nxt bs 0 8 S).2 := by
        unfold hRows
        rw [show (8 : Int32) = nI 8 from rfl, hrv, i_n (by omega)]
        rfl
      have hrest := nxt_rest bs 0 8 S
      refine ygo 99999 90 rfl rfl (by first | exact trivial | (simp only [true_and, eq_self, or_true, true_or, and_true, yu, ya, reduceIte, Nat.reduceEqDiff, Int32.reduceToInt, Int.toNat_natCast, Int.reduceToNat]; omega) | decide | (simp; done) | (simp; omega)) ?_
      try simp only [List.map_cons, List.map_nil, List.length_cons, List.length_nil, ylr_s, ylr_0, Nat.reduceAdd, Nat.reduceSub, List.cons_append, List.nil_append, List.set_cons_zero, List.set_cons_succ, Option.toList_none, Option.toList_some, Int32.reduceToInt, yu, ya, reduceIte, Nat.reduceEqDiff, Int.toNat_natCast, Int.reduceToNat]
      refine ycV rfl rfl rfl (cm_want (most := 8) h9 hp rfl (by decide)) rfl kX9_want iX9_want rfl rfl rfl (Nat.le_of_ble_eq_true rfl) (fun v10 Y10 q10 => ?_)
      obtain ⟨rfl, h10, k10⟩ := q10
      obtain ⟨f10, A10⟩ := Y10
      have h10' : mRd Z pk bs (nxt bs 0 8 S).2 (yu (yu f10 27 (wv (nxt bs 0 8 S))) 28 (f10 22), A10) := h10.fk h10.1 rfl rfl rfl
      have kR : fkh (f, A) (yu (yu f10 27 (wv (nxt bs 0 8 S))) 28 (f10 22), A10) := ((k9.tr k10.h).tr (fkh.u (by omega))).tr (fkh.u (by omega))
      have e25' : f10 25 = f9 25 := k10.2 25 (by decide) (by decide)
      have e26' : f10 26 = f9 26 := k10.2 26 (by decide) (by decide)
      have h22a : 0 ≤ f10 22 := h10.2.2.2.1
      have h22b : f10 22 ≤ bs.length := h10.2.2.2.2.1
      refine ygo 143 90 rfl rfl (by first | exact trivial | (simp only [true_and, eq_self, or_true, true_or, and_true, yu, ya, reduceIte, Nat.reduceEqDiff, Int32.reduceToInt, Int.toNat_natCast, Int.reduceToNat]; omega) | decide | (simp; done) | (simp; omega)) ?_
      try simp only [List.map_cons, List.map_nil, List.length_cons, List.length_nil, ylr_s, ylr_0, Nat.reduceAdd, Nat.reduceSub, List.cons_append, List.nil_append, List.set_cons_zero, List.set_cons_succ, Option.toList_none, Option.toList_some, Int32.reduceToInt, yu, ya, reduceIte, Nat.reduceEqDiff, Int.toNat_natCast, Int.reduceToNat]
      cases hw : (nxt bs 0 8 S).2.2.1 with
      | some w =>
        have hsm : (nxt bs 0 8 S).2.2.1.isSome = true := by rw [hw]; rfl
        have hRw : hRows bs S = (nxt bs 0 8 S).2 := by rw [hR]; exact hLoop_wrong hsm
        have hwv : wv (nxt bs 0 8 S) = -1 := hrw hsm
        rw [hwv] at h10' kR ⊢
        rw [hRw]
        refine ygo 99999 90 rfl rfl (by first | exact trivial | (simp only [true_and, eq_self, or_true, true_or, and_true, yu, ya, reduceIte, Nat.reduceEqDiff, Int32.reduceToInt, Int.toNat_natCast, Int.reduceToNat]; omega) | decide | (simp; done) | (simp; omega)) ?_
        try simp only [List.map_cons, List.map_nil, List.length_cons, List.length_nil, ylr_s, ylr_0, Nat.reduceAdd, Nat.reduceSub, List.cons_append, List.nil_append, List.set_cons_zero, List.set_cons_succ, Option.toList_none, Option.toList_some, Int32.reduceToInt, yu, ya, reduceIte, Nat.reduceEqDiff, Int.toNat_natCast, Int.reduceToNat]
        refine yi_icmpge rfl (by refine ⟨?_, ?_⟩ <;> first | exact yr_t _ | exact yr_b _ | (unfold yr; omega)) (fun c => ?_) (fun c => ?_)
        · refine ygo 99999 90 rfl rfl (by first | exact trivial | (simp only [true_and, eq_self, or_true, true_or, and_true, yu, ya, reduceIte, Nat.reduceEqDiff, Int32.reduceToInt, Int.toNat_natCast, Int.reduceToNat]; omega) | decide | (simp; done) | (simp; omega)) ?_
          try simp only [List.map_cons, List.map_nil, List.length_cons, List.length_nil, ylr_s, ylr_0, Nat.reduceAdd, Nat.reduceSub, List.cons_append, List.nil_append, List.set_cons_zero, List.set_cons_succ, Option.toList_none, Option.toList_some, Int32.reduceToInt, yu, ya, reduceIte, Nat.reduceEqDiff, Int.toNat_natCast, Int.reduceToNat]
          refine yi_ret_v rfl rfl ⟨rfl, h10', kR, (fun hc => by rw [hw] at hc; cases hc), by simp only [yu, reduceIte, Nat.reduceEqDiff]; omega, by simp only [yu, reduceIte, Nat.reduceEqDiff]; omega⟩
        · omega
      | none =>
        have hg := nxt_get hw
        have hfS := hfS hg.1
        have hwv : wv (nxt bs 0 8 S) = r := hrf hw
        have e22 : f10 22 = (S.1 : Int) + 1 := by
          have := h10.2.2.2.2.2.1 hw
          dsimp only at this
          rw [this, hg.2.2.1]
          rfl
        rw [hwv] at h10' kR ⊢
        refine l_rhR (fr := 8 + S.2.2.1.2.1.length * 3 + S.2.2.1.2.2.1.length) (m := r) (Y0 := (yu (yu f10 27 r) 28 (f10 22), A10)) (F := hRows bs S) hp hr8 (fun f11 A11 h11 k11 hf11 => ?_) r 0 0 (nxt bs 0 8 S).2 _ _ (by omega) rfl rfl hR.symm h10' fkp.rf (by rw [hrest]; exact hSl.1) (by rw [hrest]; exact hSl.2) (by simp only [yu, reduceIte]; unfold yr; omega) (fun _ => ⟨by simp only [yu, reduceIte]; omega, by rw [hrest, hSn]; rfl, by rw [hg.2.2.1]; omega, by rw [hrest, hSn]; intro i e he; simp at he⟩)
        have e27 : f11 27 = r := k11.2 27 (by decide) (by decide)
        have e28 : f11 28 = f10 22 := k11.2 28 (by decide) (by decide)
        have e25'' : f11 25 = f10 25 := k11.2 25 (by decide) (by decide)
        have e26'' : f11 26 = f10 26 := k11.2 26 (by decide) (by decide)
        refine ⟨rfl, h11, kR.tr k11.h, fun hc => ?_, by dsimp only; omega, by dsimp only; omega⟩
        have hq := hf11 hc
        unfold HD
        rw [hRt.1, hRt.2.1, hRt.2.2, hq.1]
        dsimp only
        exact ⟨hfS.1, hfS.2.2.2.1, by omega, hfS.2.2.1, hfS.2.2.2.2.2.2.2, by omega, hfS.2.2.2.2.2.1, hq.2.2, by omega, hr8, by omega, by omega⟩
    refine ygo 100 90 rfl rfl (by first | exact trivial | (simp only [true_and, eq_self, or_true, true_or, and_true, yu, ya, reduceIte, Nat.reduceEqDiff, Int32.reduceToInt, Int.toNat_natCast, Int.reduceToNat]; omega) | decide | (simp; done) | (simp; omega)) ?_
    try simp only [List.map_cons, List.map_nil, List.length_cons, List.length_nil, ylr_s, ylr_0, Nat.reduceAdd, Nat.reduceSub, List.cons_append, List.nil_append, List.set_cons_zero, List.set_cons_succ, Option.toList_none, Option.toList_some, Int32.reduceToInt, yu, ya, reduceIte, Nat.reduceEqDiff, Int.toNat_natCast, Int.reduceToNat]
    cases hw : (nxt bs 0 4 N).2.2.1 with
    | some w =>
      have hsm : (nxt bs 0 4 N).2.2.1.isSome = true := by rw [hw]; rfl
      have hSw : hSeals bs N = (nxt bs 0 4 N).2 := by rw [hS]; exact hLoop_wrong hsm
      have hwv : wv (nxt bs 0 4 N) = -1 := hmw hsm
      rw [hwv] at h8' kS ⊢
      refine ygo 99999 90 rfl rfl (by first | exact trivial | (simp only [true_and, eq_self, or_true, true_or, and_true, yu, ya, reduceIte, Nat.reduceEqDiff, Int32.reduceToInt, Int.toNat_natCast, Int.reduceToNat]; omega) | decide | (simp; done) | (simp; omega)) ?_
      try simp only [List.map_cons, List.map_nil, List.length_cons, List.length_nil, ylr_s, ylr_0, Nat.reduceAdd, Nat.reduceSub, List.cons_append, List.nil_append, List.set_cons_zero, List.set_cons_succ, Option.toList_none, Option.toList_some, Int32.reduceToInt, yu, ya, reduceIte, Nat.reduceEqDiff, Int.toNat_natCast, Int.reduceToNat]
      refine yi_icmpge rfl (by refine ⟨?_, ?_⟩ <;> first | exact yr_t _ | exact yr_b _ | (unfold yr; omega)) (fun c => ?_) (fun c => ?_)
      · exact rest2 _ _ _ _ (by rw [hSw]; exact h8') kS (fun hc => by rw [hSw, hw] at hc; cases hc)
      · omega
    | none =>
      have hg := nxt_get hw
      have hfN := hfN hg.1
      have hwv : wv (nxt bs 0 4 N) = m := hmf hw
      have hrest := nxt_rest bs 0 4 N
      have e22 : f8 22 = (N.1 : Int) + 1 := by
        have := h8.2.2.2.2.2.1 hw
        dsimp only at this
        rw [this, hg.2.2.1]
        rfl
      rw [hwv] at h8' kS ⊢
      refine l_rhS (fr := 7 + N.2.2.1.2.1.length * 3) (m := m) (Y0 := (yu f8 26 m, A8)) (F := hSeals bs N) hp hm4 (fun kz f9 A9 h9 k9 hf9 => ?_) m 0 0 (nxt bs 0 4 N).2 _ _ (by omega) rfl rfl hS.symm h8' fkp.rf (fun _ => ⟨by omega, by rw [hrest, hNn]; rfl, by rw [hg.2.2.1]; omega, by rw [hrest, hNn]; intro i e he; simp at he⟩)
      have e26 : f9 26 = m := k9.2 26 (by decide) (by decide)
      have e25'' : f9 25 = f8 25 := k9.2 25 (by decide) (by decide)
      refine rest2 _ _ f9 A9 h9 (kS.tr k9.h) (fun hc => ?_)
      have hq := hf9 hc
      rw [hSt.1, hSt.2.1, hq.1]
      exact ⟨hfN.1, by omega, hfN.2.2.1, hfN.2.2.2.2, e26, hm4, by omega, hq.2.2⟩
  refine ygo 48 90 rfl rfl (by first | exact trivial | (simp only [true_and, eq_self, or_true, true_or, and_true, yu, ya, reduceIte, Nat.reduceEqDiff, Int32.reduceToInt, Int.toNat_natCast, Int.reduceToNat]; omega) | decide | (simp; done) | (simp; omega)) ?_
  try simp only [List.map_cons, List.map_nil, List.length_cons, List.length_nil, ylr_s, ylr_0, Nat.reduceAdd, Nat.reduceSub, List.cons_append, List.nil_append, List.set_cons_zero, List.set_cons_succ, Option.toList_none, Option.toList_some, Int32.reduceToInt, yu, ya, reduceIte, Nat.reduceEqDiff, Int.toNat_natCast, Int.reduceToNat]
  cases hw : (nxt bs 0 4 T).2.2.1 with
  | some w =>
    have hsm : (nxt bs 0 4 T).2.2.1.isSome = true := by rw [hw]; rfl
    have hNw : hNeeds bs T = (nxt bs 0 4 T).2 := by rw [hN]; exact hLoop_wrong hsm
    have hwv : wv (nxt bs 0 4 T) = -1 := hnw hsm
    rw [hwv] at h6' kN ⊢
    refine ygo 99999 90 rfl rfl (by first | exact trivial | (simp only [true_and, eq_self, or_true, true_or, and_true, yu, ya, reduceIte, Nat.reduceEqDiff, Int32.reduceToInt, Int.toNat_natCast, Int.reduceToNat]; omega) | decide | (simp; done) | (simp; omega)) ?_
    try simp only [List.map_cons, List.map_nil, List.length_cons, List.length_nil, ylr_s, ylr_0, Nat.reduceAdd, Nat.reduceSub, List.cons_append, List.nil_append, List.set_cons_zero, List.set_cons_succ, Option.toList_none, Option.toList_some, Int32.reduceToInt, yu, ya, reduceIte, Nat.reduceEqDiff, Int.toNat_natCast, Int.reduceToNat]
    refine yi_icmpge rfl (by refine ⟨?_, ?_⟩ <;> first | exact yr_t _ | exact yr_b _ | (unfold yr; omega)) (fun c => ?_) (fun c => ?_)
    · exact rest1 _ _ _ _ (by rw [hNw]; exact h6') kN (fun hc => by rw [hNw, hw] at hc; cases hc)
    · omega
  | none =>
    have hg := nxt_get hw
    have hfT := hTf hg.1
    have hwv : wv (nxt bs 0 4 T) = n := hnf hw
    have hrest := nxt_rest bs 0 4 T
    have e22 : f6 22 = (T.1 : Int) + 1 := by
      have := h6.2.2.2.2.2.1 hw
      dsimp only at this
      rw [this, hg.2.2.1]
      rfl
    rw [hwv] at h6' kN ⊢
    refine l_rhN (fr := 6) (m := n) (Y0 := (yu f6 25 n, A6)) (F := hNeeds bs T) hp hn4 (fun kz f9 A9 h9 k9 hf9 => ?_) n 0 0 (nxt bs 0 4 T).2 _ _ (by omega) rfl rfl hN.symm h6' fkp.rf (fun _ => ⟨by omega, by rw [hrest, hTn]; rfl, by rw [hg.2.2.1]; omega, by rw [hrest, hTn]; intro i e he; simp at he⟩)
    have e25 : f9 25 = n := k9.2 25 (by decide) (by decide)
    refine rest1 _ _ f9 A9 h9 (kN.tr k9.h) (fun hc => ?_)
    have hq := hf9 hc
    rw [hNt.1, hq.1]
    exact ⟨hfT.2, e25, hn4, hq.2.1, hq.2.2⟩
