/-- the state behind the head -/
def headS (bs : List Int32) (K : cV) (ln sz : List Int32) : pS := hRows bs (hSeals bs (hNeeds bs (hTitle bs (0, none, ((K.1.1, K.1.2.1, K.1.2.2.1, 0), [], [], []), ln, sz))))
theorem parse_head (bs : List Int32) (K : cV) (ln sz : List Int32) : parse bs K ln sz = hEndS bs (hPages bs (headS bs K ln sz).2.2.1.2.2.2.length 0 (headS bs K ln sz)) := by
  unfold parse headS
  dsimp only
theorem hRows_pks {bs : List Int32} {s : pS} (h : s.2.2.1.2.2.2 = []) : pks (hRows bs s) := by
  unfold hRows
  refine pks_loop _ _ (fun i e he => ?_)
  rw [nxt_rest, h] at he
  cases he
theorem headS_pks (bs : List Int32) (K : cV) (ln sz : List Int32) : pks (headS bs K ln sz) := by
  refine hRows_pks ?_
  rw [hSeals_t.2.2.1, hNeeds_t.2.1, (hTitle_rest bs _).1]
theorem hEndS_f {bs : List Int32} {s : pS} (h : (hEndS bs s).2.1 = none) : s.2.1 = none := by
  cases hw : s.2.1 with
  | none => rfl
  | some w =>
    unfold hEndS at h
    rw [if_pos (by rw [hw]; rfl), hw] at h
    cases h
theorem hPages_f {bs : List Int32} {n k : Nat} {s : pS} (h : (hPages bs n k s).2.1 = none) : s.2.1 = none := by
  cases hw : s.2.1 with
  | none => rfl
  | some w =>
    rw [hPages_w (by rw [hw]; rfl), hw] at h
    cases h
/-- only the reader's own cells have changed -/
def fkr (Y Y' : yS) : Prop := Y'.2 = Y.2 ∧ ∀ k, (k < 22 ∨ 28 < k) → Y'.1 k = Y.1 k
theorem fkh.r {Y Y' : yS} (h : fkh Y Y') : fkr Y Y' := ⟨h.1, fun k hk => h.2 k (by omega)⟩
theorem fkp.r {Y Y' : yS} (h : fkp Y Y') : fkr Y Y' := h.h.r
theorem fkr.tr {Y Y1 Y2 : yS} (h : fkr Y Y1) (g : fkr Y1 Y2) : fkr Y Y2 := ⟨g.1.trans h.1, fun k a => (g.2 k a).trans (h.2 k a)⟩
theorem fkr.u {f : Nat → Int} {A : Nat → List Int32} {z : Int} {k0 : Nat} (h : 22 ≤ k0 ∧ k0 ≤ 28) : fkr (f, A) (yu f k0 z, A) := ⟨rfl, fun k hk => if_neg (by omega)⟩
set_option maxRecDepth 100000 in
set_option maxHeartbeats 2000000 in
theorem cm_wrong {G : xG} {d a pk : Nat} {pz : Int} {Z : pZ} {bs : List Int32} {K : cV} {ln sz : List Int32} {f : Nat → Int} {A : Nat → List Int32} (hR : mR Z (f, A)) (hp : pkd Z pk bs) (hpz : pz = pk) (l1 : ln.length = 8) (l2 : sz.length = 8) : ym G (d + 4) a mX9_wrong [.inr 0, .inl pz] (f, A) (fun w Y' => w = some (.inl (oI (parse bs K ln sz).2.1).toInt) ∧ mR Z Y' ∧ Y'.1 23 = pk ∧ fkr (f, A) Y' ∧ ((parse bs K ln sz).2.1 = none → HD bs (headS bs K ln sz) Y'.1) ∧ ∀ w, (parse bs K ln sz).2.1 = some w → w ≤ bs.length) := by
  obtain ⟨xp, hxp, hxb, hp16, hlb, hbb⟩ := id hp
  have hm0 : mRd Z pk bs (0, none, ((K.1.1, K.1.2.1, K.1.2.2.1, 0), [], [], []), ln, sz) (yu (yu (yu f 23 pz) 22 0) 24 (-1), A) := ⟨hR, hpz, rfl, (by show (0 : Int) ≤ 0; omega), (by show (0 : Int) ≤ _; omega), (fun _ => rfl), (fun w hw => by cases hw)⟩
  have hk0 : fkr (f, A) (yu (yu (yu f 23 pz) 22 0) 24 (-1), A) := ((fkr.u (by omega)).tr (fkr.u (by omega))).tr (fkr.u (by omega))
  refine ym_at 6 rfl (by decide) (Nat.le_of_ble_eq_true rfl) tX9_wrong_ok ?_
  try simp only [List.map_cons, List.map_nil, List.length_cons, List.length_nil, ylr_s, ylr_0, Nat.reduceAdd, Nat.reduceSub, List.cons_append, List.nil_append, List.set_cons_zero, List.set_cons_succ, Option.toList_none, Option.toList_some, Int32.reduceToInt, yu, ya, reduceIte, Nat.reduceEqDiff, Int.toNat_natCast, Int.reduceToNat]
  refine ygo 99999 90 rfl rfl (by first | exact trivial | (simp only [true_and, eq_self, or_true, true_or, and_true, yu, ya, reduceIte, Nat.reduceEqDiff, Int32.reduceToInt, Int.toNat_natCast, Int.reduceToNat]; omega) | decide | (simp; done) | (simp; omega)) ?_
  try simp only [List.map_cons, List.map_nil, List.length_cons, List.length_nil, ylr_s, ylr_0, Nat.reduceAdd, Nat.reduceSub, List.cons_append, List.nil_append, List.set_cons_zero, List.set_cons_succ, Option.toList_none, Option.toList_some, Int32.reduceToInt, yu, ya, reduceIte, Nat.reduceEqDiff, Int.toNat_natCast, Int.reduceToNat]
  refine ycV rfl rfl rfl (cm_readHead hm0 hp rfl rfl l1 l2) rfl kX9_readHead iX9_readHead rfl rfl rfl (Nat.le_of_ble_eq_true rfl) (fun v1 Y1 q1 => ?_)
  obtain ⟨rfl, h1, k1, d1, r1, r2⟩ := q1
  obtain ⟨f1, A1⟩ := Y1
  have hPK := headS_pks bs K ln sz
  rw [parse_head]
  have h1' : mRd Z pk bs (headS bs K ln sz) (f1, A1) := h1
  have d1' : (headS bs K ln sz).2.1 = none → HD bs (headS bs K ln sz) f1 := d1
  generalize headS bs K ln sz = H at h1' d1' hPK
  dsimp only at r1 r2
  refine ygo 21 90 rfl rfl (by first | exact trivial | (simp only [true_and, eq_self, or_true, true_or, and_true, yu, ya, reduceIte, Nat.reduceEqDiff, Int32.reduceToInt, Int.toNat_natCast, Int.reduceToNat]; omega) | decide | (simp; done) | (simp; omega)) ?_
  try simp only [List.map_cons, List.map_nil, List.length_cons, List.length_nil, ylr_s, ylr_0, Nat.reduceAdd, Nat.reduceSub, List.cons_append, List.nil_append, List.set_cons_zero, List.set_cons_succ, Option.toList_none, Option.toList_some, Int32.reduceToInt, yu, ya, reduceIte, Nat.reduceEqDiff, Int.toNat_natCast, Int.reduceToNat]
  refine l_wrPages (Y0 := (f1, A1)) (m := if H.2.1 = none then H.2.2.1.2.2.2.length else 0) (fr := if H.2.1 = none then 8 + H.2.2.1.2.1.length * 3 + H.2.2.1.2.2.1.length else 0) hp ?_ ?_ H.2.2.1.2.2.2.length 0 0 H _ _ _ f1 A1 (fun hn => ?_) rfl (by omega) r1 r2 h1' fkp.rf (fun f2 A2 x2 x3 x4 x5 hm2 hk2 => ?_)
  · split
    next hn => exact (d1' hn).2.2.2.2.2.2.2.2.2.1
    next hn => omega
  · split
    next hn =>
      have := d1' hn
      have a1 := this.2.2.2.1
      have a2 := this.2.2.2.2.2.2.1
      omega
    next hn => omega
  · have hd := d1' hn
    rw [if_pos hn, if_pos hn]
    have hg := HD_PG hd hPK
    obtain ⟨-, -, -, -, -, -, -, -, b1, -, b2, -⟩ := hd
    exact ⟨by omega, b1, by rw [b2]; push_cast; rfl, hg, rfl⟩
  · have hkf : fkr (f, A) (f2, A2) := (hk0.tr k1.r).tr hk2.r
    have h24 : f2 24 = oZ (hPages bs H.2.2.1.2.2.2.length 0 H).2.1 := hm2.2.2.1
    have hPt := hPages_t (bs := bs) H.2.2.1.2.2.2.length 0 H
    have hPf := hPages_f (bs := bs) (n := H.2.2.1.2.2.2.length) (k := 0) (s := H)
    have hHD2 : H.2.1 = none → HD bs H f2 := fun hn => by
      have hd := d1' hn
      unfold HD at hd ⊢
      have e25 : f2 25 = f1 25 := hk2.2 25 (by omega) (by omega)
      have e26 : f2 26 = f1 26 := hk2.2 26 (by omega) (by omega)
      have e27 : f2 27 = f1 27 := hk2.2 27 (by omega) (by omega)
      have e28 : f2 28 = f1 28 := hk2.2 28 (by omega) (by omega)
      rw [e25, e26, e27, e28]
      exact hd
    generalize hPages bs H.2.2.1.2.2.2.length 0 H = P at hm2 h24 hPt hPf
    have hT : P.2.1 = none → hdT bs P.2.2.1.1 := fun hn => by rw [hPt.1]; exact (d1' (hPf hn)).1
    have fin : ∀ (S : Int32), (P.2.1 = none → S = ssum 1 (bs.take P.1)) → yw G (d + 4) a mX9_wrong 142 [some (.inr 0), some (.inl pz), some (.inl S.toInt), x3, x4, x5] [] (f2, A2) (fun w Y' => w = some (.inl (oI (hEndS bs P).2.1).toInt) ∧ mR Z Y' ∧ Y'.1 23 = pk ∧ fkr (f, A) Y' ∧ ((hEndS bs P).2.1 = none → HD bs H Y'.1) ∧ ∀ w, (hEndS bs P).2.1 = some w → w ≤ bs.length) := by
      intro S hS
      refine (l_wrEnd hm2 hp hS hT hpz).mono (fun w Y' hq => ⟨hq.1, hq.2.1, ?_, hkf.tr hq.2.2.1.r, fun hn => ?_, hq.2.2.2⟩)
      · rw [hq.2.2.1.2 23 (by omega) (by omega)]; exact hm2.2.1
      · have hd := hHD2 (hPf (hEndS_f hn))
        unfold HD at hd ⊢
        rw [hq.2.2.1.2 25 (by omega) (by omega), hq.2.2.1.2 26 (by omega) (by omega), hq.2.2.1.2 27 (by omega) (by omega), hq.2.2.1.2 28 (by omega) (by omega)]
        exact hd
    cases hw : P.2.1 with
    | some w =>
      have hz : f2 24 = w := by rw [h24, hw]; rfl
      have hwl := hm2.2.2.2.2.2.2 w hw
      refine ygo 99999 90 rfl rfl (by first | exact trivial | (simp only [true_and, eq_self, or_true, true_or, and_true, yu, ya, reduceIte, Nat.reduceEqDiff, Int32.reduceToInt, Int.toNat_natCast, Int.reduceToNat]; omega) | decide | (simp; done) | (simp; omega)) ?_
      try simp only [List.map_cons, List.map_nil, List.length_cons, List.length_nil, ylr_s, ylr_0, Nat.reduceAdd, Nat.reduceSub, List.cons_append, List.nil_append, List.set_cons_zero, List.set_cons_succ, Option.toList_none, Option.toList_some, Int32.reduceToInt, yu, ya, reduceIte, Nat.reduceEqDiff, Int.toNat_natCast, Int.reduceToNat]
      refine yi_ifge rfl (by first | exact yr_t _ | exact yr_b _ | (unfold yr; omega)) (fun c => ?_) (fun c => ?_)
      · refine ygo 142 90 rfl rfl (by first | exact trivial | (simp only [true_and, eq_self, or_true, true_or, and_true, yu, ya, reduceIte, Nat.reduceEqDiff, Int32.reduceToInt, Int.toNat_natCast, Int.reduceToNat]; omega) | decide | (simp; done) | (simp; omega)) ?_
        try simp only [List.map_cons, List.map_nil, List.length_cons, List.length_nil, ylr_s, ylr_0, Nat.reduceAdd, Nat.reduceSub, List.cons_append, List.nil_append, List.set_cons_zero, List.set_cons_succ, Option.toList_none, Option.toList_some, Int32.reduceToInt, yu, ya, reduceIte, Nat.reduceEqDiff, Int.toNat_natCast, Int.reduceToNat]
        exact fin 0 (fun hn => by rw [hw] at hn; cases hn)
      · omega
    | none =>
      have hz : f2 24 = -1 := by rw [h24, hw]; rfl
      have h22 : f2 22 = P.1 := hm2.2.2.2.2.2.1 hw
      have h22b : f2 22 ≤ bs.length := hm2.2.2.2.2.1
      refine ygo 99999 90 rfl rfl (by first | exact trivial | (simp only [true_and, eq_self, or_true, true_or, and_true, yu, ya, reduceIte, Nat.reduceEqDiff, Int32.reduceToInt, Int.toNat_natCast, Int.reduceToNat]; omega) | decide | (simp; done) | (simp; omega)) ?_
      try simp only [List.map_cons, List.map_nil, List.length_cons, List.length_nil, ylr_s, ylr_0, Nat.reduceAdd, Nat.reduceSub, List.cons_append, List.nil_append, List.set_cons_zero, List.set_cons_succ, Option.toList_none, Option.toList_some, Int32.reduceToInt, yu, ya, reduceIte, Nat.reduceEqDiff, Int.toNat_natCast, Int.reduceToNat]
      refine yi_ifge rfl (by first | exact yr_t _ | exact yr_b _ | (unfold yr; omega)) (fun c => ?_) (fun c => ?_)
      · omega
      · refine ygo 99999 90 rfl rfl (by first | exact trivial | (simp only [true_and, eq_self, or_true, true_or, and_true, yu, ya, reduceIte, Nat.reduceEqDiff, Int32.reduceToInt, Int.toNat_natCast, Int.reduceToNat]; omega) | decide | (simp; done) | (simp; omega)) ?_
        try simp only [List.map_cons, List.map_nil, List.length_cons, List.length_nil, ylr_s, ylr_0, Nat.reduceAdd, Nat.reduceSub, List.cons_append, List.nil_append, List.set_cons_zero, List.set_cons_succ, Option.toList_none, Option.toList_some, Int32.reduceToInt, yu, ya, reduceIte, Nat.reduceEqDiff, Int.toNat_natCast, Int.reduceToNat]
        refine ycV rfl rfl rfl (cm_sumOf (s0 := 1) (n := P.1) hm2.1 hm2.2.1 hp h22 (by omega) rfl) rfl kX9_sumOf iX9_sumOf rfl rfl rfl (Nat.le_of_ble_eq_true rfl) (fun v3 Y3 q3 => ?_)
        obtain ⟨rfl, rfl⟩ := q3
        refine ygo 142 90 rfl rfl (by first | exact trivial | (simp only [true_and, eq_self, or_true, true_or, and_true, yu, ya, reduceIte, Nat.reduceEqDiff, Int32.reduceToInt, Int.toNat_natCast, Int.reduceToNat]; omega) | decide | (simp; done) | (simp; omega)) ?_
        try simp only [List.map_cons, List.map_nil, List.length_cons, List.length_nil, ylr_s, ylr_0, Nat.reduceAdd, Nat.reduceSub, List.cons_append, List.nil_append, List.set_cons_zero, List.set_cons_succ, Option.toList_none, Option.toList_some, Int32.reduceToInt, yu, ya, reduceIte, Nat.reduceEqDiff, Int.toNat_natCast, Int.reduceToNat]
        exact fin _ (fun _ => rfl)
