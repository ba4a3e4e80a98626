theorem nxt_w {bs : List Int32} {lo hi : Int32} {s : pS} (h : s.2.1.isSome = true) : nxt bs lo hi s = (lo, s) := by
  unfold nxt; rw [if_pos h]
theorem refif_w {c : Prop} [Decidable c] {x : Nat} {s : pS} (h : s.2.1.isSome = true) : (if c then refS x s else s) = s := by
  split
  · exact refS_w h
  · rfl
theorem hNeed_w {bs : List Int32} {s : pS} (h : s.2.1.isSome = true) : (hNeed bs s).1 = s.1 ∧ (hNeed bs s).2.1 = s.2.1 := by
  unfold hNeed
  dsimp only
  rw [nxt_w h, refif_w h, nxt_w h, nxt_w h]
  exact ⟨rfl, rfl⟩
theorem hNeed_f {bs : List Int32} {s : pS} {fr : Nat} (h : (hNeed bs s).2.1 = none) : s.2.1 = none ∧ (hNeed bs s).1 = s.1 + 3 ∧ (hNeed bs s).2.2.1.2.1.length = s.2.2.1.2.1.length + 1 ∧ (s.1 = fr + s.2.2.1.2.1.length * 3 → hdN bs fr s.2.2.1.2.1 → hdN bs fr (hNeed bs s).2.2.1.2.1) := by
  unfold hNeed at h ⊢
  dsimp only at h ⊢
  have a1 := nxt_get h
  have a2 := nxt_get a1.1
  have a3 := refif_fine a2.1
  have a4 := nxt_get a3.2
  have e3 : (if (nxt bs 0 63 s).2.2.2.1.2.1.any (fun e => e.1 == (nxt bs 0 63 s).1) = true then refS s.1 (nxt bs 0 63 s).2 else (nxt bs 0 63 s).2) = (nxt bs 0 63 s).2 := if_neg a3.1
  rw [e3] at a1 a2 ⊢
  rw [a4.2.2.1] at a1 a2 ⊢
  rw [a2.2.2.1] at a1 ⊢
  rw [a1.2.2.1]
  dsimp only at a1 a2 ⊢
  refine ⟨a4.1, rfl, by simp, fun hs hd i e he => ?_⟩
  rcases snoc_get he with ⟨hi, he'⟩ | ⟨rfl, rfl⟩
  · exact hd i e he'
  · rw [← hs]
    exact ⟨a4.2.1, a2.2.1, _, a1.2.1, rfl⟩
set_option maxRecDepth 100000 in
set_option maxHeartbeats 2000000 in
theorem l_rhN {G : xG} {d a pk fr m : Nat} {Z : pZ} {bs : List Int32} {fz : Int} {Y0 : yS} {F : pS} {Q : Option yv → yS → Prop} (hp : pkd Z pk bs) (hm4 : m ≤ 4)
    (kq : ∀ (kz : Int) (f : Nat → Int) (A : Nat → List Int32), mRd Z pk bs F (f, A) → fkp Y0 (f, A) → (F.2.1 = none → F.2.2.1.2.1.length = m ∧ F.1 = fr + m * 3 ∧ hdN bs fr F.2.2.1.2.1) → yw G (d + 3) a mX9_readHead 84 [some (.inr 0), some (.inl fz), some (.inl kz)] [] (f, A) Q) : ∀ (n k : Nat) (kz : Int) (s : pS) (f : Nat → Int) (A : Nat → List Int32), k + n = m → kz = k → f 25 = m → hLoop (hNeed bs) n s = F → mRd Z pk bs s (f, A) → fkp Y0 (f, A) → (s.2.1 = none → fz = fr ∧ s.2.2.1.2.1.length = k ∧ s.1 = fr + k * 3 ∧ hdN bs fr s.2.2.1.2.1) →
    yw G (d + 3) a mX9_readHead 48 [some (.inr 0), some (.inl fz), some (.inl kz)] [] (f, A) Q := by
  intro n
  induction n with
  | zero =>
    intro k kz s f A hk hkz h25 hF h hk0 hfine
    have hsF : s = F := hF
    subst hsF
    refine ygo 99999 90 rfl rfl (by first | exact trivial | (simp only [true_and, eq_self, or_true, true_or, and_true, yu, ya, reduceIte, Nat.reduceEqDiff, Int32.reduceToInt, Int.toNat_natCast, Int.reduceToNat]; omega) | decide | (simp; done) | (simp; omega)) ?_
    try simp only [List.map_cons, List.map_nil, List.length_cons, List.length_nil, ylr_s, ylr_0, Nat.reduceAdd, Nat.reduceSub, List.cons_append, List.nil_append, List.set_cons_zero, List.set_cons_succ, Option.toList_none, Option.toList_some, Int32.reduceToInt, yu, ya, reduceIte, Nat.reduceEqDiff, Int.toNat_natCast, Int.reduceToNat]
    refine yi_icmpge rfl (by refine ⟨?_, ?_⟩ <;> first | exact yr_t _ | exact yr_b _ | (unfold yr; omega)) (fun c => ?_) (fun c => ?_)
    · exact kq _ f A h hk0 (fun hn => by have := hfine hn; exact ⟨by omega, by rw [← (show k = m by omega)]; exact this.2.2.1, this.2.2.2⟩)
    · omega
  | succ n ih =>
    intro k kz s f A hk hkz h25 hF h hk0 hfine
    have hwn := cm_wantNew (G := G) (d := d) (a := a) (fr := fr) (ap := 3) (most := 63) (mz := 63) (fz := fz) (nz := kz) (az := 3) (xs := s.2.2.1.2.1.map (fun e => e.1)) h hp rfl (by omega) (fun hn => by
      have := hfine hn
      exact ⟨this.1, by rw [List.length_map]; omega, rfl, by rw [List.length_map]; omega, fun i x hx => by
        rw [List.getElem?_map] at hx
        cases he : s.2.2.1.2.1[i]? with
        | none => rw [he] at hx; cases hx
        | some e => rw [he] at hx; cases hx; exact (this.2.2.2 i e he).1⟩)
    refine ygo 99999 90 rfl rfl (by first | exact trivial | (simp only [true_and, eq_self, or_true, true_or, and_true, yu, ya, reduceIte, Nat.reduceEqDiff, Int32.reduceToInt, Int.toNat_natCast, Int.reduceToNat]; omega) | decide | (simp; done) | (simp; omega)) ?_
    try simp only [List.map_cons, List.map_nil, List.length_cons, List.length_nil, ylr_s, ylr_0, Nat.reduceAdd, Nat.reduceSub, List.cons_append, List.nil_append, List.set_cons_zero, List.set_cons_succ, Option.toList_none, Option.toList_some, Int32.reduceToInt, yu, ya, reduceIte, Nat.reduceEqDiff, Int.toNat_natCast, Int.reduceToNat]
    refine yi_icmpge rfl (by refine ⟨?_, ?_⟩ <;> first | exact yr_t _ | exact yr_b _ | (unfold yr; omega)) (fun c => ?_) (fun c => ?_)
    · omega
    refine ygo 99999 90 rfl rfl (by first | exact trivial | (simp only [true_and, eq_self, or_true, true_or, and_true, yu, ya, reduceIte, Nat.reduceEqDiff, Int32.reduceToInt, Int.toNat_natCast, Int.reduceToNat]; omega) | decide | (simp; done) | (simp; omega)) ?_
    try simp only [List.map_cons, List.map_nil, List.length_cons, List.length_nil, ylr_s, ylr_0, Nat.reduceAdd, Nat.reduceSub, List.cons_append, List.nil_append, List.set_cons_zero, List.set_cons_succ, Option.toList_none, Option.toList_some, Int32.reduceToInt, yu, ya, reduceIte, Nat.reduceEqDiff, Int.toNat_natCast, Int.reduceToNat]
    refine ycV rfl rfl rfl hwn rfl kX9_wantNew iX9_wantNew rfl rfl rfl (Nat.le_of_ble_eq_true rfl) (fun v1 Y1 q1 => ?_)
    obtain ⟨rfl, h1, k1⟩ := q1
    obtain ⟨f1, A1⟩ := Y1
    refine ygo 99999 90 rfl rfl (by first | exact trivial | (simp only [true_and, eq_self, or_true, true_or, and_true, yu, ya, reduceIte, Nat.reduceEqDiff, Int32.reduceToInt, Int.toNat_natCast, Int.reduceToNat]; omega) | decide | (simp; done) | (simp; omega)) ?_
    try simp only [List.map_cons, List.map_nil, List.length_cons, List.length_nil, ylr_s, ylr_0, Nat.reduceAdd, Nat.reduceSub, List.cons_append, List.nil_append, List.set_cons_zero, List.set_cons_succ, Option.toList_none, Option.toList_some, Int32.reduceToInt, yu, ya, reduceIte, Nat.reduceEqDiff, Int.toNat_natCast, Int.reduceToNat]
    refine ycV rfl rfl rfl (cm_want (most := 99) h1 hp rfl (by decide)) rfl kX9_want iX9_want rfl rfl rfl (Nat.le_of_ble_eq_true rfl) (fun v2 Y2 q2 => ?_)
    obtain ⟨rfl, h2, k2⟩ := q2
    obtain ⟨f2, A2⟩ := Y2
    refine ygo 99999 90 rfl rfl (by first | exact trivial | (simp only [true_and, eq_self, or_true, true_or, and_true, yu, ya, reduceIte, Nat.reduceEqDiff, Int32.reduceToInt, Int.toNat_natCast, Int.reduceToNat]; omega) | decide | (simp; done) | (simp; omega)) ?_
    try simp only [List.map_cons, List.map_nil, List.length_cons, List.length_nil, ylr_s, ylr_0, Nat.reduceAdd, Nat.reduceSub, List.cons_append, List.nil_append, List.set_cons_zero, List.set_cons_succ, Option.toList_none, Option.toList_some, Int32.reduceToInt, yu, ya, reduceIte, Nat.reduceEqDiff, Int.toNat_natCast, Int.reduceToNat]
    refine ycV rfl rfl rfl (cm_want (most := 1) h2 hp rfl (by decide)) rfl kX9_want iX9_want rfl rfl rfl (Nat.le_of_ble_eq_true rfl) (fun v3 Y3 q3 => ?_)
    obtain ⟨rfl, h3, k3⟩ := q3
    obtain ⟨f3, A3⟩ := Y3
    have k4 := (k1.tr k2).tr k3
    have e25 : f3 25 = m := (k4.2 25 (by decide) (by decide)).trans h25
    have h4 := hNeed_mRd h3
    refine ygo 48 90 rfl rfl (by first | exact trivial | (simp only [true_and, eq_self, or_true, true_or, and_true, yu, ya, reduceIte, Nat.reduceEqDiff, Int32.reduceToInt, Int.toNat_natCast, Int.reduceToNat]; omega) | decide | (simp; done) | (simp; omega)) ?_
    try simp only [List.map_cons, List.map_nil, List.length_cons, List.length_nil, ylr_s, ylr_0, Nat.reduceAdd, Nat.reduceSub, List.cons_append, List.nil_append, List.set_cons_zero, List.set_cons_succ, Option.toList_none, Option.toList_some, Int32.reduceToInt, yu, ya, reduceIte, Nat.reduceEqDiff, Int.toNat_natCast, Int.reduceToNat]
    cases hw : s.2.1 with
    | some w =>
      have hsm : s.2.1.isSome = true := by rw [hw]; rfl
      have hw2 := hNeed_w (bs := bs) hsm
      rw [hLoop_wrong hsm] at hF
      exact ih (k + 1) _ s f3 A3 (by omega) (by omega) e25 (by rw [hLoop_wrong hsm]; exact hF) (h4.say hw2.1.symm hw2.2.symm) (hk0.tr k4) (fun hc => by rw [hw] at hc; cases hc)
    | none =>
      have hF' : hLoop (hNeed bs) n (hNeed bs s) = F := by
        rw [← hF]
        show _ = if s.2.1.isSome = true then s else hLoop (hNeed bs) n (hNeed bs s)
        rw [if_neg (by rw [hw]; decide)]
      have hf := hfine hw
      exact ih (k + 1) _ (hNeed bs s) f3 A3 (by omega) (by omega) e25 hF' h4 (hk0.tr k4) (fun hc => by
        have hq := hNeed_f (fr := fr) hc
        exact ⟨hf.1, by omega, by omega, hq.2.2.2 (by omega) hf.2.2.2⟩)
def hdS (bs : List Int32) (fr : Nat) (sl : List Int32) : Prop := ∀ (i : Nat) (e : Int32), sl[i]? = some e → bs[fr + i * 1]? = some e
theorem hSeal_mRd {Z : pZ} {pk : Nat} {bs : List Int32} {s : pS} {Y : yS} (h : mRd Z pk bs (wN bs 15 s.2.2.1.2.2.1 s) Y) : mRd Z pk bs (hSeal bs s) Y := by
  have e : (nxt bs 0 15 s).2.2.2.1.2.2.1.any (fun e => e == (nxt bs 0 15 s).1) = s.2.2.1.2.2.1.any (fun x => x == (nxt bs 0 15 s).1) := by
    rw [nxt_rest]
  unfold hSeal
  dsimp only
  unfold wN at h
  rw [← e] at h
  exact h
theorem hSeal_w {bs : List Int32} {s : pS} (h : s.2.1.isSome = true) : (hSeal bs s).1 = s.1 ∧ (hSeal bs s).2.1 = s.2.1 := by
  unfold hSeal
  dsimp only
  rw [nxt_w h, refif_w h]
  exact ⟨rfl, rfl⟩
theorem hSeal_f {bs : List Int32} {s : pS} {fr : Nat} (h : (hSeal bs s).2.1 = none) : s.2.1 = none ∧ (hSeal bs s).1 = s.1 + 1 ∧ (hSeal bs s).2.2.1.2.2.1.length = s.2.2.1.2.2.1.length + 1 ∧ (s.1 = fr + s.2.2.1.2.2.1.length → hdS bs fr s.2.2.1.2.2.1 → hdS bs fr (hSeal bs s).2.2.1.2.2.1) := by
  unfold hSeal at h ⊢
  dsimp only at h ⊢
  have a3 := refif_fine h
  have a4 := nxt_get a3.2
  have e3 : (if (nxt bs 0 15 s).2.2.2.1.2.2.1.any (fun e => e == (nxt bs 0 15 s).1) = true then refS s.1 (nxt bs 0 15 s).2 else (nxt bs 0 15 s).2) = (nxt bs 0 15 s).2 := if_neg a3.1
  rw [e3, a4.2.2.1]
  dsimp only
  refine ⟨a4.1, rfl, by simp, fun hs hd i e he => ?_⟩
  rcases snoc_get he with ⟨hi, he'⟩ | ⟨rfl, rfl⟩
  · exact hd i e he'
  · rw [Nat.mul_one, ← hs]
    exact a4.2.1
set_option maxRecDepth 100000 in
set_option maxHeartbeats 2000000 in
theorem l_rhS {G : xG} {d a pk fr m : Nat} {Z : pZ} {bs : List Int32} {fz : Int} {Y0 : yS} {F : pS} {Q : Option yv → yS → Prop} (hp : pkd Z pk bs) (hm4 : m ≤ 4)
    (kq : ∀ (kz : Int) (f : Nat → Int) (A : Nat → List Int32), mRd Z pk bs F (f, A) → fkp Y0 (f, A) → (F.2.1 = none → F.2.2.1.2.2.1.length = m ∧ F.1 = fr + m ∧ hdS bs fr F.2.2.1.2.2.1) → yw G (d + 3) a mX9_readHead 123 [some (.inr 0), some (.inl fz), some (.inl kz)] [] (f, A) Q) : ∀ (n k : Nat) (kz : Int) (s : pS) (f : Nat → Int) (A : Nat → List Int32), k + n = m → kz = k → f 26 = m → hLoop (hSeal bs) n s = F → mRd Z pk bs s (f, A) → fkp Y0 (f, A) → (s.2.1 = none → fz = fr ∧ s.2.2.1.2.2.1.length = k ∧ s.1 = fr + k ∧ hdS bs fr s.2.2.1.2.2.1) →
    yw G (d + 3) a mX9_readHead 100 [some (.inr 0), some (.inl fz), some (.inl kz)] [] (f, A) Q := by
  intro n
  induction n with
  | zero =>
    intro k kz s f A hk hkz h25 hF h hk0 hfine
    have hsF : s = F := hF
    subst hsF
    refine ygo 99999 90 rfl rfl (by first | exact trivial | (simp only [true_and, eq_self, or_true, true_or, and_true, yu, ya, reduceIte, Nat.reduceEqDiff, Int32.reduceToInt, Int.toNat_natCast, Int.reduceToNat]; omega) | decide | (simp; done) | (simp; omega)) ?_
    try simp only [List.map_cons, List.map_nil, List.length_cons, List.length_nil, ylr_s, ylr_0, Nat.reduceAdd, Nat.reduceSub, List.cons_append, List.nil_append, List.set_cons_zero, List.set_cons_succ, Option.toList_none, Option.toList_some, Int32.reduceToInt, yu, ya, reduceIte, Nat.reduceEqDiff, Int.toNat_natCast, Int.reduceToNat]
    refine yi_icmpge rfl (by refine ⟨?_, ?_⟩ <;> first | exact yr_t _ | exact yr_b _ | (unfold yr; omega)) (fun c => ?_) (fun c => ?_)
    · exact kq _ f A h hk0 (fun hn => by have := hfine hn; exact ⟨by omega, by omega, this.2.2.2⟩)
    · omega
  | succ n ih =>
    intro k kz s f A hk hkz h25 hF h hk0 hfine
    have hwn := cm_wantNew (G := G) (d := d) (a := a) (fr := fr) (ap := 1) (most := 15) (mz := 15) (fz := fz) (nz := kz) (az := 1) (xs := s.2.2.1.2.2.1) h hp rfl (by omega) (fun hn => by
      have := hfine hn
      exact ⟨this.1, by omega, rfl, by omega, fun i x hx => this.2.2.2 i x hx⟩)
    refine ygo 99999 90 rfl rfl (by first | exact trivial | (simp only [true_and, eq_self, or_true, true_or, and_true, yu, ya, reduceIte, Nat.reduceEqDiff, Int32.reduceToInt, Int.toNat_natCast, Int.reduceToNat]; omega) | decide | (simp; done) | (simp; omega)) ?_
    try simp only [List.map_cons, List.map_nil, List.length_cons, List.length_nil, ylr_s, ylr_0, Nat.reduceAdd, Nat.reduceSub, List.cons_append, List.nil_append, List.set_cons_zero, List.set_cons_succ, Option.toList_none, Option.toList_some, Int32.reduceToInt, yu, ya, reduceIte, Nat.reduceEqDiff, Int.toNat_natCast, Int.reduceToNat]
    refine yi_icmpge rfl (by refine ⟨?_, ?_⟩ <;> first | exact yr_t _ | exact yr_b _ | (unfold yr; omega)) (fun c => ?_) (fun c => ?_)
    · omega
    refine ygo 99999 90 rfl rfl (by first | exact trivial | (simp only [true_and, eq_self, or_true, true_or, and_true, yu, ya, reduceIte, Nat.reduceEqDiff, Int32.reduceToInt, Int.toNat_natCast, Int.reduceToNat]; omega) | decide | (simp; done) | (simp; omega)) ?_
    try simp only [List.map_cons, List.map_nil, List.length_cons, List.length_nil, ylr_s, ylr_0, Nat.reduceAdd, Nat.reduceSub, List.cons_append, List.nil_append, List.set_cons_zero, List.set_cons_succ, Option.toList_none, Option.toList_some, Int32.reduceToInt, yu, ya, reduceIte, Nat.reduceEqDiff, Int.toNat_natCast, Int.reduceToNat]
    refine ycV rfl rfl rfl hwn rfl kX9_wantNew iX9_wantNew rfl rfl rfl (Nat.le_of_ble_eq_true rfl) (fun v1 Y1 q1 => ?_)
    obtain ⟨rfl, h1, k1⟩ := q1
    obtain ⟨f3, A3⟩ := Y1
    have e25 : f3 26 = m := (k1.2 26 (by decide) (by decide)).trans h25
    have h4 := hSeal_mRd h1
    refine ygo 100 90 rfl rfl (by first | exact trivial | (simp only [true_and, eq_self, or_true, true_or, and_true, yu, ya, reduceIte, Nat.reduceEqDiff, Int32.reduceToInt, Int.toNat_natCast, Int.reduceToNat]; omega) | decide | (simp; done) | (simp; omega)) ?_
    try simp only [List.map_cons, List.map_nil, List.length_cons, List.length_nil, ylr_s, ylr_0, Nat.reduceAdd, Nat.reduceSub, List.cons_append, List.nil_append, List.set_cons_zero, List.set_cons_succ, Option.toList_none, Option.toList_some, Int32.reduceToInt, yu, ya, reduceIte, Nat.reduceEqDiff, Int.toNat_natCast, Int.reduceToNat]
    cases hw : s.2.1 with
    | some w =>
      have hsm : s.2.1.isSome = true := by rw [hw]; rfl
      have hw2 := hSeal_w (bs := bs) hsm
      rw [hLoop_wrong hsm] at hF
      exact ih (k + 1) _ s f3 A3 (by omega) (by omega) e25 (by rw [hLoop_wrong hsm]; exact hF) (h4.say hw2.1.symm hw2.2.symm) (hk0.tr k1) (fun hc => by rw [hw] at hc; cases hc)
    | none =>
      have hF' : hLoop (hSeal bs) n (hSeal bs s) = F := by
        rw [← hF]
        show _ = if s.2.1.isSome = true then s else hLoop (hSeal bs) n (hSeal bs s)
        rw [if_neg (by rw [hw]; decide)]
      have hf := hfine hw
      exact ih (k + 1) _ (hSeal bs s) f3 A3 (by omega) (by omega) e25 hF' h4 (hk0.tr k1) (fun hc => by
        have hq := hSeal_f (fr := fr) hc
        exact ⟨hf.1, by omega, by omega, hq.2.2.2 (by omega) hf.2.2.2⟩)
