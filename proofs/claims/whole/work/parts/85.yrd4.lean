/-- the rows, so far as they are heard, by their bytes -/
def hdR (bs : List Int32) (fr : Nat) (rw : List (Int32 × Int32 × List Int32)) (ln sz : List Int32) : Prop := ∀ (i : Nat) (e : Int32 × Int32 × List Int32), rw[i]? = some e → bs[fr + i * 6]? = some e.1 ∧ bs[fr + i * 6 + 1]? = some e.2.1 ∧ e.2.2 = [] ∧ (∃ l, bs[fr + i * 6 + 3]? = some l ∧ ln[i]? = some l ∧ 0 ≤ l.toInt ∧ l.toInt ≤ 120) ∧ ∃ z, bs[fr + i * 6 + 5]? = some z ∧ sz[i]? = some z ∧ 0 ≤ z.toInt ∧ z.toInt ≤ 250
theorem nxt_say {bs : List Int32} {lo hi : Int32} {s s' : pS} (e1 : s'.1 = s.1) (e2 : s'.2.1 = s.2.1) : (nxt bs lo hi s').1 = (nxt bs lo hi s).1 ∧ (nxt bs lo hi s').2.1 = (nxt bs lo hi s).2.1 ∧ (nxt bs lo hi s').2.2.1 = (nxt bs lo hi s).2.2.1 := by
  unfold nxt
  rw [e1, e2]
  split
  · exact ⟨rfl, e1, e2⟩
  · split
    · exact ⟨rfl, rfl, rfl⟩
    · exact ⟨rfl, rfl, rfl⟩
theorem hPair_say {bs : List Int32} {hi : Int32} {s s' : pS} (e1 : s'.1 = s.1) (e2 : s'.2.1 = s.2.1) : (hPair bs hi s').1 = (hPair bs hi s).1 ∧ (hPair bs hi s').2.1 = (hPair bs hi s).2.1 ∧ (hPair bs hi s').2.2.1 = (hPair bs hi s).2.2.1 := by
  unfold hPair
  have h := nxt_say (bs := bs) (lo := 0) (hi := 0) e1 e2
  exact nxt_say h.2.1 h.2.2
theorem hRow_mRd {Z : pZ} {pk : Nat} {bs : List Int32} {s : pS} {Y : yS} (h : mRd Z pk bs (hPair bs 250 (hPair bs 120 (nxt bs 0 2 (wN bs 255 (s.2.2.1.2.2.2.map (fun e => e.1)) s)).2).2).2 Y) : mRd Z pk bs (hRow bs s) Y := by
  have e : ((nxt bs 0 255 s).2.2.2.1.2.2.2.findIdx? (fun e => e.1 == (nxt bs 0 255 s).1)).isSome = (s.2.2.1.2.2.2.map (fun e => e.1)).any (fun x => x == (nxt bs 0 255 s).1) := by
    rw [nxt_rest, List.any_map, ← any_fi]; rfl
  unfold wN at h
  rw [← e] at h
  unfold hRow
  dsimp only
  generalize (if ((nxt bs 0 255 s).2.2.2.1.2.2.2.findIdx? (fun e => e.1 == (nxt bs 0 255 s).1)).isSome = true then refS s.1 (nxt bs 0 255 s).2 else (nxt bs 0 255 s).2) = s1 at h ⊢
  generalize nxt bs 0 2 s1 = p at h ⊢
  have h1 := hPair_say (bs := bs) (hi := 120) (s := p.2) (s' := (p.2.1, p.2.2.1, (p.2.2.2.1.1, p.2.2.2.1.2.1, p.2.2.2.1.2.2.1, p.2.2.2.1.2.2.2 ++ [((nxt bs 0 255 s).1, p.1, [])]), p.2.2.2.2)) rfl rfl
  generalize hPair bs 120 (p.2.1, p.2.2.1, (p.2.2.2.1.1, p.2.2.2.1.2.1, p.2.2.2.1.2.2.1, p.2.2.2.1.2.2.2 ++ [((nxt bs 0 255 s).1, p.1, [])]), p.2.2.2.2) = l at h1 ⊢
  have h2 := hPair_say (bs := bs) (hi := 250) (s := (hPair bs 120 p.2).2) (s' := (l.2.1, l.2.2.1, l.2.2.2.1, l.2.2.2.2.1.set s.2.2.1.2.2.2.length l.1, l.2.2.2.2.2)) h1.2.1 h1.2.2
  exact h.say h2.2.1 h2.2.2
theorem hPair_w {bs : List Int32} {hi : Int32} {s : pS} (h : s.2.1.isSome = true) : hPair bs hi s = (0, s) := by
  unfold hPair
  rw [nxt_w h, nxt_w h]
theorem hRow_w {bs : List Int32} {s : pS} (h : s.2.1.isSome = true) : (hRow bs s).1 = s.1 ∧ (hRow bs s).2.1 = s.2.1 := by
  unfold hRow
  dsimp only
  rw [nxt_w h, refif_w h, nxt_w h]
  dsimp only
  rw [hPair_w (hi := 120) (by exact h)]
  dsimp only
  rw [hPair_w (hi := 250) (by exact h)]
  exact ⟨rfl, rfl⟩
theorem hPair_get {bs : List Int32} {hi : Int32} {s : pS} (h : (hPair bs hi s).2.2.1 = none) : s.2.1 = none ∧ bs[s.1 + 1]? = some (hPair bs hi s).1 ∧ (hPair bs hi s).2 = (s.1 + 2, none, s.2.2) ∧ 0 ≤ (hPair bs hi s).1 ∧ (hPair bs hi s).1 ≤ hi := by
  unfold hPair at h ⊢
  have a1 := nxt_get h
  have a2 := nxt_get a1.1
  rw [a2.2.2.1] at a1 ⊢
  exact ⟨a2.1, a1.2.1, a1.2.2.1, a1.2.2.2⟩
theorem hRow_f {bs : List Int32} {s : pS} {fr : Nat} (h : (hRow bs s).2.1 = none) (l1 : s.2.2.2.1.length = 8) (l2 : s.2.2.2.2.length = 8) (hr8 : s.2.2.1.2.2.2.length < 8) : s.2.1 = none ∧ (hRow bs s).1 = s.1 + 6 ∧ (hRow bs s).2.2.1.2.2.2.length = s.2.2.1.2.2.2.length + 1 ∧ (s.1 = fr + s.2.2.1.2.2.2.length * 6 → hdR bs fr s.2.2.1.2.2.2 s.2.2.2.1 s.2.2.2.2 → hdR bs fr (hRow bs s).2.2.1.2.2.2 (hRow bs s).2.2.2.1 (hRow bs s).2.2.2.2) := by
  unfold hRow at h ⊢
  dsimp only at h ⊢
  have b1 := hPair_get h
  have b2 := hPair_get b1.1
  have b3 := nxt_get b2.1
  have b4 := refif_fine b3.1
  have b5 := nxt_get b4.2
  have e3 : (if ((nxt bs 0 255 s).2.2.2.1.2.2.2.findIdx? (fun e => e.1 == (nxt bs 0 255 s).1)).isSome = true then refS s.1 (nxt bs 0 255 s).2 else (nxt bs 0 255 s).2) = (nxt bs 0 255 s).2 := if_neg b4.1
  rw [e3] at b1 b2 b3 ⊢
  rw [b5.2.2.1] at b1 b2 b3 ⊢
  rw [b3.2.2.1] at b1 b2 ⊢
  dsimp only at b1 b2 b3 ⊢
  rw [b2.2.2.1] at b1 ⊢
  dsimp only at b1 ⊢
  rw [b1.2.2.1]
  dsimp only
  refine ⟨b5.1, rfl, by simp, fun hs hd i e he => ?_⟩
  have z0 : (0 : Int32).toInt = 0 := rfl
  have z120 : (120 : Int32).toInt = 120 := rfl
  have z250 : (250 : Int32).toInt = 250 := rfl
  rcases snoc_get he with ⟨hi, he'⟩ | ⟨rfl, rfl⟩
  · obtain ⟨c1, c2, c3, ⟨l, c4, c5, c6⟩, z, c7, c8, c9⟩ := hd i e he'
    exact ⟨c1, c2, c3, ⟨l, c4, by rw [List.getElem?_set_ne (by omega)]; exact c5, c6⟩, z, c7, by rw [List.getElem?_set_ne (by omega)]; exact c8, c9⟩
  · rw [← hs]
    have b24 := b2.2.2.2
    have b14 := b1.2.2.2
    rw [i_le, i_le] at b24 b14
    exact ⟨b5.2.1, b3.2.1, rfl, ⟨_, b2.2.1, List.getElem?_set_self (by omega), by omega, by omega⟩, _, b1.2.1, List.getElem?_set_self (by omega), by omega, by omega⟩
theorem hRow_len {bs : List Int32} {s : pS} : (hRow bs s).2.2.2.1.length = s.2.2.2.1.length ∧ (hRow bs s).2.2.2.2.length = s.2.2.2.2.length := by
  unfold hRow
  dsimp only
  rw [hPair_rest]
  dsimp only
  rw [hPair_rest]
  dsimp only
  rw [nxt_rest, refif_rest, nxt_rest]
  simp
set_option maxRecDepth 100000 in
set_option maxHeartbeats 2000000 in
theorem l_rhR {G : xG} {d a pk fr m : Nat} {Z : pZ} {bs : List Int32} {fz : Int} {Y0 : yS} {F : pS} {Q : Option yv → yS → Prop} (hp : pkd Z pk bs) (hm8 : m ≤ 8)
    (kq : ∀ (f : Nat → Int) (A : Nat → List Int32), mRd Z pk bs F (f, A) → fkp Y0 (f, A) → (F.2.1 = none → F.2.2.1.2.2.2.length = m ∧ F.1 = fr + m * 6 ∧ hdR bs fr F.2.2.1.2.2.2 F.2.2.2.1 F.2.2.2.2) → Q none (f, A)) : ∀ (n k : Nat) (kz : Int) (s : pS) (f : Nat → Int) (A : Nat → List Int32), k + n = m → kz = k → f 27 = m → hLoop (hRow bs) n s = F → mRd Z pk bs s (f, A) → fkp Y0 (f, A) → s.2.2.2.1.length = 8 → s.2.2.2.2.length = 8 → yr (f 28) → (s.2.1 = none → f 28 = fr ∧ s.2.2.1.2.2.2.length = k ∧ s.1 = fr + k * 6 ∧ hdR bs fr s.2.2.1.2.2.2 s.2.2.2.1 s.2.2.2.2) →
    yw G (d + 3) a mX9_readHead 143 [some (.inr 0), some (.inl fz), some (.inl kz)] [] (f, A) Q := by
  intro n
  induction n with
  | zero =>
    intro k kz s f A hk hkz h25 hF h hk0 l1 l2 hy hfine
    have hsF : s = F := hF
    subst hsF
    refine ygo 99999 90 rfl rfl (by first | exact trivial | (simp only [true_and, eq_self, or_true, true_or, and_true, yu, ya, reduceIte, Nat.reduceEqDiff, Int32.reduceToInt, Int.toNat_natCast, Int.reduceToNat]; omega) | decide | (simp; done) | (simp; omega)) ?_
    try simp only [List.map_cons, List.map_nil, List.length_cons, List.length_nil, ylr_s, ylr_0, Nat.reduceAdd, Nat.reduceSub, List.cons_append, List.nil_append, List.set_cons_zero, List.set_cons_succ, Option.toList_none, Option.toList_some, Int32.reduceToInt, yu, ya, reduceIte, Nat.reduceEqDiff, Int.toNat_natCast, Int.reduceToNat]
    refine yi_icmpge rfl (by refine ⟨?_, ?_⟩ <;> first | exact yr_t _ | exact yr_b _ | (unfold yr; omega)) (fun c => ?_) (fun c => ?_)
    · refine ygo 99999 90 rfl rfl (by first | exact trivial | (simp only [true_and, eq_self, or_true, true_or, and_true, yu, ya, reduceIte, Nat.reduceEqDiff, Int32.reduceToInt, Int.toNat_natCast, Int.reduceToNat]; omega) | decide | (simp; done) | (simp; omega)) ?_
      try simp only [List.map_cons, List.map_nil, List.length_cons, List.length_nil, ylr_s, ylr_0, Nat.reduceAdd, Nat.reduceSub, List.cons_append, List.nil_append, List.set_cons_zero, List.set_cons_succ, Option.toList_none, Option.toList_some, Int32.reduceToInt, yu, ya, reduceIte, Nat.reduceEqDiff, Int.toNat_natCast, Int.reduceToNat]
      refine yi_ret_v rfl rfl (kq f A h hk0 (fun hn => by have := hfine hn; exact ⟨by omega, by rw [← (show k = m by omega)]; exact this.2.2.1, this.2.2.2⟩))
    · omega
  | succ n ih =>
    intro k kz s f A hk hkz h25 hF h hk0 l1 l2 hy hfine
    have hwn := cm_wantNew (G := G) (d := d) (a := a) (fr := fr) (ap := 6) (most := 255) (mz := 255) (fz := f 28) (nz := kz) (az := 6) (xs := s.2.2.1.2.2.2.map (fun e => e.1)) h hp rfl (by omega) (fun hn => by
      have := hfine hn
      exact ⟨this.1, by rw [List.length_map]; omega, rfl, by rw [List.length_map]; omega, fun i x hx => by
        rw [List.getElem?_map] at hx
        cases he : s.2.2.1.2.2.2[i]? with
        | none => rw [he] at hx; cases hx
        | some e => rw [he] at hx; cases hx; exact (this.2.2.2 i e he).1⟩)
    refine ygo 99999 90 rfl rfl (by first | exact trivial | (simp only [true_and, eq_self, or_true, true_or, and_true, yu, ya, reduceIte, Nat.reduceEqDiff, Int32.reduceToInt, Int.toNat_natCast, Int.reduceToNat]; omega) | decide | (simp; done) | (simp; omega)) ?_
    try simp only [List.map_cons, List.map_nil, List.length_cons, List.length_nil, ylr_s, ylr_0, Nat.reduceAdd, Nat.reduceSub, List.cons_append, List.nil_append, List.set_cons_zero, List.set_cons_succ, Option.toList_none, Option.toList_some, Int32.reduceToInt, yu, ya, reduceIte, Nat.reduceEqDiff, Int.toNat_natCast, Int.reduceToNat]
    refine yi_icmpge rfl (by refine ⟨?_, ?_⟩ <;> first | exact yr_t _ | exact yr_b _ | (unfold yr; omega)) (fun c => ?_) (fun c => ?_)
    · omega
    refine ygo 99999 90 rfl rfl (by first | exact trivial | (simp only [true_and, eq_self, or_true, true_or, and_true, yu, ya, reduceIte, Nat.reduceEqDiff, Int32.reduceToInt, Int.toNat_natCast, Int.reduceToNat]; omega) | decide | (simp; done) | (simp; omega)) ?_
    try simp only [List.map_cons, List.map_nil, List.length_cons, List.length_nil, ylr_s, ylr_0, Nat.reduceAdd, Nat.reduceSub, List.cons_append, List.nil_append, List.set_cons_zero, List.set_cons_succ, Option.toList_none, Option.toList_some, Int32.reduceToInt, yu, ya, reduceIte, Nat.reduceEqDiff, Int.toNat_natCast, Int.reduceToNat]
    refine ycV rfl rfl rfl hwn rfl kX9_wantNew iX9_wantNew rfl rfl rfl (Nat.le_of_ble_eq_true rfl) (fun v1 Y1 q1 => ?_)
    obtain ⟨rfl, h1, k1⟩ := q1
    obtain ⟨f1, A1⟩ := Y1
    refine ygo 99999 90 rfl rfl (by first | exact trivial | (simp only [true_and, eq_self, or_true, true_or, and_true, yu, ya, reduceIte, Nat.reduceEqDiff, Int32.reduceToInt, Int.toNat_natCast, Int.reduceToNat]; omega) | decide | (simp; done) | (simp; omega)) ?_
    try simp only [List.map_cons, List.map_nil, List.length_cons, List.length_nil, ylr_s, ylr_0, Nat.reduceAdd, Nat.reduceSub, List.cons_append, List.nil_append, List.set_cons_zero, List.set_cons_succ, Option.toList_none, Option.toList_some, Int32.reduceToInt, yu, ya, reduceIte, Nat.reduceEqDiff, Int.toNat_natCast, Int.reduceToNat]
    refine ycV rfl rfl rfl (cm_want (most := 2) h1 hp rfl (by decide)) rfl kX9_want iX9_want rfl rfl rfl (Nat.le_of_ble_eq_true rfl) (fun v2 Y2 q2 => ?_)
    obtain ⟨rfl, h2, k2⟩ := q2
    obtain ⟨f2, A2⟩ := Y2
    refine ygo 99999 90 rfl rfl (by first | exact trivial | (simp only [true_and, eq_self, or_true, true_or, and_true, yu, ya, reduceIte, Nat.reduceEqDiff, Int32.reduceToInt, Int.toNat_natCast, Int.reduceToNat]; omega) | decide | (simp; done) | (simp; omega)) ?_
    try simp only [List.map_cons, List.map_nil, List.length_cons, List.length_nil, ylr_s, ylr_0, Nat.reduceAdd, Nat.reduceSub, List.cons_append, List.nil_append, List.set_cons_zero, List.set_cons_succ, Option.toList_none, Option.toList_some, Int32.reduceToInt, yu, ya, reduceIte, Nat.reduceEqDiff, Int.toNat_natCast, Int.reduceToNat]
    refine ycV rfl rfl rfl (cm_wantTwo (most := 120) h2 hp rfl (by decide)) rfl kX9_wantTwo iX9_wantTwo rfl rfl rfl (Nat.le_of_ble_eq_true rfl) (fun v3 Y3 q3 => ?_)
    obtain ⟨rfl, h3, k3⟩ := q3
    obtain ⟨f3, A3⟩ := Y3
    refine ygo 99999 90 rfl rfl (by first | exact trivial | (simp only [true_and, eq_self, or_true, true_or, and_true, yu, ya, reduceIte, Nat.reduceEqDiff, Int32.reduceToInt, Int.toNat_natCast, Int.reduceToNat]; omega) | decide | (simp; done) | (simp; omega)) ?_
    try simp only [List.map_cons, List.map_nil, List.length_cons, List.length_nil, ylr_s, ylr_0, Nat.reduceAdd, Nat.reduceSub, List.cons_append, List.nil_append, List.set_cons_zero, List.set_cons_succ, Option.toList_none, Option.toList_some, Int32.reduceToInt, yu, ya, reduceIte, Nat.reduceEqDiff, Int.toNat_natCast, Int.reduceToNat]
    refine ycV rfl rfl rfl (cm_wantTwo (most := 250) h3 hp rfl (by decide)) rfl kX9_wantTwo iX9_wantTwo rfl rfl rfl (Nat.le_of_ble_eq_true rfl) (fun v4 Y4 q4 => ?_)
    obtain ⟨rfl, h4, k4⟩ := q4
    obtain ⟨f4, A4⟩ := Y4
    have k5 := ((k1.tr k2).tr k3).tr k4
    have e27 : f4 27 = m := (k5.2 27 (by decide) (by decide)).trans h25
    have e28 : f4 28 = f 28 := k5.2 28 (by decide) (by decide)
    have h5 := hRow_mRd h4
    refine ygo 143 90 rfl rfl (by first | exact trivial | (simp only [true_and, eq_self, or_true, true_or, and_true, yu, ya, reduceIte, Nat.reduceEqDiff, Int32.reduceToInt, Int.toNat_natCast, Int.reduceToNat]; omega) | decide | (simp; done) | (simp; omega)) ?_
    try simp only [List.map_cons, List.map_nil, List.length_cons, List.length_nil, ylr_s, ylr_0, Nat.reduceAdd, Nat.reduceSub, List.cons_append, List.nil_append, List.set_cons_zero, List.set_cons_succ, Option.toList_none, Option.toList_some, Int32.reduceToInt, yu, ya, reduceIte, Nat.reduceEqDiff, Int.toNat_natCast, Int.reduceToNat]
    cases hw : s.2.1 with
    | some w =>
      have hsm : s.2.1.isSome = true := by rw [hw]; rfl
      have hw2 := hRow_w (bs := bs) hsm
      rw [hLoop_wrong hsm] at hF
      exact ih (k + 1) _ s f4 A4 (by omega) (by omega) e27 (by rw [hLoop_wrong hsm]; exact hF) (h5.say hw2.1.symm hw2.2.symm) (hk0.tr k5) l1 l2 (by rw [e28]; exact hy) (fun hc => by rw [hw] at hc; cases hc)
    | none =>
      have hF' : hLoop (hRow bs) n (hRow bs s) = F := by
        rw [← hF]
        show _ = if s.2.1.isSome = true then s else hLoop (hRow bs) n (hRow bs s)
        rw [if_neg (by rw [hw]; decide)]
      have hf := hfine hw
      have hl := hRow_len (bs := bs) (s := s)
      exact ih (k + 1) _ (hRow bs s) f4 A4 (by omega) (by omega) e27 hF' h5 (hk0.tr k5) (by omega) (by omega) (by rw [e28]; exact hy) (fun hc => by
        have hq := hRow_f (fr := fr) hc l1 l2 (by omega)
        exact ⟨by rw [e28]; exact hf.1, by omega, by omega, hq.2.2.2 (by omega) hf.2.2.2⟩)
