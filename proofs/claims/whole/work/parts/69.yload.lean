set_option maxRecDepth 100000 in
set_option maxHeartbeats 2000000 in
theorem o_load {G : xG} {d a : Nat} {p s i : Int32} {Z : pZ} {f : Nat → Int} {A : Nat → List Int32} (h : mR Z (f, A)) (hk : okP Z.2.2.1) : ym G (d + 20) a mX9_load [.inr 0, .inl p.toInt, .inl s.toInt, .inl i.toInt] (f, A) (ypost (F_load p s i Z)) := by
  have hl := hk.1
  have hpa := cm_parts (G := G) (d := d + 18) (a := a) (p := p) (s := s) h hk
  unfold F_load
  unfold F_parts at hpa
  refine ym.len (fun hlen => ?_)
  cases hp : pget Z.2.2.1 p with
  | none =>
    rw [hp] at hpa
    refine ym_at 7 rfl (by decide) (Nat.le_of_ble_eq_true rfl) tX9_load_ok ?_
    try simp only [List.map_cons, List.map_nil, List.length_cons, List.length_nil, ylr_s, ylr_0, Nat.reduceAdd, Nat.reduceSub, List.cons_append, List.nil_append, List.set_cons_zero, List.set_cons_succ, Option.toList_none, Option.toList_some, Int32.reduceToInt, yu, ya, reduceIte, Nat.reduceEqDiff, Int.toNat_natCast, Int.reduceToNat]
    refine ygo 99999 90 rfl rfl (by first | exact trivial | (simp only [true_and, yu, ya, reduceIte, Nat.reduceEqDiff, Int32.reduceToInt, Int.toNat_natCast, Int.reduceToNat]; omega) | decide | (simp; done)) ?_
    try simp only [List.map_cons, List.map_nil, List.length_cons, List.length_nil, ylr_s, ylr_0, Nat.reduceAdd, Nat.reduceSub, List.cons_append, List.nil_append, List.set_cons_zero, List.set_cons_succ, Option.toList_none, Option.toList_some, Int32.reduceToInt, yu, ya, reduceIte, Nat.reduceEqDiff, Int.toNat_natCast, Int.reduceToNat]
    refine ycV rfl rfl rfl hpa rfl kX9_parts iX9_parts rfl rfl rfl (Nat.le_of_ble_eq_true rfl) (fun v1 Y1 q1 => ?_)
    obtain ⟨rfl, rfl⟩ := q1
    refine ygo 99999 90 rfl rfl (by first | exact trivial | (simp only [true_and, yu, ya, reduceIte, Nat.reduceEqDiff, Int32.reduceToInt, Int.toNat_natCast, Int.reduceToNat]; omega) | decide | (simp; done)) ?_
    try simp only [List.map_cons, List.map_nil, List.length_cons, List.length_nil, ylr_s, ylr_0, Nat.reduceAdd, Nat.reduceSub, List.cons_append, List.nil_append, List.set_cons_zero, List.set_cons_succ, Option.toList_none, Option.toList_some, Int32.reduceToInt, yu, ya, reduceIte, Nat.reduceEqDiff, Int.toNat_natCast, Int.reduceToNat]
    refine yi_iflt rfl (by first | exact yr_t _ | exact yr_b _ | (unfold yr; omega)) (fun c1 => ?_) (fun c1 => ?_)
    · refine ygo 99999 90 rfl rfl (by first | exact trivial | (simp only [true_and, yu, ya, reduceIte, Nat.reduceEqDiff, Int32.reduceToInt, Int.toNat_natCast, Int.reduceToNat]; omega) | decide | (simp; done)) ?_
      try simp only [List.map_cons, List.map_nil, List.length_cons, List.length_nil, ylr_s, ylr_0, Nat.reduceAdd, Nat.reduceSub, List.cons_append, List.nil_append, List.set_cons_zero, List.set_cons_succ, Option.toList_none, Option.toList_some, Int32.reduceToInt, yu, ya, reduceIte, Nat.reduceEqDiff, Int.toNat_natCast, Int.reduceToNat]
      refine yi_ret_i rfl rfl (ypost.same h rfl rfl)
    · exact absurd (by decide) c1
  | some x =>
    rw [hp] at hpa
    dsimp only at hpa ⊢
    by_cases hs : 8 ≤ s.toInt ∧ s.toInt ≤ 100
    · rw [if_neg (fun hc => hc hs)]
      rw [if_pos hs] at hpa
      obtain ⟨j, rfl, hj, hj16, hjj⟩ := pget_s hp hl
      have hxl := (hk.2 x (List.mem_of_getElem? hj)).2.1
      generalize hm : s.toInt.toNat = m at hpa ⊢
      have hsm : s.toInt = m := by omega
      have hpl := pcnt_le (n := x.2.2.length) (m := m) (by omega) (by omega)
      generalize hmany : pcnt x.2.2.length m = many at hpa hpl ⊢
      rw [i_n (show j < 2 ^ 31 by omega), hsm] at hpa
      rw [i_n (show j < 2 ^ 31 by omega), hsm]
      have hmi : (nI many).toInt = many := i_n (by omega)
      refine ym_at 7 rfl (by decide) (Nat.le_of_ble_eq_true rfl) tX9_load_ok ?_
      try simp only [List.map_cons, List.map_nil, List.length_cons, List.length_nil, ylr_s, ylr_0, Nat.reduceAdd, Nat.reduceSub, List.cons_append, List.nil_append, List.set_cons_zero, List.set_cons_succ, Option.toList_none, Option.toList_some, Int32.reduceToInt, yu, ya, reduceIte, Nat.reduceEqDiff, Int.toNat_natCast, Int.reduceToNat]
      refine ygo 99999 90 rfl rfl (by first | exact trivial | (simp only [true_and, yu, ya, reduceIte, Nat.reduceEqDiff, Int32.reduceToInt, Int.toNat_natCast, Int.reduceToNat]; omega) | decide | (simp; done)) ?_
      try simp only [List.map_cons, List.map_nil, List.length_cons, List.length_nil, ylr_s, ylr_0, Nat.reduceAdd, Nat.reduceSub, List.cons_append, List.nil_append, List.set_cons_zero, List.set_cons_succ, Option.toList_none, Option.toList_some, Int32.reduceToInt, yu, ya, reduceIte, Nat.reduceEqDiff, Int.toNat_natCast, Int.reduceToNat]
      refine ycV rfl rfl rfl hpa rfl kX9_parts iX9_parts rfl rfl rfl (Nat.le_of_ble_eq_true rfl) (fun v1 Y1 q1 => ?_)
      obtain ⟨rfl, rfl⟩ := q1
      rw [hmi]
      refine ygo 99999 90 rfl rfl (by first | exact trivial | (simp only [true_and, yu, ya, reduceIte, Nat.reduceEqDiff, Int32.reduceToInt, Int.toNat_natCast, Int.reduceToNat]; omega) | decide | (simp; done)) ?_
      try simp only [List.map_cons, List.map_nil, List.length_cons, List.length_nil, ylr_s, ylr_0, Nat.reduceAdd, Nat.reduceSub, List.cons_append, List.nil_append, List.set_cons_zero, List.set_cons_succ, Option.toList_none, Option.toList_some, Int32.reduceToInt, yu, ya, reduceIte, Nat.reduceEqDiff, Int.toNat_natCast, Int.reduceToNat]
      refine yi_iflt rfl (by first | exact yr_t _ | exact yr_b _ | (unfold yr; omega)) (fun c1 => ?_) (fun c1 => ?_)
      · omega
      refine ygo 99999 90 rfl rfl (by first | exact trivial | (simp only [true_and, yu, ya, reduceIte, Nat.reduceEqDiff, Int32.reduceToInt, Int.toNat_natCast, Int.reduceToNat]; omega) | decide | (simp; done)) ?_
      try simp only [List.map_cons, List.map_nil, List.length_cons, List.length_nil, ylr_s, ylr_0, Nat.reduceAdd, Nat.reduceSub, List.cons_append, List.nil_append, List.set_cons_zero, List.set_cons_succ, Option.toList_none, Option.toList_some, Int32.reduceToInt, yu, ya, reduceIte, Nat.reduceEqDiff, Int.toNat_natCast, Int.reduceToNat]
      refine yi_iflt rfl (by first | exact yr_t _ | exact yr_b _ | (unfold yr; omega)) (fun c2 => ?_) (fun c2 => ?_)
      · refine ygo 99999 90 rfl rfl (by first | exact trivial | (simp only [true_and, yu, ya, reduceIte, Nat.reduceEqDiff, Int32.reduceToInt, Int.toNat_natCast, Int.reduceToNat]; omega) | decide | (simp; done)) ?_
        try simp only [List.map_cons, List.map_nil, List.length_cons, List.length_nil, ylr_s, ylr_0, Nat.reduceAdd, Nat.reduceSub, List.cons_append, List.nil_append, List.set_cons_zero, List.set_cons_succ, Option.toList_none, Option.toList_some, Int32.reduceToInt, yu, ya, reduceIte, Nat.reduceEqDiff, Int.toNat_natCast, Int.reduceToNat]
        refine yi_ret_i rfl rfl (ypost.same h (if_pos (by omega)) rfl)
      refine ygo 99999 90 rfl rfl (by first | exact trivial | (simp only [true_and, yu, ya, reduceIte, Nat.reduceEqDiff, Int32.reduceToInt, Int.toNat_natCast, Int.reduceToNat]; omega) | decide | (simp; done)) ?_
      try simp only [List.map_cons, List.map_nil, List.length_cons, List.length_nil, ylr_s, ylr_0, Nat.reduceAdd, Nat.reduceSub, List.cons_append, List.nil_append, List.set_cons_zero, List.set_cons_succ, Option.toList_none, Option.toList_some, Int32.reduceToInt, yu, ya, reduceIte, Nat.reduceEqDiff, Int.toNat_natCast, Int.reduceToNat]
      refine yi_icmplt rfl (by refine ⟨?_, ?_⟩ <;> first | exact yr_t _ | exact yr_b _ | (unfold yr; omega)) (fun c3 => ?_) (fun c3 => ?_)
      · rw [if_neg (by omega)]
        generalize hii : i.toInt.toNat = ii
        have hin : i = nI ii := by rw [← hii]; exact toN (by omega)
        have hiz : i.toInt = ii := by omega
        have himlt : ii * m < x.2.2.length := pcnt_lt (by omega) (by rw [hmany]; omega)
        have l29 : (A 29).length = 108 := hlen 29 _ rfl
        rw [hiz, hin]
        refine ygo 65 90 rfl rfl (by first | exact trivial | (simp only [true_and, yu, ya, reduceIte, Nat.reduceEqDiff, Int32.reduceToInt, Int.toNat_natCast, Int.reduceToNat]; omega) | decide | (simp; done)) ?_
        try simp only [List.map_cons, List.map_nil, List.length_cons, List.length_nil, ylr_s, ylr_0, Nat.reduceAdd, Nat.reduceSub, List.cons_append, List.nil_append, List.set_cons_zero, List.set_cons_succ, Option.toList_none, Option.toList_some, Int32.reduceToInt, yu, ya, reduceIte, Nat.reduceEqDiff, Int.toNat_natCast, Int.reduceToNat]
        refine l_load1 (ii := ii) (m := m) (many := many) (e := min ((ii + 1) * m) x.2.2.length) hj hk hj16 (by omega) (by omega) rfl (by omega) (by omega) (by omega) (min ((ii + 1) * m) x.2.2.length - ii * m) (ii * m) _ _ _ (by rw [Nat.add_mul, Nat.one_mul]; omega) (Nat.le_refl _) (by rw [Int.natCast_mul, Int.mul_comm]) ⟨h.1, h.2.1, ⟨by simp [zR, yu], fun k b hb => ?_⟩, h.2.2.2⟩
        rw [Nat.sub_self, List.take_zero, List.append_nil] at hb
        simp only [ya, reduceIte, Int.reduceToNat]
        have hb' : ([112, nI j, nI ii, nI many] : List Int32)[k]? = some b := hb
        match k, hb' with
        | 0, hb' =>
          rw [gset_ne (by decide), gset_ne (by decide), gset_ne (by decide), gset_eq (by omega)]
          have : (112 : Int32) = b := by simpa using hb'
          rw [← this]; rfl
        | 1, hb' =>
          rw [gset_ne (by decide), gset_ne (by decide), gset_eq (by simp only [List.length_set]; omega)]
          have : nI j = b := by simpa using hb'
          rw [← this]; exact iofn j
        | 2, hb' =>
          rw [gset_ne (by decide), gset_eq (by simp only [List.length_set]; omega)]
          have : nI ii = b := by simpa using hb'
          rw [← this]; exact iofn ii
        | 3, hb' =>
          rw [gset_eq (by simp only [List.length_set]; omega)]
          have : nI many = b := by simpa using hb'
          rw [← this]; exact iofn many
        | k + 4, hb' => simp at hb'
      · refine ygo 99999 90 rfl rfl (by first | exact trivial | (simp only [true_and, yu, ya, reduceIte, Nat.reduceEqDiff, Int32.reduceToInt, Int.toNat_natCast, Int.reduceToNat]; omega) | decide | (simp; done)) ?_
        try simp only [List.map_cons, List.map_nil, List.length_cons, List.length_nil, ylr_s, ylr_0, Nat.reduceAdd, Nat.reduceSub, List.cons_append, List.nil_append, List.set_cons_zero, List.set_cons_succ, Option.toList_none, Option.toList_some, Int32.reduceToInt, yu, ya, reduceIte, Nat.reduceEqDiff, Int.toNat_natCast, Int.reduceToNat]
        refine yi_ret_i rfl rfl (ypost.same h (if_pos (by omega)) rfl)
    · rw [if_pos hs]
      rw [if_neg hs] at hpa
      refine ym_at 7 rfl (by decide) (Nat.le_of_ble_eq_true rfl) tX9_load_ok ?_
      try simp only [List.map_cons, List.map_nil, List.length_cons, List.length_nil, ylr_s, ylr_0, Nat.reduceAdd, Nat.reduceSub, List.cons_append, List.nil_append, List.set_cons_zero, List.set_cons_succ, Option.toList_none, Option.toList_some, Int32.reduceToInt, yu, ya, reduceIte, Nat.reduceEqDiff, Int.toNat_natCast, Int.reduceToNat]
      refine ygo 99999 90 rfl rfl (by first | exact trivial | (simp only [true_and, yu, ya, reduceIte, Nat.reduceEqDiff, Int32.reduceToInt, Int.toNat_natCast, Int.reduceToNat]; omega) | decide | (simp; done)) ?_
      try simp only [List.map_cons, List.map_nil, List.length_cons, List.length_nil, ylr_s, ylr_0, Nat.reduceAdd, Nat.reduceSub, List.cons_append, List.nil_append, List.set_cons_zero, List.set_cons_succ, Option.toList_none, Option.toList_some, Int32.reduceToInt, yu, ya, reduceIte, Nat.reduceEqDiff, Int.toNat_natCast, Int.reduceToNat]
      refine ycV rfl rfl rfl hpa rfl kX9_parts iX9_parts rfl rfl rfl (Nat.le_of_ble_eq_true rfl) (fun v1 Y1 q1 => ?_)
      obtain ⟨rfl, rfl⟩ := q1
      refine ygo 99999 90 rfl rfl (by first | exact trivial | (simp only [true_and, yu, ya, reduceIte, Nat.reduceEqDiff, Int32.reduceToInt, Int.toNat_natCast, Int.reduceToNat]; omega) | decide | (simp; done)) ?_
      try simp only [List.map_cons, List.map_nil, List.length_cons, List.length_nil, ylr_s, ylr_0, Nat.reduceAdd, Nat.reduceSub, List.cons_append, List.nil_append, List.set_cons_zero, List.set_cons_succ, Option.toList_none, Option.toList_some, Int32.reduceToInt, yu, ya, reduceIte, Nat.reduceEqDiff, Int.toNat_natCast, Int.reduceToNat]
      refine yi_iflt rfl (by first | exact yr_t _ | exact yr_b _ | (unfold yr; omega)) (fun c1 => ?_) (fun c1 => ?_)
      · refine ygo 99999 90 rfl rfl (by first | exact trivial | (simp only [true_and, yu, ya, reduceIte, Nat.reduceEqDiff, Int32.reduceToInt, Int.toNat_natCast, Int.reduceToNat]; omega) | decide | (simp; done)) ?_
        try simp only [List.map_cons, List.map_nil, List.length_cons, List.length_nil, ylr_s, ylr_0, Nat.reduceAdd, Nat.reduceSub, List.cons_append, List.nil_append, List.set_cons_zero, List.set_cons_succ, Option.toList_none, Option.toList_some, Int32.reduceToInt, yu, ya, reduceIte, Nat.reduceEqDiff, Int.toNat_natCast, Int.reduceToNat]
        refine yi_ret_i rfl rfl (ypost.same h rfl rfl)
      · exact absurd (by decide) c1
/-- the four bytes at a place are those of S, so far as k -/
def eq4 (r : List Int32) (p : Nat) (S : Int32) (k : Nat) : Bool := (List.range k).all (fun i => r.getD (p + i) 0 == (four S).getD i 0)
theorem eq4_s (r : List Int32) (p : Nat) (S : Int32) (k : Nat) : eq4 r p S (k + 1) = (eq4 r p S k && (r.getD (p + k) 0 == (four S).getD k 0)) := by
  unfold eq4
  rw [List.range_succ, List.all_append]
  simp
theorem fourB {S : Int32} {k : Nat} {kz : Int} (hk : k < 4) (hkz : kz = 24 - 8 * k) : (Int32.ofInt ((Int32.ofInt S.toInt).toUInt32 >>> ((Int32.ofInt kz).toUInt32 &&& Int32.toUInt32 31)).toInt32.toInt &&& Int32.ofInt 255) = (four S).getD k 0 := by
  rw [iof, iof, hkz]
  rcases (show k = 0 ∨ k = 1 ∨ k = 2 ∨ k = 3 by omega) with rfl | rfl | rfl | rfl <;> rfl
theorem getD_s {r : List Int32} {k : Nat} {x d : Int32} (h : r[k]? = some x) : r.getD k d = x := by
  rw [List.getD_eq_getElem?_getD, h]; rfl
theorem num4_eq {r : List Int32} {p : Nat} {S : Int32} (hp : p + 4 ≤ r.length) (hpl : r.length < 100000) (hb : ∀ b ∈ r, blw b 256) : num4 r (nI p) = S ↔ eq4 r p S 4 = true := by
  obtain ⟨b0, h0⟩ := lt_get (l := r) (j := p) (by omega)
  obtain ⟨b1, h1⟩ := lt_get (l := r) (j := p + 1) (by omega)
  obtain ⟨b2, h2⟩ := lt_get (l := r) (j := p + 2) (by omega)
  obtain ⟨b3, h3⟩ := lt_get (l := r) (j := p + 3) (by omega)
  have e0 : bat r (nI p + 0) = b0 := by
    rw [show nI p + 0 = nI p from Int32.add_zero _, bat_n (by omega), getD_s h0]
  have e1 : bat r (nI p + 0 + 1) = b1 := by
    rw [show nI p + 0 = nI p from Int32.add_zero _, nI_inc, bat_n (by omega), getD_s h1]
  have e2 : bat r (nI p + 0 + 1 + 1) = b2 := by
    rw [show nI p + 0 = nI p from Int32.add_zero _, nI_inc, nI_inc, bat_n (by omega), getD_s h2]
  have e3 : bat r (nI p + 0 + 1 + 1 + 1) = b3 := by
    rw [show nI p + 0 = nI p from Int32.add_zero _, nI_inc, nI_inc, nI_inc, bat_n (by omega), getD_s h3]
  unfold num4
  rw [e0, e1, e2, e3, num_four (hb _ (List.mem_of_getElem? h0)) (hb _ (List.mem_of_getElem? h1)) (hb _ (List.mem_of_getElem? h2)) (hb _ (List.mem_of_getElem? h3))]
  unfold eq4
  simp only [List.range_succ, List.range_zero, List.nil_append, List.all_append, List.all_cons, List.all_nil, Bool.and_true, Bool.and_eq_true, beq_iff_eq, Nat.add_zero]
  rw [getD_s h0, getD_s h1, getD_s h2, getD_s h3]
  simp only [four, List.getD_cons_zero, List.getD_cons_succ]
  constructor
  · rintro ⟨a, b, c, d⟩; exact ⟨⟨⟨a, b⟩, c⟩, d⟩
  · rintro ⟨⟨⟨a, b⟩, c⟩, d⟩; exact ⟨a, b, c, d⟩
set_option maxRecDepth 100000 in
set_option maxHeartbeats 2000000 in
theorem l_isSpoiled {G : xG} {d a : Nat} {f : Nat → Int} {A : Nat → List Int32} {r : List Int32} {S : Int32} (h : mT r (f, A)) (hr9 : 9 ≤ r.length) (hr : r.length ≤ 108) : ∀ (m k : Nat) (same kz : Int), k + m = 4 → kz = k → same = bInt (eq4 r (r.length - 4) S k) →
    yw G (d + 1) a mX9_isSpoiled 84 [some (.inr 0), some (.inl S.toInt), some (.inl same), some (.inl kz)] [] (f, A) (fun w Y' => w = some (.inl (bInt (!eq4 r (r.length - 4) S 4))) ∧ Y' = (f, A)) := by
  have h30 : f 30 = r.length := h.1
  intro m
  induction m with
  | zero =>
    intro k same kz hk hkz hs
    have hk4 : k = 4 := by omega
    subst hk4
    have hb := bInt_01 (eq4 r (r.length - 4) S 4)
    refine ygo 99999 90 rfl rfl (by first | exact trivial | (simp only [true_and, yu, ya, reduceIte, Nat.reduceEqDiff, Int32.reduceToInt, Int.toNat_natCast, Int.reduceToNat]; omega) | decide | (simp; done)) ?_
    try simp only [List.map_cons, List.map_nil, List.length_cons, List.length_nil, ylr_s, ylr_0, Nat.reduceAdd, Nat.reduceSub, List.cons_append, List.nil_append, List.set_cons_zero, List.set_cons_succ, Option.toList_none, Option.toList_some, Int32.reduceToInt, yu, ya, reduceIte, Nat.reduceEqDiff, Int.toNat_natCast, Int.reduceToNat]
    refine yi_icmpge rfl (by refine ⟨?_, ?_⟩ <;> first | exact yr_t _ | exact yr_b _ | (unfold yr; omega)) (fun c => ?_) (fun c => ?_)
    · refine ygo 99999 90 rfl rfl (by first | exact trivial | (simp only [true_and, yu, ya, reduceIte, Nat.reduceEqDiff, Int32.reduceToInt, Int.toNat_natCast, Int.reduceToNat]; omega) | decide | (simp; done)) ?_
      try simp only [List.map_cons, List.map_nil, List.length_cons, List.length_nil, ylr_s, ylr_0, Nat.reduceAdd, Nat.reduceSub, List.cons_append, List.nil_append, List.set_cons_zero, List.set_cons_succ, Option.toList_none, Option.toList_some, Int32.reduceToInt, yu, ya, reduceIte, Nat.reduceEqDiff, Int.toNat_natCast, Int.reduceToNat]
      refine yi_ifne rfl (by first | exact yr_t _ | exact yr_b _ | (unfold yr; omega)) (fun c2 => ?_) (fun c2 => ?_)
      · rw [hs, bInt_z, Bool.not_eq_false] at c2
        refine ygo 99999 90 rfl rfl (by first | exact trivial | (simp only [true_and, yu, ya, reduceIte, Nat.reduceEqDiff, Int32.reduceToInt, Int.toNat_natCast, Int.reduceToNat]; omega) | decide | (simp; done)) ?_
        try simp only [List.map_cons, List.map_nil, List.length_cons, List.length_nil, ylr_s, ylr_0, Nat.reduceAdd, Nat.reduceSub, List.cons_append, List.nil_append, List.set_cons_zero, List.set_cons_succ, Option.toList_none, Option.toList_some, Int32.reduceToInt, yu, ya, reduceIte, Nat.reduceEqDiff, Int.toNat_natCast, Int.reduceToNat]
        refine yi_ret_z rfl rfl (by omega) ⟨by rw [c2]; rfl, rfl⟩
      · rw [hs, bInt_z] at c2
        refine ygo 99999 90 rfl rfl (by first | exact trivial | (simp only [true_and, yu, ya, reduceIte, Nat.reduceEqDiff, Int32.reduceToInt, Int.toNat_natCast, Int.reduceToNat]; omega) | decide | (simp; done)) ?_
        try simp only [List.map_cons, List.map_nil, List.length_cons, List.length_nil, ylr_s, ylr_0, Nat.reduceAdd, Nat.reduceSub, List.cons_append, List.nil_append, List.set_cons_zero, List.set_cons_succ, Option.toList_none, Option.toList_some, Int32.reduceToInt, yu, ya, reduceIte, Nat.reduceEqDiff, Int.toNat_natCast, Int.reduceToNat]
        refine yi_ret_z rfl rfl (by omega) ⟨by rw [c2]; rfl, rfl⟩
    · omega
  | succ m ih =>
    intro k same kz hk hkz hs
    have hb := bInt_01 (eq4 r (r.length - 4) S k)
    obtain ⟨x, hx⟩ := lt_get (l := r) (j := r.length - 4 + k) (by omega)
    have hg : (A 29).getD (r.length - 4 + k) 0 = x := h.2 _ x hx
    have hi : (f 30 - 4 + kz).toNat = r.length - 4 + k := by omega
    have hst := eq4_s r (r.length - 4) S k
    rw [getD_s hx] at hst
    refine ygo 99999 90 rfl rfl (by first | exact trivial | (simp only [true_and, yu, ya, reduceIte, Nat.reduceEqDiff, Int32.reduceToInt, Int.toNat_natCast, Int.reduceToNat]; omega) | decide | (simp; done)) ?_
    try simp only [List.map_cons, List.map_nil, List.length_cons, List.length_nil, ylr_s, ylr_0, Nat.reduceAdd, Nat.reduceSub, List.cons_append, List.nil_append, List.set_cons_zero, List.set_cons_succ, Option.toList_none, Option.toList_some, Int32.reduceToInt, yu, ya, reduceIte, Nat.reduceEqDiff, Int.toNat_natCast, Int.reduceToNat]
    refine yi_icmpge rfl (by refine ⟨?_, ?_⟩ <;> first | exact yr_t _ | exact yr_b _ | (unfold yr; omega)) (fun c => ?_) (fun c => ?_)
    · omega
    refine ygo 99999 90 rfl rfl (by first | exact trivial | (simp only [true_and, yu, ya, reduceIte, Nat.reduceEqDiff, Int32.reduceToInt, Int.toNat_natCast, Int.reduceToNat]; omega) | decide | (simp; done)) ?_
    try simp only [List.map_cons, List.map_nil, List.length_cons, List.length_nil, ylr_s, ylr_0, Nat.reduceAdd, Nat.reduceSub, List.cons_append, List.nil_append, List.set_cons_zero, List.set_cons_succ, Option.toList_none, Option.toList_some, Int32.reduceToInt, yu, ya, reduceIte, Nat.reduceEqDiff, Int.toNat_natCast, Int.reduceToNat]
    refine yi_ifeq rfl (by first | exact yr_t _ | exact yr_b _ | (unfold yr; omega)) (fun c2 => ?_) (fun c2 => ?_)
    · rw [hs, bInt_z] at c2
      refine ygo 84 90 rfl rfl (by first | exact trivial | (simp only [true_and, yu, ya, reduceIte, Nat.reduceEqDiff, Int32.reduceToInt, Int.toNat_natCast, Int.reduceToNat]; omega) | decide | (simp; done)) ?_
      try simp only [List.map_cons, List.map_nil, List.length_cons, List.length_nil, ylr_s, ylr_0, Nat.reduceAdd, Nat.reduceSub, List.cons_append, List.nil_append, List.set_cons_zero, List.set_cons_succ, Option.toList_none, Option.toList_some, Int32.reduceToInt, yu, ya, reduceIte, Nat.reduceEqDiff, Int.toNat_natCast, Int.reduceToNat]
      exact ih (k + 1) 0 _ (by omega) (by omega) (by rw [hst, c2]; rfl)
    rw [hs, bInt_z, Bool.not_eq_false] at c2
    refine ygo 99999 90 rfl rfl (by first | exact trivial | (simp only [true_and, yu, ya, reduceIte, Nat.reduceEqDiff, Int32.reduceToInt, Int.toNat_natCast, Int.reduceToNat]; omega) | decide | (simp; done)) ?_
    try simp only [List.map_cons, List.map_nil, List.length_cons, List.length_nil, ylr_s, ylr_0, Nat.reduceAdd, Nat.reduceSub, List.cons_append, List.nil_append, List.set_cons_zero, List.set_cons_succ, Option.toList_none, Option.toList_some, Int32.reduceToInt, yu, ya, reduceIte, Nat.reduceEqDiff, Int.toNat_natCast, Int.reduceToNat]
    refine yi_icmpne rfl (by refine ⟨?_, ?_⟩ <;> first | exact yr_t _ | exact yr_b _ | (unfold yr; omega)) (fun c3 => ?_) (fun c3 => ?_)
    · rw [hi, hg, fourB (k := k) (by omega) (by omega), ti] at c3
      refine ygo 84 90 rfl rfl (by first | exact trivial | (simp only [true_and, yu, ya, reduceIte, Nat.reduceEqDiff, Int32.reduceToInt, Int.toNat_natCast, Int.reduceToNat]; omega) | decide | (simp; done)) ?_
      try simp only [List.map_cons, List.map_nil, List.length_cons, List.length_nil, ylr_s, ylr_0, Nat.reduceAdd, Nat.reduceSub, List.cons_append, List.nil_append, List.set_cons_zero, List.set_cons_succ, Option.toList_none, Option.toList_some, Int32.reduceToInt, yu, ya, reduceIte, Nat.reduceEqDiff, Int.toNat_natCast, Int.reduceToNat]
      exact ih (k + 1) 0 _ (by omega) (by omega) (by rw [hst, c2, beq_eq_false_iff_ne.mpr c3]; rfl)
    · rw [hi, hg, fourB (k := k) (by omega) (by omega), ti] at c3
      refine ygo 84 90 rfl rfl (by first | exact trivial | (simp only [true_and, yu, ya, reduceIte, Nat.reduceEqDiff, Int32.reduceToInt, Int.toNat_natCast, Int.reduceToNat]; omega) | decide | (simp; done)) ?_
      try simp only [List.map_cons, List.map_nil, List.length_cons, List.length_nil, ylr_s, ylr_0, Nat.reduceAdd, Nat.reduceSub, List.cons_append, List.nil_append, List.set_cons_zero, List.set_cons_succ, Option.toList_none, Option.toList_some, Int32.reduceToInt, yu, ya, reduceIte, Nat.reduceEqDiff, Int.toNat_natCast, Int.reduceToNat]
      exact ih (k + 1) 1 _ (by omega) (by omega) (by rw [hst, c2, c3]; simp [bInt])
set_option maxRecDepth 100000 in
set_option maxHeartbeats 2000000 in
theorem cm_isSpoiled {G : xG} {d a : Nat} {f : Nat → Int} {A : Nat → List Int32} {r : List Int32} (h : mT r (f, A)) (hk : okT r) (hr9 : 9 ≤ r.length) : ym G (d + 2) a mX9_isSpoiled [.inr 0] (f, A) (fun w Y' => w = some (.inl (bInt (decide (¬ blw (bat r 1) 16 ∨ splB r = true)))) ∧ Y' = (f, A)) := by
  have h30 : f 30 = r.length := h.1
  have hr := hk.2.1
  have hb := hk.2.2
  have g : ∀ k, k < 4 → ∃ x, r[k]? = some x ∧ (A 29).getD k 0 = x ∧ bat r (nI k) = x ∧ blw x 256 := fun k hk4 => by
    obtain ⟨x, hx⟩ := lt_get (l := r) (j := k) (by omega)
    exact ⟨x, hx, h.2 k x hx, by rw [bat_n (by omega), getD_s hx], hb x (List.mem_of_getElem? hx)⟩
  obtain ⟨b0, -, g0, t0, k0⟩ := g 0 (by omega)
  obtain ⟨b1, -, g1, t1, k1⟩ := g 1 (by omega)
  obtain ⟨b2, -, g2, t2, k2⟩ := g 2 (by omega)
  obtain ⟨b3, -, g3, t3, k3⟩ := g 3 (by omega)
  have t0' : bat r 0 = b0 := t0
  have t1' : bat r 1 = b1 := t1
  have t2' : bat r 2 = b2 := t2
  have t3' : bat r 3 = b3 := t3
  have z112 : (112 : Int32).toInt = 112 := rfl
  have z1 : (1 : Int32).toInt = 1 := rfl
  have z88 : (88 : Int32).toInt = 88 := rfl
  have yes : ∀ {Q : Prop} [Decidable Q], Q → (fun w Y' => w = some (.inl (bInt (decide Q))) ∧ Y' = (f, A) : Option yv → yS → Prop) (some (.inl 1)) (f, A) := fun hq => ⟨by rw [decide_eq_true hq]; rfl, rfl⟩
  unfold splB
  rw [t0', t1', t2', t3']
  have hnum := num4_eq (r := r) (p := r.length - 4) (S := ssum 2 (r.take (r.length - 4))) (by omega) (by omega) hb
  refine ym_at 4 rfl (by decide) (Nat.le_of_ble_eq_true rfl) tX9_isSpoiled_ok ?_
  try simp only [List.map_cons, List.map_nil, List.length_cons, List.length_nil, ylr_s, ylr_0, Nat.reduceAdd, Nat.reduceSub, List.cons_append, List.nil_append, List.set_cons_zero, List.set_cons_succ, Option.toList_none, Option.toList_some, Int32.reduceToInt, yu, ya, reduceIte, Nat.reduceEqDiff, Int.toNat_natCast, Int.reduceToNat]
  refine ygo 99999 90 rfl rfl (by first | exact trivial | (simp only [true_and, yu, ya, reduceIte, Nat.reduceEqDiff, Int32.reduceToInt, Int.toNat_natCast, Int.reduceToNat]; omega) | decide | (simp; done)) ?_
  try simp only [List.map_cons, List.map_nil, List.length_cons, List.length_nil, ylr_s, ylr_0, Nat.reduceAdd, Nat.reduceSub, List.cons_append, List.nil_append, List.set_cons_zero, List.set_cons_succ, Option.toList_none, Option.toList_some, Int32.reduceToInt, yu, ya, reduceIte, Nat.reduceEqDiff, Int.toNat_natCast, Int.reduceToNat]
  refine yi_icmplt rfl (by refine ⟨?_, ?_⟩ <;> first | exact yr_t _ | exact yr_b _ | (unfold yr; omega)) (fun c0 => ?_) (fun c0 => ?_)
  · omega
  refine ygo 99999 90 rfl rfl (by first | exact trivial | (simp only [true_and, yu, ya, reduceIte, Nat.reduceEqDiff, Int32.reduceToInt, Int.toNat_natCast, Int.reduceToNat]; omega) | decide | (simp; done)) ?_
  try simp only [List.map_cons, List.map_nil, List.length_cons, List.length_nil, ylr_s, ylr_0, Nat.reduceAdd, Nat.reduceSub, List.cons_append, List.nil_append, List.set_cons_zero, List.set_cons_succ, Option.toList_none, Option.toList_some, Int32.reduceToInt, yu, ya, reduceIte, Nat.reduceEqDiff, Int.toNat_natCast, Int.reduceToNat]
  refine yi_icmpne rfl (by refine ⟨?_, ?_⟩ <;> first | exact yr_t _ | exact yr_b _ | (unfold yr; omega)) (fun c1 => ?_) (fun c1 => ?_)
  · simp only [show (0 : Int).toNat = 0 from rfl, g0, ← z112, ti] at c1
    refine ygo 99999 90 rfl rfl (by first | exact trivial | (simp only [true_and, yu, ya, reduceIte, Nat.reduceEqDiff, Int32.reduceToInt, Int.toNat_natCast, Int.reduceToNat]; omega) | decide | (simp; done)) ?_
    try simp only [List.map_cons, List.map_nil, List.length_cons, List.length_nil, ylr_s, ylr_0, Nat.reduceAdd, Nat.reduceSub, List.cons_append, List.nil_append, List.set_cons_zero, List.set_cons_succ, Option.toList_none, Option.toList_some, Int32.reduceToInt, yu, ya, reduceIte, Nat.reduceEqDiff, Int.toNat_natCast, Int.reduceToNat]
    refine yi_ret_z rfl rfl (by omega) (yes (Or.inr (decide_eq_true (Or.inr (Or.inl c1)))))
  simp only [show (0 : Int).toNat = 0 from rfl, g0, ← z112, ti] at c1
  refine ygo 99999 90 rfl rfl (by first | exact trivial | (simp only [true_and, yu, ya, reduceIte, Nat.reduceEqDiff, Int32.reduceToInt, Int.toNat_natCast, Int.reduceToNat]; omega) | decide | (simp; done)) ?_
  try simp only [List.map_cons, List.map_nil, List.length_cons, List.length_nil, ylr_s, ylr_0, Nat.reduceAdd, Nat.reduceSub, List.cons_append, List.nil_append, List.set_cons_zero, List.set_cons_succ, Option.toList_none, Option.toList_some, Int32.reduceToInt, yu, ya, reduceIte, Nat.reduceEqDiff, Int.toNat_natCast, Int.reduceToNat]
  refine yi_icmpgt rfl (by refine ⟨?_, ?_⟩ <;> first | exact yr_t _ | exact yr_b _ | (unfold yr; omega)) (fun c2 => ?_) (fun c2 => ?_)
  · simp only [show (1 : Int).toNat = 1 from rfl, g1] at c2
    refine ygo 99999 90 rfl rfl (by first | exact trivial | (simp only [true_and, yu, ya, reduceIte, Nat.reduceEqDiff, Int32.reduceToInt, Int.toNat_natCast, Int.reduceToNat]; omega) | decide | (simp; done)) ?_
    try simp only [List.map_cons, List.map_nil, List.length_cons, List.length_nil, ylr_s, ylr_0, Nat.reduceAdd, Nat.reduceSub, List.cons_append, List.nil_append, List.set_cons_zero, List.set_cons_succ, Option.toList_none, Option.toList_some, Int32.reduceToInt, yu, ya, reduceIte, Nat.reduceEqDiff, Int.toNat_natCast, Int.reduceToNat]
    refine yi_ret_z rfl rfl (by omega) (yes (Or.inl (by omega)))
  simp only [show (1 : Int).toNat = 1 from rfl, g1] at c2
  refine ygo 99999 90 rfl rfl (by first | exact trivial | (simp only [true_and, yu, ya, reduceIte, Nat.reduceEqDiff, Int32.reduceToInt, Int.toNat_natCast, Int.reduceToNat]; omega) | decide | (simp; done)) ?_
  try simp only [List.map_cons, List.map_nil, List.length_cons, List.length_nil, ylr_s, ylr_0, Nat.reduceAdd, Nat.reduceSub, List.cons_append, List.nil_append, List.set_cons_zero, List.set_cons_succ, Option.toList_none, Option.toList_some, Int32.reduceToInt, yu, ya, reduceIte, Nat.reduceEqDiff, Int.toNat_natCast, Int.reduceToNat]
  refine yi_icmplt rfl (by refine ⟨?_, ?_⟩ <;> first | exact yr_t _ | exact yr_b _ | (unfold yr; omega)) (fun c3 => ?_) (fun c3 => ?_)
  · simp only [show (3 : Int).toNat = 3 from rfl, g3] at c3
    refine ygo 99999 90 rfl rfl (by first | exact trivial | (simp only [true_and, yu, ya, reduceIte, Nat.reduceEqDiff, Int32.reduceToInt, Int.toNat_natCast, Int.reduceToNat]; omega) | decide | (simp; done)) ?_
    try simp only [List.map_cons, List.map_nil, List.length_cons, List.length_nil, ylr_s, ylr_0, Nat.reduceAdd, Nat.reduceSub, List.cons_append, List.nil_append, List.set_cons_zero, List.set_cons_succ, Option.toList_none, Option.toList_some, Int32.reduceToInt, yu, ya, reduceIte, Nat.reduceEqDiff, Int.toNat_natCast, Int.reduceToNat]
    refine yi_ret_z rfl rfl (by omega) (yes (Or.inr (decide_eq_true (Or.inr (Or.inr (Or.inl (by rw [i_lt, z1]; exact c3)))))))
  simp only [show (3 : Int).toNat = 3 from rfl, g3] at c3
  refine ygo 99999 90 rfl rfl (by first | exact trivial | (simp only [true_and, yu, ya, reduceIte, Nat.reduceEqDiff, Int32.reduceToInt, Int.toNat_natCast, Int.reduceToNat]; omega) | decide | (simp; done)) ?_
  try simp only [List.map_cons, List.map_nil, List.length_cons, List.length_nil, ylr_s, ylr_0, Nat.reduceAdd, Nat.reduceSub, List.cons_append, List.nil_append, List.set_cons_zero, List.set_cons_succ, Option.toList_none, Option.toList_some, Int32.reduceToInt, yu, ya, reduceIte, Nat.reduceEqDiff, Int.toNat_natCast, Int.reduceToNat]
  refine yi_icmpgt rfl (by refine ⟨?_, ?_⟩ <;> first | exact yr_t _ | exact yr_b _ | (unfold yr; omega)) (fun c4 => ?_) (fun c4 => ?_)
  · simp only [show (3 : Int).toNat = 3 from rfl, g3] at c4
    refine ygo 99999 90 rfl rfl (by first | exact trivial | (simp only [true_and, yu, ya, reduceIte, Nat.reduceEqDiff, Int32.reduceToInt, Int.toNat_natCast, Int.reduceToNat]; omega) | decide | (simp; done)) ?_
    try simp only [List.map_cons, List.map_nil, List.length_cons, List.length_nil, ylr_s, ylr_0, Nat.reduceAdd, Nat.reduceSub, List.cons_append, List.nil_append, List.set_cons_zero, List.set_cons_succ, Option.toList_none, Option.toList_some, Int32.reduceToInt, yu, ya, reduceIte, Nat.reduceEqDiff, Int.toNat_natCast, Int.reduceToNat]
    refine yi_ret_z rfl rfl (by omega) (yes (Or.inr (decide_eq_true (Or.inr (Or.inr (Or.inr (Or.inl (by rw [i_lt, z88]; exact c4))))))))
  simp only [show (3 : Int).toNat = 3 from rfl, g3] at c4
  refine ygo 99999 90 rfl rfl (by first | exact trivial | (simp only [true_and, yu, ya, reduceIte, Nat.reduceEqDiff, Int32.reduceToInt, Int.toNat_natCast, Int.reduceToNat]; omega) | decide | (simp; done)) ?_
  try simp only [List.map_cons, List.map_nil, List.length_cons, List.length_nil, ylr_s, ylr_0, Nat.reduceAdd, Nat.reduceSub, List.cons_append, List.nil_append, List.set_cons_zero, List.set_cons_succ, Option.toList_none, Option.toList_some, Int32.reduceToInt, yu, ya, reduceIte, Nat.reduceEqDiff, Int.toNat_natCast, Int.reduceToNat]
  refine yi_icmplt rfl (by refine ⟨?_, ?_⟩ <;> first | exact yr_t _ | exact yr_b _ | (unfold yr; omega)) (fun c5 => ?_) (fun c5 => ?_)
  · simp only [show (3 : Int).toNat = 3 from rfl, show (2 : Int).toNat = 2 from rfl, g3, g2] at c5
    refine ygo 99999 90 rfl rfl (by first | exact trivial | (simp only [true_and, yu, ya, reduceIte, Nat.reduceEqDiff, Int32.reduceToInt, Int.toNat_natCast, Int.reduceToNat]; omega) | decide | (simp; done)) ?_
    try simp only [List.map_cons, List.map_nil, List.length_cons, List.length_nil, ylr_s, ylr_0, Nat.reduceAdd, Nat.reduceSub, List.cons_append, List.nil_append, List.set_cons_zero, List.set_cons_succ, Option.toList_none, Option.toList_some, Int32.reduceToInt, yu, ya, reduceIte, Nat.reduceEqDiff, Int.toNat_natCast, Int.reduceToNat]
    refine ycV rfl rfl rfl (cm_tapeSum (n := r.length - 4) h (by omega) (by omega) hr) rfl kX9_tapeSum iX9_tapeSum rfl rfl rfl (Nat.le_of_ble_eq_true rfl) (fun v1 Y1 q1 => ?_)
    obtain ⟨rfl, rfl⟩ := q1
    refine ygo 84 90 rfl rfl (by first | exact trivial | (simp only [true_and, yu, ya, reduceIte, Nat.reduceEqDiff, Int32.reduceToInt, Int.toNat_natCast, Int.reduceToNat]; omega) | decide | (simp; done)) ?_
    try simp only [List.map_cons, List.map_nil, List.length_cons, List.length_nil, ylr_s, ylr_0, Nat.reduceAdd, Nat.reduceSub, List.cons_append, List.nil_append, List.set_cons_zero, List.set_cons_succ, Option.toList_none, Option.toList_some, Int32.reduceToInt, yu, ya, reduceIte, Nat.reduceEqDiff, Int.toNat_natCast, Int.reduceToNat]
    refine (l_isSpoiled (S := ssum 2 (r.take (r.length - 4))) h hr9 hr 4 0 1 0 (by omega) rfl (by simp [eq4, bInt])).mono (fun w Y' hq => ⟨?_, hq.2⟩)
    rw [hq.1]
    congr 3
    cases he : eq4 r (r.length - 4) (ssum 2 (r.take (r.length - 4))) 4 with
    | true =>
      rw [decide_eq_false]
      · rfl
      · intro hc
        rcases hc with hc | hc
        · exact hc ⟨k1.1, by omega⟩
        · have hc := of_decide_eq_true hc
          rw [i_lt, i_lt, i_le] at hc
          rcases hc with hc | hc | hc | hc | hc | hc
          · omega
          · exact hc c1
          · omega
          · omega
          · omega
          · exact hc (hnum.mpr he)
    | false =>
      rw [decide_eq_true]
      · rfl
      · right
        exact decide_eq_true (Or.inr (Or.inr (Or.inr (Or.inr (Or.inr (fun hc => by rw [hnum.mp hc] at he; cases he))))))
  · simp only [show (3 : Int).toNat = 3 from rfl, show (2 : Int).toNat = 2 from rfl, g3, g2] at c5
    refine ygo 99999 90 rfl rfl (by first | exact trivial | (simp only [true_and, yu, ya, reduceIte, Nat.reduceEqDiff, Int32.reduceToInt, Int.toNat_natCast, Int.reduceToNat]; omega) | decide | (simp; done)) ?_
    try simp only [List.map_cons, List.map_nil, List.length_cons, List.length_nil, ylr_s, ylr_0, Nat.reduceAdd, Nat.reduceSub, List.cons_append, List.nil_append, List.set_cons_zero, List.set_cons_succ, Option.toList_none, Option.toList_some, Int32.reduceToInt, yu, ya, reduceIte, Nat.reduceEqDiff, Int.toNat_natCast, Int.reduceToNat]
    refine yi_ret_z rfl rfl (by omega) (yes (Or.inr (decide_eq_true (Or.inr (Or.inr (Or.inr (Or.inr (Or.inl (by rw [i_le]; omega)))))))))
