theorem take_flat {α β : Type} {l : List α} {f : α → List β} {j : Nat} {e : α} (h : l[j]? = some e) : (l.take (j + 1)).flatMap f = (l.take j).flatMap f ++ f e := by
  rw [List.take_succ, h]
  simp
theorem flat_len {α β : Type} {f : α → List β} {m : Nat} : ∀ (l : List α), (∀ e ∈ l, (f e).length ≤ m) → (l.flatMap f).length ≤ m * l.length
  | [], _ => by simp
  | e :: l, h => by
    have h1 := h e (by simp)
    have h2 := flat_len l (fun e he => h e (by simp [he]))
    rw [List.flatMap_cons, List.length_append, List.length_cons, Nat.mul_succ]
    omega
theorem wrw.size {G : xG} {h h' : Nat → Option xC} {w : Nat} {bs sz sz' : List Int32} {mb ml : Int32} (H : wrw G h w bs sz mb ml) (f : ∀ q, q ≠ w + 3 → h' q = h q) (h1 : h' (w + 3) = some (11, vi sz')) (h2 : sz'.length = 8) : wrw G h' w bs sz' mb ml :=
  ⟨(f _ (by omega)).trans H.1, H.2.1.keep (frz.one (a := w + 3) (n := 1) f (Nat.le_refl _) (by omega)) (by omega), h1, h2⟩
/-- rows whose bytes are bytes -/
def okRows (rw : List (Int32 × Int32 × List Int32)) : Prop := ∀ e ∈ rw, ∀ x ∈ e.2.2, x ≠ -1
def okSizes (rw : List (Int32 × Int32 × List Int32)) (j : Nat) (sz : List Int32) : Prop := ∀ i e, i < j → rw[i]? = some e → sz[i]? = some (nI (enc e).length)
set_option maxRecDepth 100000 in
set_option maxHeartbeats 8000000 in
theorem l_WR_writeBody {G : xG} {d w c : Nat} {K : cV} {σ : xS} (hN : okRows K.2.2.2) (hd : c + 17 ≤ w ∨ w + 4 ≤ c) : ∀ (n j : Nat) (bs sz : List Int32) (mb ml : Int32) (s : xS) (y : Option Value), j + n = K.2.2.2.length → bs = (K.2.2.2.take j).flatMap enc → okSizes K.2.2.2 j sz → wrw G s.1 w bs sz mb ml → cont G s.1 c K → frz σ.1 s.1 w 4 → s.2 = σ.2 →
    xw G (d + 4) mX6_writeBody 9 [some (rf G w), some (rf G c), some (.int (nI j)), y] [] s (fun v σ' => ∃ sz mb ml, okSizes K.2.2.2 8 sz ∧ wpost G σ w (K.2.2.2.flatMap enc) sz mb ml v σ') := by
  intro n
  induction n with
  | zero =>
    intro j bs sz mb ml s y hj hb ho h1 h2 hf h3
    have hbn := h2.bnd
    have : j = K.2.2.2.length := by omega
    subst this
    rw [List.take_length] at hb
    refine xgo 80 rfl ?_
    try simp only [xlo0, List.map_cons, List.map_nil, List.length_cons, List.length_nil, xrs, xr0, Nat.reduceAdd, Nat.reduceSub, List.cons_append, List.nil_append, List.set_cons_zero, List.set_cons_succ, Option.toList_none, Option.toList_some, nI_1]
    refine xg 6 rfl rfl rfl h2.obj rfl ?_
    refine xgo 80 rfl ?_
    try simp only [xlo0, List.map_cons, List.map_nil, List.length_cons, List.length_nil, xrs, xr0, Nat.reduceAdd, Nat.reduceSub, List.cons_append, List.nil_append, List.set_cons_zero, List.set_cons_succ, Option.toList_none, Option.toList_some, nI_1]
    refine xi_icmpge rfl (fun c1 => ?_) (fun c1 => ?_)
    · refine xgo 80 rfl ?_
      try simp only [xlo0, List.map_cons, List.map_nil, List.length_cons, List.length_nil, xrs, xr0, Nat.reduceAdd, Nat.reduceSub, List.cons_append, List.nil_append, List.set_cons_zero, List.set_cons_succ, Option.toList_none, Option.toList_some, nI_1]
      refine xi_ret_v rfl rfl ⟨sz, mb, ml, fun i e hi he => ho i e (List.getElem?_eq_some_iff.mp he).1 he, rfl, by rw [← hb]; exact h1, hf, h3⟩
    · exact absurd (i_le.mpr (Int.le_refl _)) c1
  | succ n ih =>
    intro j bs sz mb ml s y hj hb ho h1 h2 hf h3
    have hbn := h2.bnd
    obtain ⟨e, he⟩ := lt_get (l := K.2.2.2) (j := j) (by omega)
    have hP : rby K.2.2.2 (nI j) = e.2.2 := rby_n he (by omega)
    have hPl := h2.row he
    have hNe := hN e (List.mem_of_getElem? he)
    have hbl : bs.length ≤ 240 * 7 := by
      rw [hb]
      refine Nat.le_trans (flat_len (m := 240) _ (fun e' he' => ?_)) (by rw [List.length_take]; omega)
      obtain ⟨i, hi⟩ := List.getElem?_of_mem (List.mem_of_mem_take he')
      exact enc_len (h2.row hi)
    have hel := enc_len hPl
    have hcl : (nI j).toNatClampNeg = j := nI_clamp (by omega)
    obtain ⟨ps, hps, hpk⟩ : ∃ ps : List Int32, s.1 (c + 6) = some (11, vi ps) ∧ ps[j]? = some e.2.1 := by
      obtain ⟨nn, ne, nx, sa, ks, ps, ln, pg, b0, b1, b2, b3, b4, b5, b6, b7, b8, hp, r1, r2, r3⟩ := h2
      exact ⟨ps, b6, (r3.2.2.2.2.2 j _ he).2.1⟩
    refine xgo 80 rfl ?_
    try simp only [xlo0, List.map_cons, List.map_nil, List.length_cons, List.length_nil, xrs, xr0, Nat.reduceAdd, Nat.reduceSub, List.cons_append, List.nil_append, List.set_cons_zero, List.set_cons_succ, Option.toList_none, Option.toList_some, nI_1]
    refine xg 6 rfl rfl rfl h2.obj rfl ?_
    refine xgo 80 rfl ?_
    try simp only [xlo0, List.map_cons, List.map_nil, List.length_cons, List.length_nil, xrs, xr0, Nat.reduceAdd, Nat.reduceSub, List.cons_append, List.nil_append, List.set_cons_zero, List.set_cons_succ, Option.toList_none, Option.toList_some, nI_1]
    refine xi_icmpge rfl (fun c1 => ?_) (fun c1 => ?_)
    · exact absurd c1 (by rw [i_le, i_n (by omega), i_n (by omega)]; omega)
    have go : ∀ (s' : xS) (mb ml : Int32), wpost G s w (bs ++ enc e) sz mb ml none s' → xw G (d + 4) mX6_writeBody 86 [some (rf G w), some (rf G c), some (.int (nI j)), some (.int (nI bs.length))] [] s' (fun v σ' => ∃ sz mb ml, okSizes K.2.2.2 8 sz ∧ wpost G σ w (K.2.2.2.flatMap enc) sz mb ml v σ') := by
      intro s' mb ml hp
      obtain ⟨-, p1, p2, p3⟩ := hp
      refine xgo 80 rfl ?_
      try simp only [xlo0, List.map_cons, List.map_nil, List.length_cons, List.length_nil, xrs, xr0, Nat.reduceAdd, Nat.reduceSub, List.cons_append, List.nil_append, List.set_cons_zero, List.set_cons_succ, Option.toList_none, Option.toList_some, nI_1]
      refine xg 6 rfl rfl rfl p1.1 rfl ?_
      refine xgo 80 rfl ?_
      try simp only [xlo0, List.map_cons, List.map_nil, List.length_cons, List.length_nil, xrs, xr0, Nat.reduceAdd, Nat.reduceSub, List.cons_append, List.nil_append, List.set_cons_zero, List.set_cons_succ, Option.toList_none, Option.toList_some, nI_1]
      refine xg 6 rfl rfl rfl p1.1 rfl ?_
      refine xgo 80 rfl ?_
      try simp only [xlo0, List.map_cons, List.map_nil, List.length_cons, List.length_nil, xrs, xr0, Nat.reduceAdd, Nat.reduceSub, List.cons_append, List.nil_append, List.set_cons_zero, List.set_cons_succ, Option.toList_none, Option.toList_some, nI_1]
      refine xg 6 rfl rfl rfl p1.2.1.obj rfl ?_
      refine xgo 80 rfl ?_
      try simp only [xlo0, List.map_cons, List.map_nil, List.length_cons, List.length_nil, xrs, xr0, Nat.reduceAdd, Nat.reduceSub, List.cons_append, List.nil_append, List.set_cons_zero, List.set_cons_succ, Option.toList_none, Option.toList_some, nI_1]
      rw [List.length_append, nI_subN (by omega), Nat.add_sub_cancel_left]
      refine xgo 80 rfl ?_
      try simp only [xlo0, List.map_cons, List.map_nil, List.length_cons, List.length_nil, xrs, xr0, Nat.reduceAdd, Nat.reduceSub, List.cons_append, List.nil_append, List.set_cons_zero, List.set_cons_succ, Option.toList_none, Option.toList_some, nI_1]
      refine xsi rfl p1.2.2.1 (nI_pos (by omega)) (by rw [hcl, vi_len, p1.2.2.2]; omega) (fun s9 n9 f9 e9 => ?_)
      have fw : frz s'.1 s9.1 w 4 := frz.one f9 (by omega) (by omega)
      refine xto 9 80 rfl ?_
      try simp only [xlo0, List.map_cons, List.map_nil, List.length_cons, List.length_nil, xrs, xr0, Nat.reduceAdd, Nat.reduceSub, List.cons_append, List.nil_append, List.set_cons_zero, List.set_cons_succ, Option.toList_none, Option.toList_some, nI_1]
      refine ih (j + 1) _ (sz.set j (nI (enc e).length)) mb ml s9 _ (by omega) (by rw [take_flat he, ← hb]) (fun i e' hi he' => ?_) (p1.size f9 (by rw [n9, hcl, vi_set]) (by rw [List.length_set]; exact p1.2.2.2)) ((h2.keep p2 (by omega)).keep fw (by omega)) ((hf.tr p2).tr fw) (e9.trans (p3.trans h3))
      by_cases hij : i = j
      · subst hij
        rw [he] at he'
        cases he'
        exact List.getElem?_set_self (by rw [p1.2.2.2]; omega)
      · rw [List.getElem?_set_ne (by omega)]
        exact ho i e' (by omega) he'
    refine xgo 80 rfl ?_
    try simp only [xlo0, List.map_cons, List.map_nil, List.length_cons, List.length_nil, xrs, xr0, Nat.reduceAdd, Nat.reduceSub, List.cons_append, List.nil_append, List.set_cons_zero, List.set_cons_succ, Option.toList_none, Option.toList_some, nI_1]
    refine xg 6 rfl rfl rfl h1.1 rfl ?_
    refine xgo 80 rfl ?_
    try simp only [xlo0, List.map_cons, List.map_nil, List.length_cons, List.length_nil, xrs, xr0, Nat.reduceAdd, Nat.reduceSub, List.cons_append, List.nil_append, List.set_cons_zero, List.set_cons_succ, Option.toList_none, Option.toList_some, nI_1]
    refine xg 6 rfl rfl rfl h1.2.1.obj rfl ?_
    refine xgo 80 rfl ?_
    try simp only [xlo0, List.map_cons, List.map_nil, List.length_cons, List.length_nil, xrs, xr0, Nat.reduceAdd, Nat.reduceSub, List.cons_append, List.nil_append, List.set_cons_zero, List.set_cons_succ, Option.toList_none, Option.toList_some, nI_1]
    refine xg 6 rfl rfl rfl h2.obj rfl ?_
    refine xgo 80 rfl ?_
    try simp only [xlo0, List.map_cons, List.map_nil, List.length_cons, List.length_nil, xrs, xr0, Nat.reduceAdd, Nat.reduceSub, List.cons_append, List.nil_append, List.set_cons_zero, List.set_cons_succ, Option.toList_none, Option.toList_some, nI_1]
    refine xi_iald rfl hps (nI_pos (by omega)) (by rw [hcl]; exact vi_get hpk) ?_
    have hee : enc e = if e.2.1 = 1 then prs 0 e.2.2 else if e.2.1 = 2 then opz e.2.2 e.2.2.length 0 0 else e.2.2 := rfl
    generalize e.2.1 = pk at hpk hee ⊢
    by_cases p1 : pk = 1
    · subst p1
      rw [if_pos rfl] at hee
      refine xi_lookup (off := 25) (tgt := 56) dX6_writeBody_31 (by decide) (by decide) (by decide) ?_
      refine xgo 80 rfl ?_
      try simp only [xlo0, List.map_cons, List.map_nil, List.length_cons, List.length_nil, xrs, xr0, Nat.reduceAdd, Nat.reduceSub, List.cons_append, List.nil_append, List.set_cons_zero, List.set_cons_succ, Option.toList_none, Option.toList_some, nI_1]
      refine xcV 6 rfl rfl rfl (c_WR_writePairs h1 h2 hP hNe hd hPl (by omega)) rfl kX6_writePairs iX6_writePairs h1.1 ⟨_, rfl, rfl⟩ rfl rfl (Nat.le_of_ble_eq_true rfl) (fun v2 s2 q2 => ?_)
      rw [← hee] at q2
      obtain ⟨rfl, q2⟩ := q2
      refine xto 86 80 rfl ?_
      try simp only [xlo0, List.map_cons, List.map_nil, List.length_cons, List.length_nil, xrs, xr0, Nat.reduceAdd, Nat.reduceSub, List.cons_append, List.nil_append, List.set_cons_zero, List.set_cons_succ, Option.toList_none, Option.toList_some, nI_1]
      exact go _ mb ml ⟨rfl, q2⟩
    · by_cases p2 : pk = 2
      · subst p2
        rw [if_neg (by decide), if_pos rfl] at hee
        refine xi_lookup (off := 34) (tgt := 65) dX6_writeBody_31 (by decide) (by decide) (by decide) ?_
        refine xgo 80 rfl ?_
        try simp only [xlo0, List.map_cons, List.map_nil, List.length_cons, List.length_nil, xrs, xr0, Nat.reduceAdd, Nat.reduceSub, List.cons_append, List.nil_append, List.set_cons_zero, List.set_cons_succ, Option.toList_none, Option.toList_some, nI_1]
        refine xcV 6 rfl rfl rfl (c_WR_writeOps h1 h2 hP hd hPl (by omega)) rfl kX6_writeOps iX6_writeOps h1.1 ⟨_, rfl, rfl⟩ rfl rfl (Nat.le_of_ble_eq_true rfl) (fun v2 s2 q2 => ?_)
        rw [← hee] at q2
        obtain ⟨mb, ml, rfl, q2⟩ := q2
        refine xto 86 80 rfl ?_
        try simp only [xlo0, List.map_cons, List.map_nil, List.length_cons, List.length_nil, xrs, xr0, Nat.reduceAdd, Nat.reduceSub, List.cons_append, List.nil_append, List.set_cons_zero, List.set_cons_succ, Option.toList_none, Option.toList_some, nI_1]
        exact go _ mb ml ⟨rfl, q2⟩
      · rw [if_neg p1, if_neg p2] at hee
        refine xi_lookup (off := 43) (tgt := 74) dX6_writeBody_31 (by decide) ((lv_osw p1 rfl).trans ((lv_osw p2 rfl).trans rfl)) (by decide) ?_
        refine xgo 80 rfl ?_
        try simp only [xlo0, List.map_cons, List.map_nil, List.length_cons, List.length_nil, xrs, xr0, Nat.reduceAdd, Nat.reduceSub, List.cons_append, List.nil_append, List.set_cons_zero, List.set_cons_succ, Option.toList_none, Option.toList_some, nI_1]
        refine xcV 6 rfl rfl rfl (c_CT_pageLength h2) rfl kX2_pageLength iX2_pageLength h2.obj ⟨_, rfl, rfl⟩ rfl rfl (Nat.le_of_ble_eq_true rfl) (fun v2 s2 q2 => ?_)
        obtain ⟨rfl, rfl⟩ := q2
        rw [hP]
        refine xgo 80 rfl ?_
        try simp only [xlo0, List.map_cons, List.map_nil, List.length_cons, List.length_nil, xrs, xr0, Nat.reduceAdd, Nat.reduceSub, List.cons_append, List.nil_append, List.set_cons_zero, List.set_cons_succ, Option.toList_none, Option.toList_some, nI_1]
        refine xcV 6 rfl rfl rfl (c_WR_writePlain (i := 0) h1 h2 hP hd (Nat.zero_le _) (Nat.le_refl _) hPl (by omega)) rfl kX6_writePlain iX6_writePlain h1.1 ⟨_, rfl, rfl⟩ rfl rfl (Nat.le_of_ble_eq_true rfl) (fun v3 s3 q3 => ?_)
        rw [List.drop_zero, Nat.sub_zero, List.take_length, ← hee] at q3
        obtain ⟨rfl, q3⟩ := q3
        exact go _ mb ml ⟨rfl, q3⟩
set_option maxRecDepth 100000 in
set_option maxHeartbeats 8000000 in
theorem c_WR_writeBody {G : xG} {d w c : Nat} {K : cV} {bs sz : List Int32} {mb ml : Int32} {σ : xS} (h : wrw G σ.1 w bs sz mb ml) (hK : cont G σ.1 c K) (hN : okRows K.2.2.2) (hd : c + 17 ≤ w ∨ w + 4 ≤ c) : xm G (d + 4) mX6_writeBody [rf G w, rf G c] σ (fun v σ' => ∃ sz mb ml, okSizes K.2.2.2 8 sz ∧ wpost G σ w (K.2.2.2.flatMap enc) sz mb ml v σ') := by
  refine xm_at 4 rfl (by decide) (Nat.le_of_ble_eq_true rfl) (by simp [Value.category]) tX6_writeBody_ok ?_
  try simp only [xlo0, List.map_cons, List.map_nil, List.length_cons, List.length_nil, xrs, xr0, Nat.reduceAdd, Nat.reduceSub, List.cons_append, List.nil_append, List.set_cons_zero, List.set_cons_succ, Option.toList_none, Option.toList_some, nI_1]
  refine xgo 80 rfl ?_
  try simp only [xlo0, List.map_cons, List.map_nil, List.length_cons, List.length_nil, xrs, xr0, Nat.reduceAdd, Nat.reduceSub, List.cons_append, List.nil_append, List.set_cons_zero, List.set_cons_succ, Option.toList_none, Option.toList_some, nI_1]
  refine xg 6 rfl rfl rfl h.1 rfl ?_
  refine xgo 80 rfl ?_
  try simp only [xlo0, List.map_cons, List.map_nil, List.length_cons, List.length_nil, xrs, xr0, Nat.reduceAdd, Nat.reduceSub, List.cons_append, List.nil_append, List.set_cons_zero, List.set_cons_succ, Option.toList_none, Option.toList_some, nI_1]
  refine xcV 6 rfl rfl rfl (c_BR_clear h.2.1) rfl kX1_clear iX1_clear h.2.1.obj ⟨_, rfl, rfl⟩ rfl rfl (Nat.le_of_ble_eq_true rfl) (fun v1 s1 q1 => ?_)
  obtain ⟨rfl, p1, p2, p3⟩ := q1
  have fw : frz σ.1 s1.1 w 4 := p2.wide (by omega) (by omega)
  refine xto 9 80 rfl ?_
  try simp only [xlo0, List.map_cons, List.map_nil, List.length_cons, List.length_nil, xrs, xr0, Nat.reduceAdd, Nat.reduceSub, List.cons_append, List.nil_append, List.set_cons_zero, List.set_cons_succ, Option.toList_none, Option.toList_some, nI_1]
  exact l_WR_writeBody hN hd K.2.2.2.length 0 [] sz mb ml s1 none (by omega) (by simp) (fun i e hi => absurd hi (by omega)) (h.body p2 p1) (hK.keep fw (by omega)) fw p3
