def fpost (G : xG) (f : Nat) (σ : xS) (F : Int32 × fS) : Option Value → xS → Prop := fun v σ' => v = some (.int F.1) ∧ fnd G σ'.1 f F.2 ∧ frz σ.1 σ'.1 f 3 ∧ σ'.2 = σ.2
theorem fpost.of {G : xG} {f : Nat} {σ s : xS} {F : Int32 × fS} (h1 : frz σ.1 s.1 f 3) (h2 : s.2 = σ.2) {v : Option Value} {σ' : xS} (h : fpost G f s F v σ') : fpost G f σ F v σ' := ⟨h.1, h.2.1, h1.tr h.2.2.1, h.2.2.2.trans h2⟩
set_option maxRecDepth 100000 in
set_option maxHeartbeats 8000000 in
theorem l_FN_ask {G : xG} {D f s dp : Nat} {L : sL} {key e nf : Int32} {x : Nat × Nat × eV} {F R : Int32 × fS} {g : Int32 → fS → Int32 × fS} {σ : xS} (hdp : dp < 12) (hs : fsep f s L) (hx1 : f + 3 ≤ x.1 ∨ x.1 + 3 ≤ f) (hx2 : f + 3 ≤ x.2.1 ∨ x.2.1 + 17 ≤ f)
    (ih : ∀ (e' : Int32) (st' : fS) (t : xS), fnd G t.1 f st' → shf G t.1 s L → xm G (D + 1) mX4_ask [rf G f, rf G s, .int e', .int key, .int (nI (dp + 1))] t (fpost G f t (g e' st')))
    (hF : ¬ R.1 < 0 → F = R)
    (kend : ∀ (t : xS) (x7 x8 : Option Value), R.1 < 0 → fnd G t.1 f R.2 → shf G t.1 s L → ent G t.1 x.1 x.2.1 x.2.2 → frz σ.1 t.1 f 3 → t.2 = σ.2 → xw G (D + 2) mX4_ask 147 [some (rf G f), some (rf G s), some (.int e), some (.int key), some (.int (nI dp)), some (rf G (x.1 + 1)), some (.int nf), x7, x8] [] t (fpost G f σ F)) :
    ∀ (n i : Nat) (st' : fS) (t : xS) (x8 : Option Value), i + n = x.2.2.2.1.length → askLF g (x.2.2.2.1.drop i) st' = R → fnd G t.1 f st' → shf G t.1 s L → ent G t.1 x.1 x.2.1 x.2.2 → frz σ.1 t.1 f 3 → t.2 = σ.2 →
    xw G (D + 2) mX4_ask 101 [some (rf G f), some (rf G s), some (.int e), some (.int key), some (.int (nI dp)), some (rf G (x.1 + 1)), some (.int nf), some (.int (nI i)), x8] [] t (fpost G f σ F) := by
  intro n
  induction n with
  | zero =>
    intro i st' t x8 hi hR h1 h2 h3 h4 h5
    have hb := h3.cont.bnd
    have h6 : x.2.2.2.1.length = x.2.2.1.2.1.length := by obtain ⟨mb, ovs, -, -, -, -, -, h6, -⟩ := h3; exact h6
    have hi' : i = x.2.2.2.1.length := by omega
    subst hi'
    rw [List.drop_length] at hR
    subst hR
    refine xgo 80 rfl ?_
    try simp only [xlo0, List.map_cons, List.map_nil, List.length_cons, List.length_nil, xrs, xr0, Nat.reduceAdd, Nat.reduceSub, List.cons_append, List.nil_append, List.set_cons_zero, List.set_cons_succ, Option.toList_none, Option.toList_some, nI_1]
    refine xg 4 rfl rfl rfl h3.obj rfl ?_
    refine xgo 80 rfl ?_
    try simp only [xlo0, List.map_cons, List.map_nil, List.length_cons, List.length_nil, xrs, xr0, Nat.reduceAdd, Nat.reduceSub, List.cons_append, List.nil_append, List.set_cons_zero, List.set_cons_succ, Option.toList_none, Option.toList_some, nI_1]
    refine xg 4 rfl rfl rfl h3.cont.obj rfl ?_
    rw [← h6]
    refine xgo 80 rfl ?_
    try simp only [xlo0, List.map_cons, List.map_nil, List.length_cons, List.length_nil, xrs, xr0, Nat.reduceAdd, Nat.reduceSub, List.cons_append, List.nil_append, List.set_cons_zero, List.set_cons_succ, Option.toList_none, Option.toList_some, nI_1]
    refine xi_icmpge rfl (fun c1 => ?_) (fun c1 => ?_)
    · exact kend t _ _ (by show (-1 : Int32) < 0; decide) h1 h2 h3 h4 h5
    · exact absurd (i_le.mpr (Int.le_refl _)) c1
  | succ n ihn =>
    intro i st' t x8 hi hR h1 h2 h3 h4 h5
    have hb := h3.cont.bnd
    have h6 : x.2.2.2.1.length = x.2.2.1.2.1.length := by obtain ⟨mb, ovs, -, -, -, -, -, h6, -⟩ := h3; exact h6
    obtain ⟨m, hm⟩ := lt_get (l := x.2.2.2.1) (j := i) (by omega)
    have hbm : bat x.2.2.2.1 (nI i) = m := by rw [bat_n (by omega), List.getD_eq_getElem?_getD, hm]; rfl
    rw [drop_cons hm] at hR
    have hR : (if (g m st').1 < 0 then askLF g (x.2.2.2.1.drop (i + 1)) (g m st').2 else g m st') = R := hR
    refine xgo 80 rfl ?_
    try simp only [xlo0, List.map_cons, List.map_nil, List.length_cons, List.length_nil, xrs, xr0, Nat.reduceAdd, Nat.reduceSub, List.cons_append, List.nil_append, List.set_cons_zero, List.set_cons_succ, Option.toList_none, Option.toList_some, nI_1]
    refine xg 4 rfl rfl rfl h3.obj rfl ?_
    refine xgo 80 rfl ?_
    try simp only [xlo0, List.map_cons, List.map_nil, List.length_cons, List.length_nil, xrs, xr0, Nat.reduceAdd, Nat.reduceSub, List.cons_append, List.nil_append, List.set_cons_zero, List.set_cons_succ, Option.toList_none, Option.toList_some, nI_1]
    refine xg 4 rfl rfl rfl h3.cont.obj rfl ?_
    rw [← h6]
    refine xgo 80 rfl ?_
    try simp only [xlo0, List.map_cons, List.map_nil, List.length_cons, List.length_nil, xrs, xr0, Nat.reduceAdd, Nat.reduceSub, List.cons_append, List.nil_append, List.set_cons_zero, List.set_cons_succ, Option.toList_none, Option.toList_some, nI_1]
    refine xi_icmpge rfl (fun c1 => ?_) (fun c1 => ?_)
    · exact absurd c1 (by rw [i_le, i_n (by omega), i_n (by omega)]; omega)
    refine xgo 80 rfl ?_
    try simp only [xlo0, List.map_cons, List.map_nil, List.length_cons, List.length_nil, xrs, xr0, Nat.reduceAdd, Nat.reduceSub, List.cons_append, List.nil_append, List.set_cons_zero, List.set_cons_succ, Option.toList_none, Option.toList_some, nI_1]
    refine xcV 4 rfl rfl rfl (c_EN_meeting h3) rfl kX3_meeting iX3_meeting h3.obj ⟨_, rfl, rfl⟩ rfl rfl (Nat.le_of_ble_eq_true rfl) (fun v1 s1 q1 => ?_)
    obtain ⟨rfl, rfl⟩ := q1
    rw [hbm]
    refine xgo 80 rfl ?_
    try simp only [xlo0, List.map_cons, List.map_nil, List.length_cons, List.length_nil, xrs, xr0, Nat.reduceAdd, Nat.reduceSub, List.cons_append, List.nil_append, List.set_cons_zero, List.set_cons_succ, Option.toList_none, Option.toList_some, nI_1]
    refine xgo 80 rfl ?_
    try simp only [xlo0, List.map_cons, List.map_nil, List.length_cons, List.length_nil, xrs, xr0, Nat.reduceAdd, Nat.reduceSub, List.cons_append, List.nil_append, List.set_cons_zero, List.set_cons_succ, Option.toList_none, Option.toList_some, nI_1]
    refine xcV 4 rfl rfl rfl (ih m st' s1 h1 h2) rfl kX4_ask iX4_ask h1.obj ⟨_, rfl, rfl⟩ rfl rfl (Nat.le_of_ble_eq_true rfl) (fun v2 s2 q2 => ?_)
    obtain ⟨rfl, p1, p2, p3⟩ := q2
    refine xgo 80 rfl ?_
    try simp only [xlo0, List.map_cons, List.map_nil, List.length_cons, List.length_nil, xrs, xr0, Nat.reduceAdd, Nat.reduceSub, List.cons_append, List.nil_append, List.set_cons_zero, List.set_cons_succ, Option.toList_none, Option.toList_some, nI_1]
    refine xi_iflt rfl (fun c2 => ?_) (fun c2 => ?_)
    · rw [if_pos c2] at hR
      refine xto 101 80 rfl ?_
      try simp only [xlo0, List.map_cons, List.map_nil, List.length_cons, List.length_nil, xrs, xr0, Nat.reduceAdd, Nat.reduceSub, List.cons_append, List.nil_append, List.set_cons_zero, List.set_cons_succ, Option.toList_none, Option.toList_some, nI_1]
      exact ihn (i + 1) _ s2 _ (by omega) hR p1 (h2.keepF hs p2) (h3.keep p2 (by omega) (by omega)) (h4.tr p2) (p3.trans h5)
    · rw [if_neg c2] at hR
      have := hF (by rw [← hR]; exact c2)
      refine xgo 80 rfl ?_
      try simp only [xlo0, List.map_cons, List.map_nil, List.length_cons, List.length_nil, xrs, xr0, Nat.reduceAdd, Nat.reduceSub, List.cons_append, List.nil_append, List.set_cons_zero, List.set_cons_succ, Option.toList_none, Option.toList_some, nI_1]
      refine xi_ret_i rfl rfl rfl ⟨?_, ?_, h4.tr p2, p3.trans h5⟩
      · rw [this, ← hR]
      · rw [this, ← hR]; exact p1
set_option maxRecDepth 100000 in
set_option maxHeartbeats 8000000 in
theorem c_FN_ask {G : xG} {d f s : Nat} {L : sL} {key : Int32} (hs : fsep f s L) : ∀ (n dp : Nat) (e : Int32) (st : fS) (σ : xS), dp + n = 12 → fnd G σ.1 f st → shf G σ.1 s L →
    xm G (d + n + 3) mX4_ask [rf G f, rf G s, .int e, .int key, .int (nI dp)] σ (fpost G f σ (askS L key n (decide (dp = 0)) e st)) := by
  have z12 : (12 : Int32).toInt = 12 := rfl
  intro n
  induction n with
  | zero =>
    intro dp e st σ hn h1 h2
    have hd : dp = 12 := by omega
    subst hd
    refine xm_at 9 rfl (by decide) (Nat.le_of_ble_eq_true rfl) (by simp [Value.category]) tX4_ask_ok ?_
    try simp only [xlo0, List.map_cons, List.map_nil, List.length_cons, List.length_nil, xrs, xr0, Nat.reduceAdd, Nat.reduceSub, List.cons_append, List.nil_append, List.set_cons_zero, List.set_cons_succ, Option.toList_none, Option.toList_some, nI_1]
    cases hg : sget L e with
    | none =>
      refine xgo 80 rfl ?_
      try simp only [xlo0, List.map_cons, List.map_nil, List.length_cons, List.length_nil, xrs, xr0, Nat.reduceAdd, Nat.reduceSub, List.cons_append, List.nil_append, List.set_cons_zero, List.set_cons_succ, Option.toList_none, Option.toList_some, nI_1]
      refine xcV 4 rfl rfl rfl (c_SH_atN h2 (sget_n hg)) rfl kX7_at iX7_at h2.2.1 ⟨_, rfl, rfl⟩ rfl rfl (Nat.le_of_ble_eq_true rfl) (fun v1 s1 q1 => ?_)
      obtain ⟨rfl, rfl⟩ := q1
      refine xgo 80 rfl ?_
      try simp only [xlo0, List.map_cons, List.map_nil, List.length_cons, List.length_nil, xrs, xr0, Nat.reduceAdd, Nat.reduceSub, List.cons_append, List.nil_append, List.set_cons_zero, List.set_cons_succ, Option.toList_none, Option.toList_some, nI_1]
      refine xi_ifnull_n rfl ?_
      refine xgo 80 rfl ?_
      try simp only [xlo0, List.map_cons, List.map_nil, List.length_cons, List.length_nil, xrs, xr0, Nat.reduceAdd, Nat.reduceSub, List.cons_append, List.nil_append, List.set_cons_zero, List.set_cons_succ, Option.toList_none, Option.toList_some, nI_1]
      refine xi_ret_i rfl rfl rfl ⟨rfl, h1, frz.rf, rfl⟩
    | some x =>
      obtain ⟨k, rfl, hx, hk12⟩ := sget_s hg h2.1
      refine xgo 80 rfl ?_
      try simp only [xlo0, List.map_cons, List.map_nil, List.length_cons, List.length_nil, xrs, xr0, Nat.reduceAdd, Nat.reduceSub, List.cons_append, List.nil_append, List.set_cons_zero, List.set_cons_succ, Option.toList_none, Option.toList_some, nI_1]
      refine xcV 4 rfl rfl rfl (c_SH_at h2 hx) rfl kX7_at iX7_at h2.2.1 ⟨_, rfl, rfl⟩ rfl rfl (Nat.le_of_ble_eq_true rfl) (fun v1 s1 q1 => ?_)
      obtain ⟨rfl, rfl⟩ := q1
      refine xgo 80 rfl ?_
      try simp only [xlo0, List.map_cons, List.map_nil, List.length_cons, List.length_nil, xrs, xr0, Nat.reduceAdd, Nat.reduceSub, List.cons_append, List.nil_append, List.set_cons_zero, List.set_cons_succ, Option.toList_none, Option.toList_some, nI_1]
      refine xi_ifnull_r rfl ?_
      refine xgo 80 rfl ?_
      try simp only [xlo0, List.map_cons, List.map_nil, List.length_cons, List.length_nil, xrs, xr0, Nat.reduceAdd, Nat.reduceSub, List.cons_append, List.nil_append, List.set_cons_zero, List.set_cons_succ, Option.toList_none, Option.toList_some, nI_1]
      refine xi_icmpge rfl (fun c1 => ?_) (fun c1 => ?_)
      · refine xgo 80 rfl ?_
        try simp only [xlo0, List.map_cons, List.map_nil, List.length_cons, List.length_nil, xrs, xr0, Nat.reduceAdd, Nat.reduceSub, List.cons_append, List.nil_append, List.set_cons_zero, List.set_cons_succ, Option.toList_none, Option.toList_some, nI_1]
        refine xi_ret_i rfl rfl rfl ⟨rfl, h1, frz.rf, rfl⟩
      · exact absurd (by decide) c1
  | succ n ih =>
    intro dp e st σ hn h1 h2
    refine xm_at 9 rfl (by decide) (Nat.le_of_ble_eq_true rfl) (by simp [Value.category]) tX4_ask_ok ?_
    try simp only [xlo0, List.map_cons, List.map_nil, List.length_cons, List.length_nil, xrs, xr0, Nat.reduceAdd, Nat.reduceSub, List.cons_append, List.nil_append, List.set_cons_zero, List.set_cons_succ, Option.toList_none, Option.toList_some, nI_1]
    cases hg : sget L e with
    | none =>
      refine xgo 80 rfl ?_
      try simp only [xlo0, List.map_cons, List.map_nil, List.length_cons, List.length_nil, xrs, xr0, Nat.reduceAdd, Nat.reduceSub, List.cons_append, List.nil_append, List.set_cons_zero, List.set_cons_succ, Option.toList_none, Option.toList_some, nI_1]
      refine xcV 4 rfl rfl rfl (c_SH_atN h2 (sget_n hg)) rfl kX7_at iX7_at h2.2.1 ⟨_, rfl, rfl⟩ rfl rfl (Nat.le_of_ble_eq_true rfl) (fun v1 s1 q1 => ?_)
      obtain ⟨rfl, rfl⟩ := q1
      refine xgo 80 rfl ?_
      try simp only [xlo0, List.map_cons, List.map_nil, List.length_cons, List.length_nil, xrs, xr0, Nat.reduceAdd, Nat.reduceSub, List.cons_append, List.nil_append, List.set_cons_zero, List.set_cons_succ, Option.toList_none, Option.toList_some, nI_1]
      refine xi_ifnull_n rfl ?_
      refine xgo 80 rfl ?_
      try simp only [xlo0, List.map_cons, List.map_nil, List.length_cons, List.length_nil, xrs, xr0, Nat.reduceAdd, Nat.reduceSub, List.cons_append, List.nil_append, List.set_cons_zero, List.set_cons_succ, Option.toList_none, Option.toList_some, nI_1]
      refine xi_ret_i rfl rfl rfl ⟨by simp only [askS, hg], by simp only [askS, hg]; exact h1, frz.rf, rfl⟩
    | some x =>
      obtain ⟨k, rfl, hx, hk12⟩ := sget_s hg h2.1
      have hen := h2.ent hx
      obtain ⟨hx1, hx2⟩ := hs.2 k x hx
      have hkt : (nI k).toInt.toNat = k := by rw [i_n (by omega)]; rfl
      have hcl : (nI k).toNatClampNeg = k := nI_clamp (by omega)
      obtain ⟨ts, a1, a2, a3, a4, a5, a6, a7⟩ := id h1
      obtain ⟨av, hav⟩ := lt_get (l := st.1) (j := k) (by omega)
      have hgd : st.1.getD k 0 = av := by rw [List.getD_eq_getElem?_getD, hav]; rfl
      refine xgo 80 rfl ?_
      try simp only [xlo0, List.map_cons, List.map_nil, List.length_cons, List.length_nil, xrs, xr0, Nat.reduceAdd, Nat.reduceSub, List.cons_append, List.nil_append, List.set_cons_zero, List.set_cons_succ, Option.toList_none, Option.toList_some, nI_1]
      refine xcV 4 rfl rfl rfl (c_SH_at h2 hx) rfl kX7_at iX7_at h2.2.1 ⟨_, rfl, rfl⟩ rfl rfl (Nat.le_of_ble_eq_true rfl) (fun v1 s1 q1 => ?_)
      obtain ⟨rfl, rfl⟩ := q1
      refine xgo 80 rfl ?_
      try simp only [xlo0, List.map_cons, List.map_nil, List.length_cons, List.length_nil, xrs, xr0, Nat.reduceAdd, Nat.reduceSub, List.cons_append, List.nil_append, List.set_cons_zero, List.set_cons_succ, Option.toList_none, Option.toList_some, nI_1]
      refine xi_ifnull_r rfl ?_
      refine xgo 80 rfl ?_
      try simp only [xlo0, List.map_cons, List.map_nil, List.length_cons, List.length_nil, xrs, xr0, Nat.reduceAdd, Nat.reduceSub, List.cons_append, List.nil_append, List.set_cons_zero, List.set_cons_succ, Option.toList_none, Option.toList_some, nI_1]
      refine xi_icmpge rfl (fun c1 => ?_) (fun c1 => ?_)
      · exact absurd c1 (by rw [i_le, i_n (by omega), z12]; omega)
      refine xgo 80 rfl ?_
      try simp only [xlo0, List.map_cons, List.map_nil, List.length_cons, List.length_nil, xrs, xr0, Nat.reduceAdd, Nat.reduceSub, List.cons_append, List.nil_append, List.set_cons_zero, List.set_cons_succ, Option.toList_none, Option.toList_some, nI_1]
      refine xcS 4 rfl rfl rfl c_isBelow rfl kX8_isBelow iX8_isBelow rfl rfl (Nat.le_of_ble_eq_true rfl) (fun v2 s2 q2 => ?_)
      obtain ⟨rfl, rfl⟩ := q2
      rw [if_pos (by rw [i_n (by omega), z12]; omega)]
      refine xgo 80 rfl ?_
      try simp only [xlo0, List.map_cons, List.map_nil, List.length_cons, List.length_nil, xrs, xr0, Nat.reduceAdd, Nat.reduceSub, List.cons_append, List.nil_append, List.set_cons_zero, List.set_cons_succ, Option.toList_none, Option.toList_some, nI_1]
      refine xi_ifeq rfl (fun c2 => ?_) (fun c2 => ?_)
      · exact absurd c2 (by decide)
      refine xgo 80 rfl ?_
      try simp only [xlo0, List.map_cons, List.map_nil, List.length_cons, List.length_nil, xrs, xr0, Nat.reduceAdd, Nat.reduceSub, List.cons_append, List.nil_append, List.set_cons_zero, List.set_cons_succ, Option.toList_none, Option.toList_some, nI_1]
      refine xg 4 rfl rfl rfl a1 rfl ?_
      refine xgo 80 rfl ?_
      try simp only [xlo0, List.map_cons, List.map_nil, List.length_cons, List.length_nil, xrs, xr0, Nat.reduceAdd, Nat.reduceSub, List.cons_append, List.nil_append, List.set_cons_zero, List.set_cons_succ, Option.toList_none, Option.toList_some, nI_1]
      refine xi_zald rfl a2 (nI_pos (by omega)) (by rw [hcl]; exact vi_get hav) ?_
      have hS : askS L key (n + 1) (decide (dp = 0)) (nI k) st = (if av ≠ 0 then (-1, st) else if decide (dp = 0) = false ∧ x.2.2.2.2.2.1 ≠ 0 then (-1, st) else
          if x.2.2.1.1.2.2.1 = 1 then
            (let r := askLF (askS L key n false) x.2.2.2.1 (st.1.set k 1, st.2)
             if r.1 < 0 then (if hasR x.2.2 key then (nI k, (r.2.1, tpush r.2.2 (nI k))) else (-1, (r.2.1, tpush r.2.2 (nI k)))) else r)
          else (if hasR x.2.2 key then (nI k, (st.1.set k 1, tpush st.2 (nI k))) else
            askLF (askS L key n false) x.2.2.2.1 (st.1.set k 1, tpush st.2 (nI k)))) := by
        simp only [askS, hg, hkt, hgd]
      refine xgo 80 rfl ?_
      try simp only [xlo0, List.map_cons, List.map_nil, List.length_cons, List.length_nil, xrs, xr0, Nat.reduceAdd, Nat.reduceSub, List.cons_append, List.nil_append, List.set_cons_zero, List.set_cons_succ, Option.toList_none, Option.toList_some, nI_1]
      refine xi_ifeq rfl (fun c3 => ?_) (fun c3 => ?_)
      · rw [if_neg (fun q => q c3)] at hS
        have closing : xw G (d + n + 4) mX4_ask 54 [some (rf G f), some (rf G s), some (.int (nI k)), some (.int key), some (.int (nI dp)), some (rf G (x.1 + 1)), none, none, none] [] s2 (fpost G f s2 (askS L key (n + 1) (decide (dp = 0)) (nI k) st)) := by
          sorry
        refine xgo 80 rfl ?_
        try simp only [xlo0, List.map_cons, List.map_nil, List.length_cons, List.length_nil, xrs, xr0, Nat.reduceAdd, Nat.reduceSub, List.cons_append, List.nil_append, List.set_cons_zero, List.set_cons_succ, Option.toList_none, Option.toList_some, nI_1]
        refine xi_ifle rfl (fun c4 => ?_) (fun c4 => ?_)
        · exact closing
        · sorry
      · rw [if_pos c3] at hS
        refine xgo 80 rfl ?_
        try simp only [xlo0, List.map_cons, List.map_nil, List.length_cons, List.length_nil, xrs, xr0, Nat.reduceAdd, Nat.reduceSub, List.cons_append, List.nil_append, List.set_cons_zero, List.set_cons_succ, Option.toList_none, Option.toList_some, nI_1]
        refine xi_ret_i rfl rfl rfl ⟨by rw [hS], by rw [hS]; exact h1, frz.rf, rfl⟩
