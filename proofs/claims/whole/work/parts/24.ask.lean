theorem askLF_neg (f : Int32 → fS → Int32 × fS) : ∀ (ms : List Int32) (st : fS), (askLF f ms st).1 < 0 → (askLF f ms st).1 = -1
  | [], _, _ => rfl
  | m :: ms, st, h => by
    unfold askLF at h ⊢
    split at h
    · next c => rw [if_pos c]; exact askLF_neg f ms _ h
    · next c => exact absurd h c
def fpost (G : xG) (f : Nat) (σ : xS) (F : Int32 × fS) : Option Value → xS → Prop := fun v σ' => v = some (.int F.1) ∧ fnd G σ'.1 f F.2 ∧ frz σ.1 σ'.1 f 3 ∧ σ'.2 = σ.2
theorem fpost.of {G : xG} {f : Nat} {σ s : xS} {F : Int32 × fS} (h1 : frz σ.1 s.1 f 3) (h2 : s.2 = σ.2) {v : Option Value} {σ' : xS} (h : fpost G f s F v σ') : fpost G f σ F v σ' := ⟨h.1, h.2.1, h1.tr h.2.2.1, h.2.2.2.trans h2⟩
set_option maxRecDepth 100000 in
set_option maxHeartbeats 8000000 in
theorem l_FN_ask {G : xG} {D f s dp : Nat} {L : sL} {key e nf : Int32} {x : Nat × Nat × eV} {F R : Int32 × fS} {g : Int32 → fS → Int32 × fS} {σ : xS} (hdp : dp < 12) (hs : fsep f s L) (hx1 : f + 3 ≤ x.1 ∨ x.1 + 3 ≤ f) (hx2 : f + 3 ≤ x.2.1 ∨ x.2.1 + 17 ≤ f)
    (ih : ∀ (e' : Int32) (st' : fS) (t : xS), fnd G t.1 f st' → shf G t.1 s L → xm G (D + 1) mX4_ask [rf G f, rf G s, .int e', .int key, .int (nI (dp + 1))] t (fpost G f t (g e' st')))
    (hF : ¬ R.1 < 0 → F = R)
    (kend : ∀ (t : xS) (x7 x8 : Option Value), R.1 < 0 → fnd G t.1 f R.2 → shf G t.1 s L → ent G t.1 x.1 x.2.1 x.2.2 → frz σ.1 t.1 f 3 → t.2 = σ.2 → xw G (D + 2) mX4_ask 147 [some (rf G f), some (rf G s), some (.int e), some (.int key), some (.int (nI dp)), some (rf G (x.1 + 1)), some (.int nf), x7, x8] [] t (fpost G f σ F)) :
    ∀ (n i : Nat) (st' : fS) (t : xS) (x8 : Option Value), i + n = x.2.2.2.1.length → askLF g (x.2.2.2.1.drop i) st' = R → fnd G t.1 f st' → shf G t.1 s L → ent G t.1 x.1 x.2.1 x.2.2 → frz σ.1 t.1 f 3 → t.2 = σ.2 →
    xw G (D + 2) mX4_ask 101 [some (rf G f), some (rf G s), some (.int e), some (.int key), some (.int (nI dp)), some (rf G (x.1 + 1)), some (.int nf), some (.int (nI i)), x8] [] t (fpost G f σ F) := by
  intro n
  induction n with
  | zero =>
    intro i st' t x8 hi hR h1 h2 h3 h4 h5
    have hb := h3.cont.bnd
    have h6 : x.2.2.2.1.length = x.2.2.1.2.1.length := by obtain ⟨mb, ovs, -, -, -, -, -, h6, -⟩ := h3; exact h6
    have hi' : i = x.2.2.2.1.length := by omega
    subst hi'
    rw [List.drop_length] at hR
    subst hR
    refine xgo 80 rfl ?_
    try simp only [xlo0, List.map_cons, List.map_nil, List.length_cons, List.length_nil, xrs, xr0, Nat.reduceAdd, Nat.reduceSub, List.cons_append, List.nil_append, List.set_cons_zero, List.set_cons_succ, Option.toList_none, Option.toList_some, nI_1]
    refine xg 4 rfl rfl rfl h3.obj rfl ?_
    refine xgo 80 rfl ?_
    try simp only [xlo0, List.map_cons, List.map_nil, List.length_cons, List.length_nil, xrs, xr0, Nat.reduceAdd, Nat.reduceSub, List.cons_append, List.nil_append, List.set_cons_zero, List.set_cons_succ, Option.toList_none, Option.toList_some, nI_1]
    refine xg 4 rfl rfl rfl h3.cont.obj rfl ?_
    rw [← h6]
    refine xgo 80 rfl ?_
    try simp only [xlo0, List.map_cons, List.map_nil, List.length_cons, List.length_nil, xrs, xr0, Nat.reduceAdd, Nat.reduceSub, List.cons_append, List.nil_append, List.set_cons_zero, List.set_cons_succ, Option.toList_none, Option.toList_some, nI_1]
    refine xi_icmpge rfl (fun c1 => ?_) (fun c1 => ?_)
    · exact kend t _ _ (by show (-1 : Int32) < 0; decide) h1 h2 h3 h4 h5
    · exact absurd (i_le.mpr (Int.le_refl _)) c1
  | succ n ihn =>
    intro i st' t x8 hi hR h1 h2 h3 h4 h5
    have hb := h3.cont.bnd
    have h6 : x.2.2.2.1.length = x.2.2.1.2.1.length := by obtain ⟨mb, ovs, -, -, -, -, -, h6, -⟩ := h3; exact h6
    obtain ⟨m, hm⟩ := lt_get (l := x.2.2.2.1) (j := i) (by omega)
    have hbm : bat x.2.2.2.1 (nI i) = m := by rw [bat_n (by omega), List.getD_eq_getElem?_getD, hm]; rfl
    rw [drop_cons hm] at hR
    have hR : (if (g m st').1 < 0 then askLF g (x.2.2.2.1.drop (i + 1)) (g m st').2 else g m st') = R := hR
    refine xgo 80 rfl ?_
    try simp only [xlo0, List.map_cons, List.map_nil, List.length_cons, List.length_nil, xrs, xr0, Nat.reduceAdd, Nat.reduceSub, List.cons_append, List.nil_append, List.set_cons_zero, List.set_cons_succ, Option.toList_none, Option.toList_some, nI_1]
    refine xg 4 rfl rfl rfl h3.obj rfl ?_
    refine xgo 80 rfl ?_
    try simp only [xlo0, List.map_cons, List.map_nil, List.length_cons, List.length_nil, xrs, xr0, Nat.reduceAdd, Nat.reduceSub, List.cons_append, List.nil_append, List.set_cons_zero, List.set_cons_succ, Option.toList_none, Option.toList_some, nI_1]
    refine xg 4 rfl rfl rfl h3.cont.obj rfl ?_
    rw [← h6]
    refine xgo 80 rfl ?_
    try simp only [xlo0, List.map_cons, List.map_nil, List.length_cons, List.length_nil, xrs, xr0, Nat.reduceAdd, Nat.reduceSub, List.cons_append, List.nil_append, List.set_cons_zero, List.set_cons_succ, Option.toList_none, Option.toList_some, nI_1]
    refine xi_icmpge rfl (fun c1 => ?_) (fun c1 => ?_)
    · exact absurd c1 (by rw [i_le, i_n (by omega), i_n (by omega)]; omega)
    refine xgo 80 rfl ?_
    try simp only [xlo0, List.map_cons, List.map_nil, List.length_cons, List.length_nil, xrs, xr0, Nat.reduceAdd, Nat.reduceSub, List.cons_append, List.nil_append, List.set_cons_zero, List.set_cons_succ, Option.toList_none, Option.toList_some, nI_1]
    refine xcV 4 rfl rfl rfl (c_EN_meeting h3) rfl kX3_meeting iX3_meeting h3.obj ⟨_, rfl, rfl⟩ rfl rfl (Nat.le_of_ble_eq_true rfl) (fun v1 s1 q1 => ?_)
    obtain ⟨rfl, rfl⟩ := q1
    rw [hbm]
    refine xgo 80 rfl ?_
    try simp only [xlo0, List.map_cons, List.map_nil, List.length_cons, List.length_nil, xrs, xr0, Nat.reduceAdd, Nat.reduceSub, List.cons_append, List.nil_append, List.set_cons_zero, List.set_cons_succ, Option.toList_none, Option.toList_some, nI_1]
    refine xgo 80 rfl ?_
    try simp only [xlo0, List.map_cons, List.map_nil, List.length_cons, List.length_nil, xrs, xr0, Nat.reduceAdd, Nat.reduceSub, List.cons_append, List.nil_append, List.set_cons_zero, List.set_cons_succ, Option.toList_none, Option.toList_some, nI_1]
    refine xcS 4 rfl rfl rfl (ih m st' s1 h1 h2) rfl kX4_ask iX4_ask rfl rfl (Nat.le_of_ble_eq_true rfl) (fun v2 s2 q2 => ?_)
    obtain ⟨rfl, p1, p2, p3⟩ := q2
    refine xgo 80 rfl ?_
    try simp only [xlo0, List.map_cons, List.map_nil, List.length_cons, List.length_nil, xrs, xr0, Nat.reduceAdd, Nat.reduceSub, List.cons_append, List.nil_append, List.set_cons_zero, List.set_cons_succ, Option.toList_none, Option.toList_some, nI_1]
    refine xi_iflt rfl (fun c2 => ?_) (fun c2 => ?_)
    · rw [if_pos c2] at hR
      refine xto 101 80 rfl ?_
      try simp only [xlo0, List.map_cons, List.map_nil, List.length_cons, List.length_nil, xrs, xr0, Nat.reduceAdd, Nat.reduceSub, List.cons_append, List.nil_append, List.set_cons_zero, List.set_cons_succ, Option.toList_none, Option.toList_some, nI_1]
      exact ihn (i + 1) _ s2 _ (by omega) hR p1 (h2.keepF hs p2) (h3.keep p2 (by omega) (by omega)) (h4.tr p2) (p3.trans h5)
    · rw [if_neg c2] at hR
      have := hF (by rw [← hR]; exact c2)
      refine xgo 80 rfl ?_
      try simp only [xlo0, List.map_cons, List.map_nil, List.length_cons, List.length_nil, xrs, xr0, Nat.reduceAdd, Nat.reduceSub, List.cons_append, List.nil_append, List.set_cons_zero, List.set_cons_succ, Option.toList_none, Option.toList_some, nI_1]
      refine xi_ret_i rfl rfl rfl ⟨?_, ?_, h4.tr p2, p3.trans h5⟩
      · rw [this, ← hR]
      · rw [this, ← hR]; exact p1
set_option maxRecDepth 100000 in
set_option maxHeartbeats 8000000 in
theorem c_FN_ask {G : xG} {d f s : Nat} {L : sL} {key : Int32} (hs : fsep f s L) : ∀ (n dp : Nat) (e : Int32) (st : fS) (σ : xS), dp + n = 12 → fnd G σ.1 f st → shf G σ.1 s L →
    xm G (d + n + 3) mX4_ask [rf G f, rf G s, .int e, .int key, .int (nI dp)] σ (fpost G f σ (askS L key n (decide (dp = 0)) e st)) := by
  have z12 : (12 : Int32).toInt = 12 := rfl
  intro n
  induction n with
  | zero =>
    intro dp e st σ hn h1 h2
    have hd : dp = 12 := by omega
    subst hd
    refine xm_at 9 rfl (by decide) (Nat.le_of_ble_eq_true rfl) (by simp [Value.category]) tX4_ask_ok ?_
    try simp only [xlo0, List.map_cons, List.map_nil, List.length_cons, List.length_nil, xrs, xr0, Nat.reduceAdd, Nat.reduceSub, List.cons_append, List.nil_append, List.set_cons_zero, List.set_cons_succ, Option.toList_none, Option.toList_some, nI_1]
    cases hg : sget L e with
    | none =>
      refine xgo 80 rfl ?_
      try simp only [xlo0, List.map_cons, List.map_nil, List.length_cons, List.length_nil, xrs, xr0, Nat.reduceAdd, Nat.reduceSub, List.cons_append, List.nil_append, List.set_cons_zero, List.set_cons_succ, Option.toList_none, Option.toList_some, nI_1]
      refine xcV 4 rfl rfl rfl (c_SH_atN h2 (sget_n hg)) rfl kX7_at iX7_at h2.2.1 ⟨_, rfl, rfl⟩ rfl rfl (Nat.le_of_ble_eq_true rfl) (fun v1 s1 q1 => ?_)
      obtain ⟨rfl, rfl⟩ := q1
      refine xgo 80 rfl ?_
      try simp only [xlo0, List.map_cons, List.map_nil, List.length_cons, List.length_nil, xrs, xr0, Nat.reduceAdd, Nat.reduceSub, List.cons_append, List.nil_append, List.set_cons_zero, List.set_cons_succ, Option.toList_none, Option.toList_some, nI_1]
      refine xi_ifnull_n rfl ?_
      refine xgo 80 rfl ?_
      try simp only [xlo0, List.map_cons, List.map_nil, List.length_cons, List.length_nil, xrs, xr0, Nat.reduceAdd, Nat.reduceSub, List.cons_append, List.nil_append, List.set_cons_zero, List.set_cons_succ, Option.toList_none, Option.toList_some, nI_1]
      refine xi_ret_i rfl rfl rfl ⟨rfl, h1, frz.rf, rfl⟩
    | some x =>
      obtain ⟨k, rfl, hx, hk12⟩ := sget_s hg h2.1
      refine xgo 80 rfl ?_
      try simp only [xlo0, List.map_cons, List.map_nil, List.length_cons, List.length_nil, xrs, xr0, Nat.reduceAdd, Nat.reduceSub, List.cons_append, List.nil_append, List.set_cons_zero, List.set_cons_succ, Option.toList_none, Option.toList_some, nI_1]
      refine xcV 4 rfl rfl rfl (c_SH_at h2 hx) rfl kX7_at iX7_at h2.2.1 ⟨_, rfl, rfl⟩ rfl rfl (Nat.le_of_ble_eq_true rfl) (fun v1 s1 q1 => ?_)
      obtain ⟨rfl, rfl⟩ := q1
      refine xgo 80 rfl ?_
      try simp only [xlo0, List.map_cons, List.map_nil, List.length_cons, List.length_nil, xrs, xr0, Nat.reduceAdd, Nat.reduceSub, List.cons_append, List.nil_append, List.set_cons_zero, List.set_cons_succ, Option.toList_none, Option.toList_some, nI_1]
      refine xi_ifnull_r rfl ?_
      refine xgo 80 rfl ?_
      try simp only [xlo0, List.map_cons, List.map_nil, List.length_cons, List.length_nil, xrs, xr0, Nat.reduceAdd, Nat.reduceSub, List.cons_append, List.nil_append, List.set_cons_zero, List.set_cons_succ, Option.toList_none, Option.toList_some, nI_1]
      refine xi_icmpge rfl (fun c1 => ?_) (fun c1 => ?_)
      · refine xgo 80 rfl ?_
        try simp only [xlo0, List.map_cons, List.map_nil, List.length_cons, List.length_nil, xrs, xr0, Nat.reduceAdd, Nat.reduceSub, List.cons_append, List.nil_append, List.set_cons_zero, List.set_cons_succ, Option.toList_none, Option.toList_some, nI_1]
        refine xi_ret_i rfl rfl rfl ⟨rfl, h1, frz.rf, rfl⟩
      · exact absurd (by decide) c1
  | succ n ih =>
    intro dp e st σ hn h1 h2
    refine xm_at 9 rfl (by decide) (Nat.le_of_ble_eq_true rfl) (by simp [Value.category]) tX4_ask_ok ?_
    try simp only [xlo0, List.map_cons, List.map_nil, List.length_cons, List.length_nil, xrs, xr0, Nat.reduceAdd, Nat.reduceSub, List.cons_append, List.nil_append, List.set_cons_zero, List.set_cons_succ, Option.toList_none, Option.toList_some, nI_1]
    cases hg : sget L e with
    | none =>
      refine xgo 80 rfl ?_
      try simp only [xlo0, List.map_cons, List.map_nil, List.length_cons, List.length_nil, xrs, xr0, Nat.reduceAdd, Nat.reduceSub, List.cons_append, List.nil_append, List.set_cons_zero, List.set_cons_succ, Option.toList_none, Option.toList_some, nI_1]
      refine xcV 4 rfl rfl rfl (c_SH_atN h2 (sget_n hg)) rfl kX7_at iX7_at h2.2.1 ⟨_, rfl, rfl⟩ rfl rfl (Nat.le_of_ble_eq_true rfl) (fun v1 s1 q1 => ?_)
      obtain ⟨rfl, rfl⟩ := q1
      refine xgo 80 rfl ?_
      try simp only [xlo0, List.map_cons, List.map_nil, List.length_cons, List.length_nil, xrs, xr0, Nat.reduceAdd, Nat.reduceSub, List.cons_append, List.nil_append, List.set_cons_zero, List.set_cons_succ, Option.toList_none, Option.toList_some, nI_1]
      refine xi_ifnull_n rfl ?_
      refine xgo 80 rfl ?_
      try simp only [xlo0, List.map_cons, List.map_nil, List.length_cons, List.length_nil, xrs, xr0, Nat.reduceAdd, Nat.reduceSub, List.cons_append, List.nil_append, List.set_cons_zero, List.set_cons_succ, Option.toList_none, Option.toList_some, nI_1]
      refine xi_ret_i rfl rfl rfl ⟨by simp only [askS, hg], by simp only [askS, hg]; exact h1, frz.rf, rfl⟩
    | some x =>
      obtain ⟨k, rfl, hx, hk12⟩ := sget_s hg h2.1
      have hen := h2.ent hx
      obtain ⟨hx1, hx2⟩ := hs.2 k x hx
      have hkt : (nI k).toInt.toNat = k := by rw [i_n (by omega)]; rfl
      have hcl : (nI k).toNatClampNeg = k := nI_clamp (by omega)
      obtain ⟨ts, a1, a2, a3, a4, a5, a6, a7⟩ := id h1
      obtain ⟨av, hav⟩ := lt_get (l := st.1) (j := k) (by omega)
      have hgd : st.1.getD k 0 = av := by rw [List.getD_eq_getElem?_getD, hav]; rfl
      refine xgo 80 rfl ?_
      try simp only [xlo0, List.map_cons, List.map_nil, List.length_cons, List.length_nil, xrs, xr0, Nat.reduceAdd, Nat.reduceSub, List.cons_append, List.nil_append, List.set_cons_zero, List.set_cons_succ, Option.toList_none, Option.toList_some, nI_1]
      refine xcV 4 rfl rfl rfl (c_SH_at h2 hx) rfl kX7_at iX7_at h2.2.1 ⟨_, rfl, rfl⟩ rfl rfl (Nat.le_of_ble_eq_true rfl) (fun v1 s1 q1 => ?_)
      obtain ⟨rfl, rfl⟩ := q1
      refine xgo 80 rfl ?_
      try simp only [xlo0, List.map_cons, List.map_nil, List.length_cons, List.length_nil, xrs, xr0, Nat.reduceAdd, Nat.reduceSub, List.cons_append, List.nil_append, List.set_cons_zero, List.set_cons_succ, Option.toList_none, Option.toList_some, nI_1]
      refine xi_ifnull_r rfl ?_
      refine xgo 80 rfl ?_
      try simp only [xlo0, List.map_cons, List.map_nil, List.length_cons, List.length_nil, xrs, xr0, Nat.reduceAdd, Nat.reduceSub, List.cons_append, List.nil_append, List.set_cons_zero, List.set_cons_succ, Option.toList_none, Option.toList_some, nI_1]
      refine xi_icmpge rfl (fun c1 => ?_) (fun c1 => ?_)
      · exact absurd c1 (by rw [i_le, i_n (by omega), z12]; omega)
      refine xgo 80 rfl ?_
      try simp only [xlo0, List.map_cons, List.map_nil, List.length_cons, List.length_nil, xrs, xr0, Nat.reduceAdd, Nat.reduceSub, List.cons_append, List.nil_append, List.set_cons_zero, List.set_cons_succ, Option.toList_none, Option.toList_some, nI_1]
      refine xcS 4 rfl rfl rfl c_isBelow rfl kX8_isBelow iX8_isBelow rfl rfl (Nat.le_of_ble_eq_true rfl) (fun v2 s2 q2 => ?_)
      obtain ⟨rfl, rfl⟩ := q2
      rw [if_pos (by rw [i_n (by omega), z12]; omega)]
      refine xgo 80 rfl ?_
      try simp only [xlo0, List.map_cons, List.map_nil, List.length_cons, List.length_nil, xrs, xr0, Nat.reduceAdd, Nat.reduceSub, List.cons_append, List.nil_append, List.set_cons_zero, List.set_cons_succ, Option.toList_none, Option.toList_some, nI_1]
      refine xi_ifeq rfl (fun c2 => ?_) (fun c2 => ?_)
      · exact absurd c2 (by decide)
      refine xgo 80 rfl ?_
      try simp only [xlo0, List.map_cons, List.map_nil, List.length_cons, List.length_nil, xrs, xr0, Nat.reduceAdd, Nat.reduceSub, List.cons_append, List.nil_append, List.set_cons_zero, List.set_cons_succ, Option.toList_none, Option.toList_some, nI_1]
      refine xg 4 rfl rfl rfl a1 rfl ?_
      refine xgo 80 rfl ?_
      try simp only [xlo0, List.map_cons, List.map_nil, List.length_cons, List.length_nil, xrs, xr0, Nat.reduceAdd, Nat.reduceSub, List.cons_append, List.nil_append, List.set_cons_zero, List.set_cons_succ, Option.toList_none, Option.toList_some, nI_1]
      refine xi_zald rfl a2 (nI_pos (by omega)) (by rw [hcl]; exact vi_get hav) ?_
      have hS : askS L key (n + 1) (decide (dp = 0)) (nI k) st = (if av ≠ 0 then (-1, st) else if decide (dp = 0) = false ∧ x.2.2.2.2.2.1 ≠ 0 then (-1, st) else
          if x.2.2.1.1.2.2.1 = 1 then
            (let r := askLF (askS L key n false) x.2.2.2.1 (st.1.set k 1, st.2)
             if r.1 < 0 then (if hasR x.2.2 key then (nI k, (r.2.1, tpush r.2.2 (nI k))) else (-1, (r.2.1, tpush r.2.2 (nI k)))) else r)
          else (if hasR x.2.2 key then (nI k, (st.1.set k 1, tpush st.2 (nI k))) else
            askLF (askS L key n false) x.2.2.2.1 (st.1.set k 1, tpush st.2 (nI k)))) := by
        simp only [askS, hg, hkt, hgd]
      refine xgo 80 rfl ?_
      try simp only [xlo0, List.map_cons, List.map_nil, List.length_cons, List.length_nil, xrs, xr0, Nat.reduceAdd, Nat.reduceSub, List.cons_append, List.nil_append, List.set_cons_zero, List.set_cons_succ, Option.toList_none, Option.toList_some, nI_1]
      refine xi_ifeq rfl (fun c3 => ?_) (fun c3 => ?_)
      · rw [if_neg (fun q => q c3)] at hS
        have closing : ¬ (decide (dp = 0) = false ∧ x.2.2.2.2.2.1 ≠ 0) → xw G (d + n + 4) mX4_ask 54 [some (rf G f), some (rf G s), some (.int (nI k)), some (.int key), some (.int (nI dp)), some (rf G (x.1 + 1)), none, none, none] [] s2 (fpost G f s2 (askS L key (n + 1) (decide (dp = 0)) (nI k) st)) := by
          intro hnc
          rw [if_neg hnc] at hS
          rw [hS]
          refine xgo 80 rfl ?_
          try simp only [xlo0, List.map_cons, List.map_nil, List.length_cons, List.length_nil, xrs, xr0, Nat.reduceAdd, Nat.reduceSub, List.cons_append, List.nil_append, List.set_cons_zero, List.set_cons_succ, Option.toList_none, Option.toList_some, nI_1]
          refine xg 4 rfl rfl rfl a1 rfl ?_
          refine xgo 80 rfl ?_
          try simp only [xlo0, List.map_cons, List.map_nil, List.length_cons, List.length_nil, xrs, xr0, Nat.reduceAdd, Nat.reduceSub, List.cons_append, List.nil_append, List.set_cons_zero, List.set_cons_succ, Option.toList_none, Option.toList_some, nI_1]
          refine xsz rfl a2 (nI_pos (by omega)) (by rw [hcl, vi_len]; omega) (by decide) (fun s3 n3 f3 e3 => ?_)
          have hf3 : frz s2.1 s3.1 f 3 := frz.one f3 (by omega) (by omega)
          have a1 := (f3 _ (by omega)).trans a1
          have a4 := (f3 _ (by omega)).trans a4
          have hn3 : fnd G s3.1 f (st.1.set k 1, st.2) := ⟨ts, a1, by rw [n3, hcl, vi_set], by simp [a3], a4, a5, a6, a7⟩
          have hsh3 := h2.keepF hs hf3
          have hen3 := hen.keep hf3 (by omega) (by omega)
          refine xgo 80 rfl ?_
          try simp only [xlo0, List.map_cons, List.map_nil, List.length_cons, List.length_nil, xrs, xr0, Nat.reduceAdd, Nat.reduceSub, List.cons_append, List.nil_append, List.set_cons_zero, List.set_cons_succ, Option.toList_none, Option.toList_some, nI_1]
          refine xg 4 rfl rfl rfl hen3.obj rfl ?_
          refine xgo 80 rfl ?_
          try simp only [xlo0, List.map_cons, List.map_nil, List.length_cons, List.length_nil, xrs, xr0, Nat.reduceAdd, Nat.reduceSub, List.cons_append, List.nil_append, List.set_cons_zero, List.set_cons_succ, Option.toList_none, Option.toList_some, nI_1]
          refine xg 4 rfl rfl rfl hen3.cont.obj rfl ?_
          have ihx : ∀ (e' : Int32) (st' : fS) (t : xS), fnd G t.1 f st' → shf G t.1 s L → xm G (d + n + 3) mX4_ask [rf G f, rf G s, .int e', .int key, .int (nI (dp + 1))] t (fpost G f t (askS L key n false e' st')) := fun e' st' t g1 g2 => by
            have := ih (dp + 1) e' st' t (by omega) g1 g2
            rw [show decide (dp + 1 = 0) = false by simp] at this
            exact this
          refine xgo 80 rfl ?_
          try simp only [xlo0, List.map_cons, List.map_nil, List.length_cons, List.length_nil, xrs, xr0, Nat.reduceAdd, Nat.reduceSub, List.cons_append, List.nil_append, List.set_cons_zero, List.set_cons_succ, Option.toList_none, Option.toList_some, nI_1]
          refine xi_icmpne rfl (fun c5 => ?_) (fun c5 => ?_)
          · rw [if_neg c5]
            refine xgo 80 rfl ?_
            try simp only [xlo0, List.map_cons, List.map_nil, List.length_cons, List.length_nil, xrs, xr0, Nat.reduceAdd, Nat.reduceSub, List.cons_append, List.nil_append, List.set_cons_zero, List.set_cons_succ, Option.toList_none, Option.toList_some, nI_1]
            refine xi_ifne rfl (fun c6 => ?_) (fun c6 => ?_)
            · exact absurd rfl c6
            refine xgo 80 rfl ?_
            try simp only [xlo0, List.map_cons, List.map_nil, List.length_cons, List.length_nil, xrs, xr0, Nat.reduceAdd, Nat.reduceSub, List.cons_append, List.nil_append, List.set_cons_zero, List.set_cons_succ, Option.toList_none, Option.toList_some, nI_1]
            refine xcV 4 rfl rfl rfl (c_FN_looksInto (e := nI k) (key := key) hn3 hen3 (by omega) (by omega)) rfl kX4_looksInto iX4_looksInto hn3.obj ⟨_, rfl, rfl⟩ rfl rfl (Nat.le_of_ble_eq_true rfl) (fun v4 s4 q4 => ?_)
            obtain ⟨rfl, p1, p2, p3⟩ := q4
            cases hr : hasR x.2.2 key with
            | true =>
              refine xgo 80 rfl ?_
              try simp only [xlo0, List.map_cons, List.map_nil, List.length_cons, List.length_nil, xrs, xr0, Nat.reduceAdd, Nat.reduceSub, List.cons_append, List.nil_append, List.set_cons_zero, List.set_cons_succ, Option.toList_none, Option.toList_some, nI_1]
              refine xi_ifeq rfl (fun c7 => ?_) (fun c7 => ?_)
              · exact absurd c7 (by decide)
              · first | rw [if_pos rfl] | rw [if_pos trivial]
                refine xgo 80 rfl ?_
                try simp only [xlo0, List.map_cons, List.map_nil, List.length_cons, List.length_nil, xrs, xr0, Nat.reduceAdd, Nat.reduceSub, List.cons_append, List.nil_append, List.set_cons_zero, List.set_cons_succ, Option.toList_none, Option.toList_some, nI_1]
                refine xi_ret_i rfl rfl rfl ⟨rfl, p1, hf3.tr p2, p3.trans e3⟩
            | false =>
              refine xgo 80 rfl ?_
              try simp only [xlo0, List.map_cons, List.map_nil, List.length_cons, List.length_nil, xrs, xr0, Nat.reduceAdd, Nat.reduceSub, List.cons_append, List.nil_append, List.set_cons_zero, List.set_cons_succ, Option.toList_none, Option.toList_some, nI_1]
              refine xi_ifeq rfl (fun c7 => ?_) (fun c7 => ?_)
              · rw [if_neg (by decide)]
                refine xto 101 80 rfl ?_
                try simp only [xlo0, List.map_cons, List.map_nil, List.length_cons, List.length_nil, xrs, xr0, Nat.reduceAdd, Nat.reduceSub, List.cons_append, List.nil_append, List.set_cons_zero, List.set_cons_succ, Option.toList_none, Option.toList_some, nI_1]
                refine l_FN_ask (R := askLF (askS L key n false) x.2.2.2.1 (st.1.set k 1, tpush st.2 (nI k))) (g := askS L key n false) (by omega) hs hx1 hx2 ihx (fun _ => rfl) (fun t x7 x8 hR t1 t2 t3 t4 t5 => ?_) x.2.2.2.1.length 0 _ s4 _ (by omega) rfl p1 (hsh3.keepF hs p2) (hen3.keep p2 (by omega) (by omega)) (hf3.tr p2) (p3.trans e3)
                refine xgo 80 rfl ?_
                try simp only [xlo0, List.map_cons, List.map_nil, List.length_cons, List.length_nil, xrs, xr0, Nat.reduceAdd, Nat.reduceSub, List.cons_append, List.nil_append, List.set_cons_zero, List.set_cons_succ, Option.toList_none, Option.toList_some, nI_1]
                refine xi_ifeq rfl (fun c8 => ?_) (fun c8 => ?_)
                · refine xgo 80 rfl ?_
                  try simp only [xlo0, List.map_cons, List.map_nil, List.length_cons, List.length_nil, xrs, xr0, Nat.reduceAdd, Nat.reduceSub, List.cons_append, List.nil_append, List.set_cons_zero, List.set_cons_succ, Option.toList_none, Option.toList_some, nI_1]
                  refine xi_ret_i rfl rfl rfl ⟨by rw [askLF_neg _ _ _ hR], t1, t4, t5⟩
                · exact absurd rfl c8
              · exact absurd rfl c7
          · rw [if_pos c5]
            refine xgo 80 rfl ?_
            try simp only [xlo0, List.map_cons, List.map_nil, List.length_cons, List.length_nil, xrs, xr0, Nat.reduceAdd, Nat.reduceSub, List.cons_append, List.nil_append, List.set_cons_zero, List.set_cons_succ, Option.toList_none, Option.toList_some, nI_1]
            refine xi_ifne rfl (fun c6 => ?_) (fun c6 => ?_)
            · refine xto 101 80 rfl ?_
              try simp only [xlo0, List.map_cons, List.map_nil, List.length_cons, List.length_nil, xrs, xr0, Nat.reduceAdd, Nat.reduceSub, List.cons_append, List.nil_append, List.set_cons_zero, List.set_cons_succ, Option.toList_none, Option.toList_some, nI_1]
              refine l_FN_ask (R := askLF (askS L key n false) x.2.2.2.1 (st.1.set k 1, st.2)) (g := askS L key n false) (by omega) hs hx1 hx2 ihx (fun hR => if_neg hR) (fun t x7 x8 hR t1 t2 t3 t4 t5 => ?_) x.2.2.2.1.length 0 _ s3 _ (by omega) rfl hn3 hsh3 hen3 hf3 e3
              refine xgo 80 rfl ?_
              try simp only [xlo0, List.map_cons, List.map_nil, List.length_cons, List.length_nil, xrs, xr0, Nat.reduceAdd, Nat.reduceSub, List.cons_append, List.nil_append, List.set_cons_zero, List.set_cons_succ, Option.toList_none, Option.toList_some, nI_1]
              refine xi_ifeq rfl (fun c8 => ?_) (fun c8 => ?_)
              · exact absurd c8 (by decide)
              refine xgo 80 rfl ?_
              try simp only [xlo0, List.map_cons, List.map_nil, List.length_cons, List.length_nil, xrs, xr0, Nat.reduceAdd, Nat.reduceSub, List.cons_append, List.nil_append, List.set_cons_zero, List.set_cons_succ, Option.toList_none, Option.toList_some, nI_1]
              refine xcV 4 rfl rfl rfl (c_FN_looksInto (e := nI k) (key := key) t1 t3 (by omega) (by omega)) rfl kX4_looksInto iX4_looksInto t1.obj ⟨_, rfl, rfl⟩ rfl rfl (Nat.le_of_ble_eq_true rfl) (fun v4 s4 q4 => ?_)
              obtain ⟨rfl, p1, p2, p3⟩ := q4
              cases hr : hasR x.2.2 key with
              | true =>
                refine xgo 80 rfl ?_
                try simp only [xlo0, List.map_cons, List.map_nil, List.length_cons, List.length_nil, xrs, xr0, Nat.reduceAdd, Nat.reduceSub, List.cons_append, List.nil_append, List.set_cons_zero, List.set_cons_succ, Option.toList_none, Option.toList_some, nI_1]
                refine xi_ifeq rfl (fun c9 => ?_) (fun c9 => ?_)
                · exact absurd c9 (by decide)
                · refine xgo 80 rfl ?_
                  try simp only [xlo0, List.map_cons, List.map_nil, List.length_cons, List.length_nil, xrs, xr0, Nat.reduceAdd, Nat.reduceSub, List.cons_append, List.nil_append, List.set_cons_zero, List.set_cons_succ, Option.toList_none, Option.toList_some, nI_1]
                  refine xi_ret_i rfl rfl rfl ⟨?_, ?_, t4.tr p2, p3.trans t5⟩
                  · simp only [if_pos hR]; rfl
                  · simp only [if_pos hR]; exact p1
              | false =>
                refine xgo 80 rfl ?_
                try simp only [xlo0, List.map_cons, List.map_nil, List.length_cons, List.length_nil, xrs, xr0, Nat.reduceAdd, Nat.reduceSub, List.cons_append, List.nil_append, List.set_cons_zero, List.set_cons_succ, Option.toList_none, Option.toList_some, nI_1]
                refine xi_ifeq rfl (fun c9 => ?_) (fun c9 => ?_)
                · refine xgo 80 rfl ?_
                  try simp only [xlo0, List.map_cons, List.map_nil, List.length_cons, List.length_nil, xrs, xr0, Nat.reduceAdd, Nat.reduceSub, List.cons_append, List.nil_append, List.set_cons_zero, List.set_cons_succ, Option.toList_none, Option.toList_some, nI_1]
                  refine xi_ret_i rfl rfl rfl ⟨?_, ?_, t4.tr p2, p3.trans t5⟩
                  · simp only [if_pos hR]; rfl
                  · simp only [if_pos hR]; exact p1
                · exact absurd rfl c9
            · exact absurd c6 (by decide)
        refine xgo 80 rfl ?_
        try simp only [xlo0, List.map_cons, List.map_nil, List.length_cons, List.length_nil, xrs, xr0, Nat.reduceAdd, Nat.reduceSub, List.cons_append, List.nil_append, List.set_cons_zero, List.set_cons_succ, Option.toList_none, Option.toList_some, nI_1]
        refine xi_ifle rfl (fun c4 => ?_) (fun c4 => ?_)
        · refine closing (fun q => ?_)
          rw [i_le, i_n (by omega)] at c4
          have hz0 : (0 : Int32).toInt = 0 := rfl
          have : dp = 0 := by omega
          rw [this] at q
          exact absurd q.1 (by decide)
        · refine xgo 80 rfl ?_
          try simp only [xlo0, List.map_cons, List.map_nil, List.length_cons, List.length_nil, xrs, xr0, Nat.reduceAdd, Nat.reduceSub, List.cons_append, List.nil_append, List.set_cons_zero, List.set_cons_succ, Option.toList_none, Option.toList_some, nI_1]
          refine xg 4 rfl rfl rfl hen.obj rfl ?_
          refine xgo 80 rfl ?_
          try simp only [xlo0, List.map_cons, List.map_nil, List.length_cons, List.length_nil, xrs, xr0, Nat.reduceAdd, Nat.reduceSub, List.cons_append, List.nil_append, List.set_cons_zero, List.set_cons_succ, Option.toList_none, Option.toList_some, nI_1]
          refine xi_ifeq rfl (fun c5 => ?_) (fun c5 => ?_)
          · exact closing (fun q => q.2 c5)
          · rw [i_le, i_n (by omega)] at c4
            have hz0 : (0 : Int32).toInt = 0 := rfl
            rw [if_pos ⟨decide_eq_false (by omega), c5⟩] at hS
            refine xgo 80 rfl ?_
            try simp only [xlo0, List.map_cons, List.map_nil, List.length_cons, List.length_nil, xrs, xr0, Nat.reduceAdd, Nat.reduceSub, List.cons_append, List.nil_append, List.set_cons_zero, List.set_cons_succ, Option.toList_none, Option.toList_some, nI_1]
            refine xi_ret_i rfl rfl rfl ⟨by rw [hS], by rw [hS]; exact h1, frz.rf, rfl⟩
      · rw [if_pos c3] at hS
        refine xgo 80 rfl ?_
        try simp only [xlo0, List.map_cons, List.map_nil, List.length_cons, List.length_nil, xrs, xr0, Nat.reduceAdd, Nat.reduceSub, List.cons_append, List.nil_append, List.set_cons_zero, List.set_cons_succ, Option.toList_none, Option.toList_some, nI_1]
        refine xi_ret_i rfl rfl rfl ⟨by rw [hS], by rw [hS]; exact h1, frz.rf, rfl⟩
set_option maxRecDepth 100000 in
set_option maxHeartbeats 8000000 in
theorem l_FN_from {G : xG} {d f s : Nat} {L : sL} {key e : Int32} {σ : xS} (hs : fsep f s L) : ∀ (n j : Nat) (st : fS) (t : xS), j + n = 12 → fnd G t.1 f st → (∀ i, i < j → st.1[i]? = some 0) → shf G t.1 s L → frz σ.1 t.1 f 3 → t.2 = σ.2 →
    xw G (d + 16) mX4_from 3 [some (rf G f), some (rf G s), some (.int e), some (.int key), some (.int (nI j))] [] t (fpost G f σ (askS L key 12 true e (List.replicate 12 0, []))) := by
  have z12 : (12 : Int32).toInt = 12 := rfl
  intro n
  induction n with
  | zero =>
    intro j st t hj h1 h0 h2 h3 h4
    have hj' : j = 12 := by omega
    subst hj'
    obtain ⟨ts, a1, a2, a3, a4, a5, a6, a7⟩ := id h1
    have hst : st.1 = List.replicate 12 0 := List.eq_replicate_iff.mpr ⟨a3, fun o ho => by
      obtain ⟨i, hi⟩ := List.getElem?_of_mem ho
      have := h0 i (by have := (List.getElem?_eq_some_iff.mp hi).1; omega)
      rw [this] at hi
      exact (Option.some.inj hi).symm⟩
    refine xgo 80 rfl ?_
    try simp only [xlo0, List.map_cons, List.map_nil, List.length_cons, List.length_nil, xrs, xr0, Nat.reduceAdd, Nat.reduceSub, List.cons_append, List.nil_append, List.set_cons_zero, List.set_cons_succ, Option.toList_none, Option.toList_some, nI_1]
    refine xi_icmpge rfl (fun c1 => ?_) (fun c1 => ?_)
    · refine xgo 80 rfl ?_
      try simp only [xlo0, List.map_cons, List.map_nil, List.length_cons, List.length_nil, xrs, xr0, Nat.reduceAdd, Nat.reduceSub, List.cons_append, List.nil_append, List.set_cons_zero, List.set_cons_succ, Option.toList_none, Option.toList_some, nI_1]
      refine xp 4 rfl rfl rfl a1 rfl rfl rfl (fun s1 n1 f1 e1 => ?_)
      have a2 := (f1 _ (by omega)).trans a2
      have a4 := (f1 _ (by omega)).trans a4
      have hf : frz t.1 s1.1 f 3 := frz.one f1 (by omega) (by omega)
      have h1' : fnd G s1.1 f (List.replicate 12 0, []) := ⟨ts, n1, by rw [a2, hst], rfl, a4, a5, by simp, by simp⟩
      refine xgo 80 rfl ?_
      try simp only [xlo0, List.map_cons, List.map_nil, List.length_cons, List.length_nil, xrs, xr0, Nat.reduceAdd, Nat.reduceSub, List.cons_append, List.nil_append, List.set_cons_zero, List.set_cons_succ, Option.toList_none, Option.toList_some, nI_1]
      refine xcS 4 rfl rfl rfl (c_FN_ask (d := d) (n := 12) (dp := 0) (e := e) (key := key) hs _ s1 (by omega) h1' (h2.keepF hs hf)) rfl kX4_ask iX4_ask rfl rfl (Nat.le_of_ble_eq_true rfl) (fun v2 s2 q2 => ?_)
      obtain ⟨rfl, p1, p2, p3⟩ := q2
      refine xgo 80 rfl ?_
      try simp only [xlo0, List.map_cons, List.map_nil, List.length_cons, List.length_nil, xrs, xr0, Nat.reduceAdd, Nat.reduceSub, List.cons_append, List.nil_append, List.set_cons_zero, List.set_cons_succ, Option.toList_none, Option.toList_some, nI_1]
      refine xi_ret_i rfl rfl rfl ⟨rfl, p1, (h3.tr hf).tr p2, p3.trans (e1.trans h4)⟩
    · exact absurd (by decide) c1
  | succ n ih =>
    intro j st t hj h1 h0 h2 h3 h4
    obtain ⟨ts, a1, a2, a3, a4, a5, a6, a7⟩ := id h1
    have hcl : (nI j).toNatClampNeg = j := nI_clamp (by omega)
    refine xgo 80 rfl ?_
    try simp only [xlo0, List.map_cons, List.map_nil, List.length_cons, List.length_nil, xrs, xr0, Nat.reduceAdd, Nat.reduceSub, List.cons_append, List.nil_append, List.set_cons_zero, List.set_cons_succ, Option.toList_none, Option.toList_some, nI_1]
    refine xi_icmpge rfl (fun c1 => ?_) (fun c1 => ?_)
    · exact absurd c1 (by rw [i_le, i_n (by omega), z12]; omega)
    refine xgo 80 rfl ?_
    try simp only [xlo0, List.map_cons, List.map_nil, List.length_cons, List.length_nil, xrs, xr0, Nat.reduceAdd, Nat.reduceSub, List.cons_append, List.nil_append, List.set_cons_zero, List.set_cons_succ, Option.toList_none, Option.toList_some, nI_1]
    refine xg 4 rfl rfl rfl a1 rfl ?_
    refine xgo 80 rfl ?_
    try simp only [xlo0, List.map_cons, List.map_nil, List.length_cons, List.length_nil, xrs, xr0, Nat.reduceAdd, Nat.reduceSub, List.cons_append, List.nil_append, List.set_cons_zero, List.set_cons_succ, Option.toList_none, Option.toList_some, nI_1]
    refine xsz rfl a2 (nI_pos (by omega)) (by rw [hcl, vi_len]; omega) (by decide) (fun s1 n1 f1 e1 => ?_)
    have a1 := (f1 _ (by omega)).trans a1
    have a4 := (f1 _ (by omega)).trans a4
    have hf : frz t.1 s1.1 f 3 := frz.one f1 (by omega) (by omega)
    refine xto 3 80 rfl ?_
    try simp only [xlo0, List.map_cons, List.map_nil, List.length_cons, List.length_nil, xrs, xr0, Nat.reduceAdd, Nat.reduceSub, List.cons_append, List.nil_append, List.set_cons_zero, List.set_cons_succ, Option.toList_none, Option.toList_some, nI_1]
    refine ih (j + 1) (st.1.set j 0, st.2) s1 (by omega) ⟨ts, a1, by rw [n1, hcl, vi_set], by simp [a3], a4, a5, a6, a7⟩ (fun i hi => ?_) (h2.keepF hs hf) (h3.tr hf) (e1.trans h4)
    by_cases hij : j = i
    · subst hij
      exact List.getElem?_set_self (by omega)
    · rw [List.getElem?_set_ne hij]
      exact h0 i (by omega)
set_option maxRecDepth 100000 in
set_option maxHeartbeats 8000000 in
theorem c_FN_from {G : xG} {d f s : Nat} {L : sL} {key e : Int32} {st : fS} {σ : xS} (hs : fsep f s L) (h1 : fnd G σ.1 f st) (h2 : shf G σ.1 s L) : xm G (d + 16) mX4_from [rf G f, rf G s, .int e, .int key] σ (fpost G f σ (askS L key 12 true e (List.replicate 12 0, []))) := by
  refine xm_at 5 rfl (by decide) (Nat.le_of_ble_eq_true rfl) (by simp [Value.category]) tX4_from_ok ?_
  try simp only [xlo0, List.map_cons, List.map_nil, List.length_cons, List.length_nil, xrs, xr0, Nat.reduceAdd, Nat.reduceSub, List.cons_append, List.nil_append, List.set_cons_zero, List.set_cons_succ, Option.toList_none, Option.toList_some, nI_1]
  refine xto 3 80 rfl ?_
  try simp only [xlo0, List.map_cons, List.map_nil, List.length_cons, List.length_nil, xrs, xr0, Nat.reduceAdd, Nat.reduceSub, List.cons_append, List.nil_append, List.set_cons_zero, List.set_cons_succ, Option.toList_none, Option.toList_some, nI_1]
  exact l_FN_from hs 12 0 st σ (by omega) h1 (fun i hi => by omega) h2 frz.rf rfl
