set_option maxRecDepth 100000 in
set_option maxHeartbeats 8000000 in
theorem c_RD_hearOps {G : xG} {d r b c cap k lr z : Nat} {bs : List Int32} {s : pS} {w : Int32 × Int32 × List Int32} {σ : xS} (h : rdw G σ.1 r b c cap bs s) (hs : rsep r b c) (hk : k < 8) (hw : s.2.2.1.2.2.2[k]? = some w) (hlr : lr ≤ 120) (hl : w.2.2.length ≤ lr) (hx : s.2.2.2.1[k]? = some (nI lr)) (hz : s.2.2.2.2[k]? = some (nI z)) (hz2 : z ≤ 250) : xm G (d + 4) mX5_hearOps [rf G r, .int (nI k)] σ (rpost G σ r b c cap bs none (hOps bs k z (nI lr) s)) := by
  have hcl : (nI k).toNatClampNeg = k := nI_clamp (by omega)
  have hlen := h.len
  refine xm_at 9 rfl (by decide) (Nat.le_of_ble_eq_true rfl) (by simp [Value.category]) tX5_hearOps_ok ?_
  try simp only [xlo0, List.map_cons, List.map_nil, List.length_cons, List.length_nil, xrs, xr0, Nat.reduceAdd, Nat.reduceSub, List.cons_append, List.nil_append, List.set_cons_zero, List.set_cons_succ, Option.toList_none, Option.toList_some, nI_1]
  refine xgo 80 rfl ?_
  try simp only [xlo0, List.map_cons, List.map_nil, List.length_cons, List.length_nil, xrs, xr0, Nat.reduceAdd, Nat.reduceSub, List.cons_append, List.nil_append, List.set_cons_zero, List.set_cons_succ, Option.toList_none, Option.toList_some, nI_1]
  refine xg 5 rfl rfl rfl h.1 rfl ?_
  refine xgo 80 rfl ?_
  try simp only [xlo0, List.map_cons, List.map_nil, List.length_cons, List.length_nil, xrs, xr0, Nat.reduceAdd, Nat.reduceSub, List.cons_append, List.nil_append, List.set_cons_zero, List.set_cons_succ, Option.toList_none, Option.toList_some, nI_1]
  refine xg 5 rfl rfl rfl h.1 rfl ?_
  refine xgo 80 rfl ?_
  try simp only [xlo0, List.map_cons, List.map_nil, List.length_cons, List.length_nil, xrs, xr0, Nat.reduceAdd, Nat.reduceSub, List.cons_append, List.nil_append, List.set_cons_zero, List.set_cons_succ, Option.toList_none, Option.toList_some, nI_1]
  refine xi_iald rfl h.2.2.1 (nI_pos (by omega)) (by rw [hcl]; exact vi_get hz) ?_
  refine xto 14 80 rfl ?_
  try simp only [xlo0, List.map_cons, List.map_nil, List.length_cons, List.length_nil, xrs, xr0, Nat.reduceAdd, Nat.reduceSub, List.cons_append, List.nil_append, List.set_cons_zero, List.set_cons_succ, Option.toList_none, Option.toList_some, nI_1]
  rw [nI_addN]
  exact l_RD_hearOps hs hk (by omega) hlr 250 0 s σ none none none none none (by omega) ⟨⟨w, hw, h.say.row hw, fun _ => hl⟩, hx⟩ rfl h fr2.rf rfl
/-- all but row k's bytes, the place and what is wrong is the same -/
def sbut (k : Nat) (s s' : pS) : Prop := s'.2.2.2 = s.2.2.2 ∧ s'.2.2.1.1 = s.2.2.1.1 ∧ s'.2.2.1.2.1 = s.2.2.1.2.1 ∧ s'.2.2.1.2.2.1 = s.2.2.1.2.2.1 ∧ s'.2.2.1.2.2.2.length = s.2.2.1.2.2.2.length ∧ ∀ j, j ≠ k → s'.2.2.1.2.2.2[j]? = s.2.2.1.2.2.2[j]?
theorem sbut.rf {k : Nat} {s : pS} : sbut k s s := ⟨rfl, rfl, rfl, rfl, rfl, fun _ _ => rfl⟩
theorem sbut.tr {k : Nat} {s s1 s2 : pS} (h : sbut k s s1) (g : sbut k s1 s2) : sbut k s s2 := ⟨g.1.trans h.1, g.2.1.trans h.2.1, g.2.2.1.trans h.2.2.1, g.2.2.2.1.trans h.2.2.2.1, g.2.2.2.2.1.trans h.2.2.2.2.1, fun j hj => (g.2.2.2.2.2 j hj).trans (h.2.2.2.2.2 j hj)⟩
theorem sbut.rest {k : Nat} {s s' : pS} (h : s'.2.2 = s.2.2) : sbut k s s' := by
  unfold sbut
  rw [h]
  exact ⟨rfl, rfl, rfl, rfl, rfl, fun _ _ => rfl⟩
theorem sbut.srow {k : Nat} {x : List Int32} {s : pS} : sbut k s (srow k x s) := ⟨rfl, rfl, rfl, rfl, rset_len _ _ _, fun _ hj => rset_ne _ hj⟩
theorem sbut.nxt {k : Nat} {bs : List Int32} {lo hi : Int32} {s : pS} : sbut k s (nxt bs lo hi s).2 := sbut.rest (nxt_rest ..)
theorem sbut.refS {k x : Nat} {s : pS} : sbut k s (refS x s) := sbut.rest (refS_rest ..)
theorem sbut.loop {k : Nat} {f : pS → pS} (hf : ∀ s, sbut k s (f s)) : ∀ (n : Nat) (s : pS), sbut k s (hLoop f n s)
  | 0, s => sbut.rf
  | n + 1, s => by
    unfold hLoop
    split
    · exact sbut.rf
    · exact (hf s).tr (sbut.loop hf n _)
theorem sbut.until {k e : Nat} {f : pS → pS} (hf : ∀ s, sbut k s (f s)) : ∀ (n : Nat) (s : pS), sbut k s (hUntil f e n s)
  | 0, s => sbut.rf
  | n + 1, s => by
    unfold hUntil
    split
    · exact sbut.rf
    · exact (hf s).tr (sbut.until hf n _)
theorem sbut.plain {bs : List Int32} {k n : Nat} {s : pS} : sbut k s (hPlain bs k n s) := sbut.loop (fun s => sbut.nxt.tr sbut.srow) n s
theorem sbut.copy {bs : List Int32} {k m : Nat} {s : pS} : sbut k s (hCopy bs k m s) := by
  unfold hCopy
  dsimp only
  split
  · exact sbut.nxt
  · exact sbut.nxt.tr sbut.srow
theorem sbut.lack {k : Nat} {x : Int32} {s : pS} : sbut k s (hLack k x s) := by
  unfold hLack
  split
  · exact sbut.refS
  · exact sbut.rf
theorem sbut.ite {k : Nat} {s a b : pS} (c : Prop) [Decidable c] (h1 : sbut k s a) (h2 : sbut k s b) : sbut k s (if c then a else b) := by
  split
  · exact h1
  · exact h2
theorem sbut.pairs {bs : List Int32} {k z : Nat} {x : Int32} {s : pS} : sbut k s (hPairs bs k z x s) :=
  (sbut.until (fun _ => sbut.ite _ (sbut.nxt.tr sbut.nxt) ((sbut.nxt.tr sbut.nxt).tr sbut.srow)) 250 s).tr sbut.lack
theorem sbut.ops {bs : List Int32} {k z : Nat} {x : Int32} {s : pS} : sbut k s (hOps bs k z x s) :=
  (sbut.until (fun _ => sbut.ite _ ((sbut.ite _ (sbut.nxt.tr sbut.refS) sbut.nxt).tr sbut.copy) ((sbut.ite _ (sbut.nxt.tr sbut.refS) sbut.nxt).tr sbut.plain)) 250 s).tr sbut.lack
theorem sbut.plainPage {bs : List Int32} {k : Nat} {x z : Int32} {s : pS} : sbut k s (hPlainPage bs k x z s) := by
  unfold hPlainPage
  split
  · exact sbut.plain
  · exact sbut.refS
/-- one page is heard -/
def hPage (bs : List Int32) (k : Nat) (s : pS) : pS :=
  let x := s.2.2.2.1.getD k 0
  let z := s.2.2.2.2.getD k 0
  let pk := (s.2.2.1.2.2.2.getD k (0, 0, [])).2.1
  if pk = 1 then hPairs bs k z.toInt.toNat x s else if pk = 2 then hOps bs k z.toInt.toNat x s else hPlainPage bs k x z s
theorem sbut.page {bs : List Int32} {k : Nat} {s : pS} : sbut k s (hPage bs k s) := by
  unfold hPage
  dsimp only
  split
  · exact sbut.pairs
  · split
    · exact sbut.ops
    · exact sbut.plainPage
def hPages (bs : List Int32) : Nat → Nat → pS → pS
  | 0, _, s => s
  | n + 1, k, s => if s.2.1.isSome then s else hPages bs n (k + 1) (hPage bs k s)
/-- heads of rows as they must be ahead of their pages -/
def okHeads (k : Nat) (s : pS) : Prop := ∀ j, k ≤ j → j < s.2.2.1.2.2.2.length → ∃ (key pk : Int32) (lr z : Nat), s.2.2.1.2.2.2[j]? = some (key, pk, []) ∧ lr ≤ 120 ∧ z ≤ 250 ∧ s.2.2.2.1[j]? = some (nI lr) ∧ s.2.2.2.2[j]? = some (nI z)
theorem okHeads.next {k : Nat} {s s' : pS} (h : okHeads k s) (b : sbut k s s') : okHeads (k + 1) s' := by
  intro j hj hl
  rw [b.2.2.2.2.1] at hl
  obtain ⟨key, pk, lr, z, a1, a2, a3, a4, a5⟩ := h j (by omega) hl
  exact ⟨key, pk, lr, z, by rw [b.2.2.2.2.2 j (by omega)]; exact a1, a2, a3, by rw [b.1]; exact a4, by rw [b.1]; exact a5⟩
set_option maxRecDepth 100000 in
set_option maxHeartbeats 8000000 in
theorem l_RD_hearPages {G : xG} {d r b c cap : Nat} {bs : List Int32} {F : pS} {σ : xS} (hs : rsep r b c) : ∀ (n k : Nat) (s : pS) (t : xS), k + n = s.2.2.1.2.2.2.length → okHeads k s → hPages bs n k s = F → rdw G t.1 r b c cap bs s → fr2 σ.1 t.1 r c → t.2 = σ.2 →
    xw G (d + 5) mX5_hearPages 2 [some (rf G r), some (.int (nI k))] [] t (rpost G σ r b c cap bs none F) := by
  intro n
  induction n with
  | zero =>
    intro k s t hk ho hF h g kk
    have hb := h.say.bnd
    subst hF
    refine xgo 80 rfl ?_
    try simp only [xlo0, List.map_cons, List.map_nil, List.length_cons, List.length_nil, xrs, xr0, Nat.reduceAdd, Nat.reduceSub, List.cons_append, List.nil_append, List.set_cons_zero, List.set_cons_succ, Option.toList_none, Option.toList_some, nI_1]
    refine xg 5 rfl rfl rfl h.1 rfl ?_
    refine xgo 80 rfl ?_
    try simp only [xlo0, List.map_cons, List.map_nil, List.length_cons, List.length_nil, xrs, xr0, Nat.reduceAdd, Nat.reduceSub, List.cons_append, List.nil_append, List.set_cons_zero, List.set_cons_succ, Option.toList_none, Option.toList_some, nI_1]
    refine xg 5 rfl rfl rfl h.say.obj rfl ?_
    refine xgo 80 rfl ?_
    try simp only [xlo0, List.map_cons, List.map_nil, List.length_cons, List.length_nil, xrs, xr0, Nat.reduceAdd, Nat.reduceSub, List.cons_append, List.nil_append, List.set_cons_zero, List.set_cons_succ, Option.toList_none, Option.toList_some, nI_1]
    refine xi_icmpge rfl (fun c1 => ?_) (fun c1 => ?_)
    · refine xgo 80 rfl ?_
      try simp only [xlo0, List.map_cons, List.map_nil, List.length_cons, List.length_nil, xrs, xr0, Nat.reduceAdd, Nat.reduceSub, List.cons_append, List.nil_append, List.set_cons_zero, List.set_cons_succ, Option.toList_none, Option.toList_some, nI_1]
      refine xi_ret_v rfl rfl ⟨rfl, h, g, kk⟩
    · exact absurd (by rw [i_le, i_n (by omega), i_n (by omega)]; omega) c1
  | succ n ih =>
    intro k s t hk ho hF h g kk
    have hb := h.say.bnd
    have hF : (if s.2.1.isSome = true then s else hPages bs n (k + 1) (hPage bs k s)) = F := hF
    obtain ⟨key, pk, lr, z, a1, a2, a3, a4, a5⟩ := ho k (Nat.le_refl _) (by omega)
    have hk8 : k < 8 := by omega
    have hcl : (nI k).toNatClampNeg = k := nI_clamp (by omega)
    have hpg : hPage bs k s = (if pk = 1 then hPairs bs k z (nI lr) s else if pk = 2 then hOps bs k z (nI lr) s else hPlainPage bs k (nI lr) (nI z) s) := by
      unfold hPage
      simp only [List.getD_eq_getElem?_getD, a1, a4, a5, Option.getD_some]
      rw [i_n (by omega)]
      rfl
    refine xgo 80 rfl ?_
    try simp only [xlo0, List.map_cons, List.map_nil, List.length_cons, List.length_nil, xrs, xr0, Nat.reduceAdd, Nat.reduceSub, List.cons_append, List.nil_append, List.set_cons_zero, List.set_cons_succ, Option.toList_none, Option.toList_some, nI_1]
    refine xg 5 rfl rfl rfl h.1 rfl ?_
    refine xgo 80 rfl ?_
    try simp only [xlo0, List.map_cons, List.map_nil, List.length_cons, List.length_nil, xrs, xr0, Nat.reduceAdd, Nat.reduceSub, List.cons_append, List.nil_append, List.set_cons_zero, List.set_cons_succ, Option.toList_none, Option.toList_some, nI_1]
    refine xg 5 rfl rfl rfl h.say.obj rfl ?_
    refine xgo 80 rfl ?_
    try simp only [xlo0, List.map_cons, List.map_nil, List.length_cons, List.length_nil, xrs, xr0, Nat.reduceAdd, Nat.reduceSub, List.cons_append, List.nil_append, List.set_cons_zero, List.set_cons_succ, Option.toList_none, Option.toList_some, nI_1]
    refine xi_icmpge rfl (fun c1 => ?_) (fun c1 => ?_)
    · exact absurd c1 (by rw [i_le, i_n (by omega), i_n (by omega)]; omega)
    refine xgo 80 rfl ?_
    try simp only [xlo0, List.map_cons, List.map_nil, List.length_cons, List.length_nil, xrs, xr0, Nat.reduceAdd, Nat.reduceSub, List.cons_append, List.nil_append, List.set_cons_zero, List.set_cons_succ, Option.toList_none, Option.toList_some, nI_1]
    refine xcV 5 rfl rfl rfl (c_RD_isFine h) rfl kX5_isFine iX5_isFine h.1 ⟨_, rfl, rfl⟩ rfl rfl (Nat.le_of_ble_eq_true rfl) (fun v1 s1 q1 => ?_)
    obtain ⟨rfl, rfl⟩ := q1
    cases hwr : s.2.1 with
    | some ww =>
      rw [hwr] at hF
      have hF : s = F := hF
      subst hF
      refine xgo 80 rfl ?_
      try simp only [xlo0, List.map_cons, List.map_nil, List.length_cons, List.length_nil, xrs, xr0, Nat.reduceAdd, Nat.reduceSub, List.cons_append, List.nil_append, List.set_cons_zero, List.set_cons_succ, Option.toList_none, Option.toList_some, nI_1]
      refine xi_ifeq rfl (fun c3 => ?_) (fun c3 => ?_)
      · refine xgo 80 rfl ?_
        try simp only [xlo0, List.map_cons, List.map_nil, List.length_cons, List.length_nil, xrs, xr0, Nat.reduceAdd, Nat.reduceSub, List.cons_append, List.nil_append, List.set_cons_zero, List.set_cons_succ, Option.toList_none, Option.toList_some, nI_1]
        refine xi_ret_v rfl rfl ⟨rfl, h, g, kk⟩
      · exact absurd rfl c3
    | none =>
      rw [hwr, if_neg (by decide)] at hF
      have hpk : ∃ ps : List Int32, s1.1 (c + 6) = some (11, vi ps) ∧ ps[k]? = some pk := by
        obtain ⟨nn, ne, nx, sa, ks, ps, ln, pg, b0, b1, b2, b3, b4, b5, b6, b7, b8, hp, r1, r2, r3⟩ := h.say
        exact ⟨ps, b6, (r3.2.2.2.2.2 k _ a1).2.1⟩
      obtain ⟨ps, hps, hpsk⟩ := hpk
      have go : ∀ (s' : pS) (t' : xS), s' = hPage bs k s → rpost G s1 r b c cap bs none s' none t' → xw G (d + 5) mX5_hearPages 77 [some (rf G r), some (.int (nI k))] [] t' (rpost G σ r b c cap bs none F) := by
        intro s' t' hs' hp
        obtain ⟨-, p, g1, k1⟩ := hp
        subst hs'
        refine xto 2 80 rfl ?_
        try simp only [xlo0, List.map_cons, List.map_nil, List.length_cons, List.length_nil, xrs, xr0, Nat.reduceAdd, Nat.reduceSub, List.cons_append, List.nil_append, List.set_cons_zero, List.set_cons_succ, Option.toList_none, Option.toList_some, nI_1]
        exact ih (k + 1) (hPage bs k s) t' (by rw [sbut.page.2.2.2.2.1]; omega) (ho.next sbut.page) hF p (g.tr g1) (k1.trans kk)
      refine xgo 80 rfl ?_
      try simp only [xlo0, List.map_cons, List.map_nil, List.length_cons, List.length_nil, xrs, xr0, Nat.reduceAdd, Nat.reduceSub, List.cons_append, List.nil_append, List.set_cons_zero, List.set_cons_succ, Option.toList_none, Option.toList_some, nI_1]
      refine xi_ifeq rfl (fun c3 => ?_) (fun c3 => ?_)
      · exact absurd c3 (by decide)
      refine xgo 80 rfl ?_
      try simp only [xlo0, List.map_cons, List.map_nil, List.length_cons, List.length_nil, xrs, xr0, Nat.reduceAdd, Nat.reduceSub, List.cons_append, List.nil_append, List.set_cons_zero, List.set_cons_succ, Option.toList_none, Option.toList_some, nI_1]
      refine xg 5 rfl rfl rfl h.1 rfl ?_
      refine xgo 80 rfl ?_
      try simp only [xlo0, List.map_cons, List.map_nil, List.length_cons, List.length_nil, xrs, xr0, Nat.reduceAdd, Nat.reduceSub, List.cons_append, List.nil_append, List.set_cons_zero, List.set_cons_succ, Option.toList_none, Option.toList_some, nI_1]
      refine xg 5 rfl rfl rfl h.say.obj rfl ?_
      refine xgo 80 rfl ?_
      try simp only [xlo0, List.map_cons, List.map_nil, List.length_cons, List.length_nil, xrs, xr0, Nat.reduceAdd, Nat.reduceSub, List.cons_append, List.nil_append, List.set_cons_zero, List.set_cons_succ, Option.toList_none, Option.toList_some, nI_1]
      refine xi_iald rfl hps (nI_pos (by omega)) (by rw [hcl]; exact vi_get hpsk) ?_
      by_cases p1 : pk = 1
      · subst p1
        refine xi_lookup (off := 27) (tgt := 56) dX5_hearPages_29 (by decide) (by decide) (by decide) ?_
        refine xgo 80 rfl ?_
        try simp only [xlo0, List.map_cons, List.map_nil, List.length_cons, List.length_nil, xrs, xr0, Nat.reduceAdd, Nat.reduceSub, List.cons_append, List.nil_append, List.set_cons_zero, List.set_cons_succ, Option.toList_none, Option.toList_some, nI_1]
        refine xcV 5 rfl rfl rfl (c_RD_hearPairs h hs hk8 a1 a2 (by simp) a4 a5 a3) rfl kX5_hearPairs iX5_hearPairs h.1 ⟨_, rfl, rfl⟩ rfl rfl (Nat.le_of_ble_eq_true rfl) (fun v2 s2 q2 => ?_)
        obtain ⟨rfl, p, g1, k1⟩ := q2
        refine xto 77 80 rfl ?_
        try simp only [xlo0, List.map_cons, List.map_nil, List.length_cons, List.length_nil, xrs, xr0, Nat.reduceAdd, Nat.reduceSub, List.cons_append, List.nil_append, List.set_cons_zero, List.set_cons_succ, Option.toList_none, Option.toList_some, nI_1]
        exact go _ _ (by rw [hpg, if_pos rfl]) ⟨rfl, p, g1, k1⟩
      · by_cases p2 : pk = 2
        · subst p2
          refine xi_lookup (off := 35) (tgt := 64) dX5_hearPages_29 (by decide) (by decide) (by decide) ?_
          refine xgo 80 rfl ?_
          try simp only [xlo0, List.map_cons, List.map_nil, List.length_cons, List.length_nil, xrs, xr0, Nat.reduceAdd, Nat.reduceSub, List.cons_append, List.nil_append, List.set_cons_zero, List.set_cons_succ, Option.toList_none, Option.toList_some, nI_1]
          refine xcV 5 rfl rfl rfl (c_RD_hearOps h hs hk8 a1 a2 (by simp) a4 a5 a3) rfl kX5_hearOps iX5_hearOps h.1 ⟨_, rfl, rfl⟩ rfl rfl (Nat.le_of_ble_eq_true rfl) (fun v2 s2 q2 => ?_)
          obtain ⟨rfl, p, g1, k1⟩ := q2
          refine xto 77 80 rfl ?_
          try simp only [xlo0, List.map_cons, List.map_nil, List.length_cons, List.length_nil, xrs, xr0, Nat.reduceAdd, Nat.reduceSub, List.cons_append, List.nil_append, List.set_cons_zero, List.set_cons_succ, Option.toList_none, Option.toList_some, nI_1]
          exact go _ _ (by rw [hpg, if_neg (by decide), if_pos rfl]) ⟨rfl, p, g1, k1⟩
        · refine xi_lookup (off := 43) (tgt := 72) dX5_hearPages_29 (by decide) ((lv_osw p1 rfl).trans ((lv_osw p2 rfl).trans rfl)) (by decide) ?_
          refine xgo 80 rfl ?_
          try simp only [xlo0, List.map_cons, List.map_nil, List.length_cons, List.length_nil, xrs, xr0, Nat.reduceAdd, Nat.reduceSub, List.cons_append, List.nil_append, List.set_cons_zero, List.set_cons_succ, Option.toList_none, Option.toList_some, nI_1]
          refine xcV 5 rfl rfl rfl (c_RD_hearPlainPage h hs hk8 a1 a4 a5 (by simpa using a2)) rfl kX5_hearPlainPage iX5_hearPlainPage h.1 ⟨_, rfl, rfl⟩ rfl rfl (Nat.le_of_ble_eq_true rfl) (fun v2 s2 q2 => ?_)
          obtain ⟨rfl, p, g1, k1⟩ := q2
          exact go _ _ (by rw [hpg, if_neg p1, if_neg p2]) ⟨rfl, p, g1, k1⟩
set_option maxRecDepth 100000 in
set_option maxHeartbeats 8000000 in
theorem c_RD_hearPages {G : xG} {d r b c cap : Nat} {bs : List Int32} {s : pS} {σ : xS} (h : rdw G σ.1 r b c cap bs s) (hs : rsep r b c) (ho : okHeads 0 s) : xm G (d + 5) mX5_hearPages [rf G r] σ (rpost G σ r b c cap bs none (hPages bs s.2.2.1.2.2.2.length 0 s)) := by
  refine xm_at 2 rfl (by decide) (Nat.le_of_ble_eq_true rfl) (by simp [Value.category]) tX5_hearPages_ok ?_
  try simp only [xlo0, List.map_cons, List.map_nil, List.length_cons, List.length_nil, xrs, xr0, Nat.reduceAdd, Nat.reduceSub, List.cons_append, List.nil_append, List.set_cons_zero, List.set_cons_succ, Option.toList_none, Option.toList_some, nI_1]
  refine xto 2 80 rfl ?_
  try simp only [xlo0, List.map_cons, List.map_nil, List.length_cons, List.length_nil, xrs, xr0, Nat.reduceAdd, Nat.reduceSub, List.cons_append, List.nil_append, List.set_cons_zero, List.set_cons_succ, Option.toList_none, Option.toList_some, nI_1]
  exact l_RD_hearPages hs s.2.2.1.2.2.2.length 0 s σ (by omega) ho rfl h fr2.rf rfl
