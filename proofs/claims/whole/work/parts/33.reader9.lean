theorem hTitle_rest (bs : List Int32) (s : pS) : (hTitle bs s).2.2.1.2 = s.2.2.1.2 ∧ (hTitle bs s).2.2.2 = s.2.2.2 := by
  unfold hTitle
  dsimp only
  rw [nxt_rest, nxt_rest, nxt_rest, nxt_rest, nxt_rest]
  exact ⟨rfl, rfl⟩
theorem hLoop_inv {f : pS → pS} {α : Type} (g : pS → α) (hf : ∀ s, g (f s) = g s) : ∀ (n : Nat) (s : pS), g (hLoop f n s) = g s
  | 0, s => rfl
  | n + 1, s => by
    unfold hLoop
    split
    · rfl
    · rw [hLoop_inv g hf n, hf]
theorem refif_rest {c : Prop} [Decidable c] (x : Nat) (s : pS) : (if c then refS x s else s).2.2 = s.2.2 := by
  split
  · exact refS_rest x s
  · rfl
theorem hNeeds_rest (bs : List Int32) (s : pS) : (hNeeds bs s).2.2.1.2.2 = s.2.2.1.2.2 ∧ (hNeeds bs s).2.2.2 = s.2.2.2 := by
  have h := hLoop_inv (f := hNeed bs) (fun s => (s.2.2.1.2.2, s.2.2.2)) (fun s => by
    unfold hNeed
    dsimp only
    rw [nxt_rest, nxt_rest, refif_rest, nxt_rest]) (nxt bs 0 4 s).1.toInt.toNat (nxt bs 0 4 s).2
  have e := nxt_rest bs 0 4 s
  have h1 := congrArg Prod.fst h
  have h2 := congrArg Prod.snd h
  dsimp only at h1 h2
  rw [e] at h1 h2
  exact ⟨h1, h2⟩
theorem hSeals_rest (bs : List Int32) (s : pS) : (hSeals bs s).2.2.1.2.2.2 = s.2.2.1.2.2.2 ∧ (hSeals bs s).2.2.2 = s.2.2.2 := by
  have h := hLoop_inv (f := hSeal bs) (fun s => (s.2.2.1.2.2.2, s.2.2.2)) (fun s => by
    unfold hSeal
    dsimp only
    rw [refif_rest, nxt_rest]) (nxt bs 0 4 s).1.toInt.toNat (nxt bs 0 4 s).2
  have e := nxt_rest bs 0 4 s
  have h1 := congrArg Prod.fst h
  have h2 := congrArg Prod.snd h
  dsimp only at h1 h2
  rw [e] at h1 h2
  exact ⟨h1, h2⟩
theorem nxt_nI {bs : List Int32} {m : Nat} (hm : m < 1000) {s : pS} : ∃ v : Nat, v ≤ m ∧ (nxt bs 0 (nI m) s).1 = nI v := by
  have hr := nxt_rng (bs := bs) (lo := 0) (hi := nI m) (s := s) (nI_pos' (by omega))
  rw [i_le, i_le, i_n (by omega)] at hr
  have z0 : (0 : Int32).toInt = 0 := rfl
  refine ⟨(nxt bs 0 (nI m) s).1.toInt.toNat, by omega, ?_⟩
  rw [i_eq, i_n (by omega)]
  omega
def okH (s : pS) : Prop := okHeads 0 s ∧ s.2.2.2.1.length = 8 ∧ s.2.2.2.2.length = 8
theorem hRow_ok {bs : List Int32} {s : pS} (h : okH s) (hl : s.2.2.1.2.2.2.length < 8) : okH (hRow bs s) ∧ (hRow bs s).2.2.1.2.2.2.length = s.2.2.1.2.2.2.length + 1 := by
  obtain ⟨ho, l1, l2⟩ := h
  generalize hN : nxt bs 0 255 s = N
  generalize hs1 : (if (N.2.2.2.1.2.2.2.findIdx? (fun e => e.1 == N.1)).isSome then refS s.1 N.2 else N.2) = s1
  generalize hP : nxt bs 0 2 s1 = P
  generalize hL : hPair bs 120 (P.2.1, P.2.2.1, (P.2.2.2.1.1, P.2.2.2.1.2.1, P.2.2.2.1.2.2.1, P.2.2.2.1.2.2.2 ++ [(N.1, P.1, [])]), P.2.2.2.2) = Ln
  generalize hZ : hPair bs 250 (Ln.2.1, Ln.2.2.1, Ln.2.2.2.1, Ln.2.2.2.2.1.set s.2.2.1.2.2.2.length Ln.1, Ln.2.2.2.2.2) = Zn
  have hR : hRow bs s = (Zn.2.1, Zn.2.2.1, Zn.2.2.2.1, Zn.2.2.2.2.1, Zn.2.2.2.2.2.set s.2.2.1.2.2.2.length Zn.1) := by
    unfold hRow
    simp only [hN, hs1, hP, hL, hZ]
  have e1 : s1.2.2 = s.2.2 := by rw [← hs1, refif_rest, ← hN, nxt_rest]
  have e2 : P.2.2.2 = s.2.2 := by rw [← hP, nxt_rest, e1]
  have e3 : Ln.2.2.2 = ((P.2.2.2.1.1, P.2.2.2.1.2.1, P.2.2.2.1.2.2.1, P.2.2.2.1.2.2.2 ++ [(N.1, P.1, [])]), P.2.2.2.2) := by rw [← hL, hPair_rest]
  have e4 : Zn.2.2.2 = (Ln.2.2.2.1, Ln.2.2.2.2.1.set s.2.2.1.2.2.2.length Ln.1, Ln.2.2.2.2.2) := by rw [← hZ, hPair_rest]
  have hrows : (hRow bs s).2.2.1.2.2.2 = s.2.2.1.2.2.2 ++ [(N.1, P.1, [])] := by
    rw [hR]
    dsimp only
    rw [e4, e3, e2]
  have hln : (hRow bs s).2.2.2.1 = s.2.2.2.1.set s.2.2.1.2.2.2.length Ln.1 := by
    rw [hR]
    dsimp only
    rw [e4, e3, e2]
  have hsz : (hRow bs s).2.2.2.2 = s.2.2.2.2.set s.2.2.1.2.2.2.length Zn.1 := by
    rw [hR]
    dsimp only
    rw [e4, e3, e2]
  obtain ⟨lr, hlr, hlv⟩ := nxt_nI (bs := bs) (m := 120) (by omega) (s := (nxt bs 0 0 (P.2.1, P.2.2.1, (P.2.2.2.1.1, P.2.2.2.1.2.1, P.2.2.2.1.2.2.1, P.2.2.2.1.2.2.2 ++ [(N.1, P.1, [])]), P.2.2.2.2)).2)
  obtain ⟨z, hz, hzv⟩ := nxt_nI (bs := bs) (m := 250) (by omega) (s := (nxt bs 0 0 (Ln.2.1, Ln.2.2.1, Ln.2.2.2.1, Ln.2.2.2.2.1.set s.2.2.1.2.2.2.length Ln.1, Ln.2.2.2.2.2)).2)
  have hlv : Ln.1 = nI lr := by rw [← hL]; exact hlv
  have hzv : Zn.1 = nI z := by rw [← hZ]; exact hzv
  refine ⟨⟨fun j _ hj => ?_, by rw [hln, List.length_set]; exact l1, by rw [hsz, List.length_set]; exact l2⟩, by rw [hrows]; simp⟩
  rw [hrows, List.length_append, List.length_singleton] at hj
  by_cases hji : j = s.2.2.1.2.2.2.length
  · subst hji
    refine ⟨N.1, P.1, lr, z, by rw [hrows, List.getElem?_append_right (Nat.le_refl _)]; simp, hlr, hz, by rw [hln, ← hlv]; exact List.getElem?_set_self (by omega), by rw [hsz, ← hzv]; exact List.getElem?_set_self (by omega)⟩
  · obtain ⟨key, pk, lr', z', a1, a2, a3, a4, a5⟩ := ho j (Nat.zero_le _) (by omega)
    exact ⟨key, pk, lr', z', by rw [hrows, List.getElem?_append_left (by omega)]; exact a1, a2, a3, by rw [hln, List.getElem?_set_ne (by omega)]; exact a4, by rw [hsz, List.getElem?_set_ne (by omega)]; exact a5⟩
theorem hRows_loop {bs : List Int32} : ∀ (n : Nat) (s : pS), okH s → s.2.2.1.2.2.2.length + n ≤ 8 → okH (hLoop (hRow bs) n s)
  | 0, s, h, _ => h
  | n + 1, s, h, hl => by
    unfold hLoop
    split
    · exact h
    · obtain ⟨a, b⟩ := hRow_ok (bs := bs) h (by omega)
      exact hRows_loop n _ a (by omega)
theorem hRows_ok {bs : List Int32} {s : pS} (h0 : s.2.2.1.2.2.2 = []) (l1 : s.2.2.2.1.length = 8) (l2 : s.2.2.2.2.length = 8) : okH (hRows bs s) := by
  obtain ⟨v, hv, hv2⟩ := nxt_nI (bs := bs) (m := 8) (by omega) (s := s)
  have e := nxt_rest bs 0 8 s
  have hv2 : (nxt bs 0 8 s).1 = nI v := hv2
  unfold hRows
  rw [hv2, i_n (by omega)]
  refine hRows_loop _ _ ⟨fun j _ hj => ?_, by rw [e]; exact l1, by rw [e]; exact l2⟩ ?_
  · rw [e, h0] at hj
    cases hj
  · rw [e, h0]
    simpa using hv
/-- a row of bytes is gone over: the state behind it -/
def parse (bs : List Int32) (K : cV) (ln sz : List Int32) : pS :=
  let s1 := hRows bs (hSeals bs (hNeeds bs (hTitle bs (0, none, ((K.1.1, K.1.2.1, K.1.2.2.1, 0), [], [], []), ln, sz))))
  hEndS bs (hPages bs s1.2.2.1.2.2.2.length 0 s1)
/-- a reader at rest -/
def rd0 (G : xG) (h : Nat → Option xC) (r c : Nat) (K : cV) (ln sz : List Int32) : Prop := (∃ v p w, h r = some (5, [v, rf G c, .int p, .int w, rf G (r + 1), rf G (r + 2)])) ∧ h (r + 1) = some (11, vi ln) ∧ h (r + 2) = some (11, vi sz) ∧ ln.length = 8 ∧ sz.length = 8 ∧ cont G h c K
set_option maxRecDepth 100000 in
set_option maxHeartbeats 8000000 in
theorem c_RD_wrongPlace {G : xG} {d r b c cap : Nat} {bs ln sz : List Int32} {K : cV} {σ : xS} (h : rd0 G σ.1 r c K ln sz) (hb : brr G σ.1 b cap bs) (hs : rsep r b c) : xm G (d + 6) mX5_wrongPlace [rf G r, rf G b] σ (rpost G σ r b c cap bs (some (.int (oI (parse bs K ln sz).2.1))) (parse bs K ln sz)) := by
  obtain ⟨⟨v, p, w, h0⟩, h1, h2, l1, l2, hK⟩ := h
  obtain ⟨s1', s2', s3'⟩ := id hs
  refine xm_at 2 rfl (by decide) (Nat.le_of_ble_eq_true rfl) (by simp [Value.category]) tX5_wrongPlace_ok ?_
  try simp only [xlo0, List.map_cons, List.map_nil, List.length_cons, List.length_nil, xrs, xr0, Nat.reduceAdd, Nat.reduceSub, List.cons_append, List.nil_append, List.set_cons_zero, List.set_cons_succ, Option.toList_none, Option.toList_some, nI_1]
  refine xgo 80 rfl ?_
  try simp only [xlo0, List.map_cons, List.map_nil, List.length_cons, List.length_nil, xrs, xr0, Nat.reduceAdd, Nat.reduceSub, List.cons_append, List.nil_append, List.set_cons_zero, List.set_cons_succ, Option.toList_none, Option.toList_some, nI_1]
  refine xp 5 rfl rfl rfl h0 rfl rfl rfl (fun s1 n1 f1 e1 => ?_)
  refine xgo 80 rfl ?_
  try simp only [xlo0, List.map_cons, List.map_nil, List.length_cons, List.length_nil, xrs, xr0, Nat.reduceAdd, Nat.reduceSub, List.cons_append, List.nil_append, List.set_cons_zero, List.set_cons_succ, Option.toList_none, Option.toList_some, nI_1]
  refine xp 5 rfl rfl rfl n1 rfl rfl rfl (fun s2 n2 f2 e2 => ?_)
  refine xgo 80 rfl ?_
  try simp only [xlo0, List.map_cons, List.map_nil, List.length_cons, List.length_nil, xrs, xr0, Nat.reduceAdd, Nat.reduceSub, List.cons_append, List.nil_append, List.set_cons_zero, List.set_cons_succ, Option.toList_none, Option.toList_some, nI_1]
  refine xp 5 rfl rfl rfl n2 rfl rfl rfl (fun s3 n3 f3 e3 => ?_)
  have f : ∀ q, q ≠ r → s3.1 q = σ.1 q := fun q hq => by rw [f3 q hq, f2 q hq, f1 q hq]
  have fz : frz σ.1 s3.1 r 1 := frz.one f (by omega) (by omega)
  have k3 : s3.2 = σ.2 := by rw [e3, e2, e1]
  have q0 : rdw G s3.1 r b c cap bs (0, none, K, ln, sz) := ⟨n3, by rw [f _ (by omega)]; exact h1, by rw [f _ (by omega)]; exact h2, l1, l2, hb.keep fz (by omega), hK.keep fz (by omega), Nat.zero_le _, fun w hw => by cases hw⟩
  refine xgo 80 rfl ?_
  try simp only [xlo0, List.map_cons, List.map_nil, List.length_cons, List.length_nil, xrs, xr0, Nat.reduceAdd, Nat.reduceSub, List.cons_append, List.nil_append, List.set_cons_zero, List.set_cons_succ, Option.toList_none, Option.toList_some, nI_1]
  refine xg 5 rfl rfl rfl n3 rfl ?_
  refine xgo 80 rfl ?_
  try simp only [xlo0, List.map_cons, List.map_nil, List.length_cons, List.length_nil, xrs, xr0, Nat.reduceAdd, Nat.reduceSub, List.cons_append, List.nil_append, List.set_cons_zero, List.set_cons_succ, Option.toList_none, Option.toList_some, nI_1]
  refine xcV 5 rfl rfl rfl (c_CT_begin q0.say) rfl kX2_begin iX2_begin q0.say.obj ⟨_, rfl, rfl⟩ rfl rfl (Nat.le_of_ble_eq_true rfl) (fun v4 s4 q4 => ?_)
  obtain ⟨rfl, u1, u2, u3⟩ := q4
  have p4 := q0.resaid hs u2 u1
  refine xgo 80 rfl ?_
  try simp only [xlo0, List.map_cons, List.map_nil, List.length_cons, List.length_nil, xrs, xr0, Nat.reduceAdd, Nat.reduceSub, List.cons_append, List.nil_append, List.set_cons_zero, List.set_cons_succ, Option.toList_none, Option.toList_some, nI_1]
  refine xcV 5 rfl rfl rfl (c_RD_hearTitle p4 hs) rfl kX5_hearTitle iX5_hearTitle p4.1 ⟨_, rfl, rfl⟩ rfl rfl (Nat.le_of_ble_eq_true rfl) (fun v5 s5 q5 => ?_)
  obtain ⟨rfl, p5, g5, k5⟩ := q5
  generalize hS0 : ((0, none, ((K.1.1, K.1.2.1, K.1.2.2.1, 0), [], [], []), ln, sz) : pS) = S0 at p5
  have p5 : rdw G s5.1 r b c cap bs (hTitle bs S0) := p5
  have t1 := hTitle_rest bs S0
  have z1 : (hTitle bs S0).2.2.1.2 = ([], [], []) := by rw [t1.1, ← hS0]
  refine xgo 80 rfl ?_
  try simp only [xlo0, List.map_cons, List.map_nil, List.length_cons, List.length_nil, xrs, xr0, Nat.reduceAdd, Nat.reduceSub, List.cons_append, List.nil_append, List.set_cons_zero, List.set_cons_succ, Option.toList_none, Option.toList_some, nI_1]
  refine xcV 5 rfl rfl rfl (c_RD_hearNeeds p5 hs (by rw [z1])) rfl kX5_hearNeeds iX5_hearNeeds p5.1 ⟨_, rfl, rfl⟩ rfl rfl (Nat.le_of_ble_eq_true rfl) (fun v6 s6 q6 => ?_)
  obtain ⟨rfl, p6, g6, k6⟩ := q6
  have t2 := hNeeds_rest bs (hTitle bs S0)
  refine xgo 80 rfl ?_
  try simp only [xlo0, List.map_cons, List.map_nil, List.length_cons, List.length_nil, xrs, xr0, Nat.reduceAdd, Nat.reduceSub, List.cons_append, List.nil_append, List.set_cons_zero, List.set_cons_succ, Option.toList_none, Option.toList_some, nI_1]
  refine xcV 5 rfl rfl rfl (c_RD_hearSeals p6 hs (by rw [t2.1, z1])) rfl kX5_hearSeals iX5_hearSeals p6.1 ⟨_, rfl, rfl⟩ rfl rfl (Nat.le_of_ble_eq_true rfl) (fun v7 s7 q7 => ?_)
  obtain ⟨rfl, p7, g7, k7⟩ := q7
  have t3 := hSeals_rest bs (hNeeds bs (hTitle bs S0))
  have z3 : (hSeals bs (hNeeds bs (hTitle bs S0))).2.2.1.2.2.2 = [] := by rw [t3.1, t2.1, z1]
  refine xgo 80 rfl ?_
  try simp only [xlo0, List.map_cons, List.map_nil, List.length_cons, List.length_nil, xrs, xr0, Nat.reduceAdd, Nat.reduceSub, List.cons_append, List.nil_append, List.set_cons_zero, List.set_cons_succ, Option.toList_none, Option.toList_some, nI_1]
  refine xcV 5 rfl rfl rfl (c_RD_hearRows p7 hs z3) rfl kX5_hearRows iX5_hearRows p7.1 ⟨_, rfl, rfl⟩ rfl rfl (Nat.le_of_ble_eq_true rfl) (fun v8 s8 q8 => ?_)
  obtain ⟨rfl, p8, g8, k8⟩ := q8
  have hok := hRows_ok (bs := bs) z3 p7.2.2.2.1 p7.2.2.2.2.1
  refine xgo 80 rfl ?_
  try simp only [xlo0, List.map_cons, List.map_nil, List.length_cons, List.length_nil, xrs, xr0, Nat.reduceAdd, Nat.reduceSub, List.cons_append, List.nil_append, List.set_cons_zero, List.set_cons_succ, Option.toList_none, Option.toList_some, nI_1]
  refine xcV 5 rfl rfl rfl (c_RD_hearPages p8 hs hok.1) rfl kX5_hearPages iX5_hearPages p8.1 ⟨_, rfl, rfl⟩ rfl rfl (Nat.le_of_ble_eq_true rfl) (fun v9 s9 q9 => ?_)
  obtain ⟨rfl, p9, g9, k9⟩ := q9
  refine xgo 80 rfl ?_
  try simp only [xlo0, List.map_cons, List.map_nil, List.length_cons, List.length_nil, xrs, xr0, Nat.reduceAdd, Nat.reduceSub, List.cons_append, List.nil_append, List.set_cons_zero, List.set_cons_succ, Option.toList_none, Option.toList_some, nI_1]
  refine xcV 5 rfl rfl rfl (c_RD_hearEnd p9 hs) rfl kX5_hearEnd iX5_hearEnd p9.1 ⟨_, rfl, rfl⟩ rfl rfl (Nat.le_of_ble_eq_true rfl) (fun v10 s10 q10 => ?_)
  obtain ⟨rfl, p10, g10, k10⟩ := q10
  have hpar : parse bs K ln sz = hEndS bs (hPages bs (hRows bs (hSeals bs (hNeeds bs (hTitle bs S0)))).2.2.1.2.2.2.length 0 (hRows bs (hSeals bs (hNeeds bs (hTitle bs S0))))) := by
    unfold parse
    simp only [hS0]
  rw [hpar]
  refine xgo 80 rfl ?_
  try simp only [xlo0, List.map_cons, List.map_nil, List.length_cons, List.length_nil, xrs, xr0, Nat.reduceAdd, Nat.reduceSub, List.cons_append, List.nil_append, List.set_cons_zero, List.set_cons_succ, Option.toList_none, Option.toList_some, nI_1]
  refine xg 5 rfl rfl rfl p10.1 rfl ?_
  refine xgo 80 rfl ?_
  try simp only [xlo0, List.map_cons, List.map_nil, List.length_cons, List.length_nil, xrs, xr0, Nat.reduceAdd, Nat.reduceSub, List.cons_append, List.nil_append, List.set_cons_zero, List.set_cons_succ, Option.toList_none, Option.toList_some, nI_1]
  refine xi_ret_i rfl rfl rfl ⟨rfl, p10, ?_, k10.trans (k9.trans (k8.trans (k7.trans (k6.trans (k5.trans (u3.trans k3))))))⟩
  exact (((((((fr2.obj f).tr (fr2.said u2)).tr g5).tr g6).tr g7).tr g8).tr g9).tr g10
set_option maxRecDepth 100000 in
set_option maxHeartbeats 8000000 in
theorem c_RD_handOver {G : xG} {d r b c cap : Nat} {bs : List Int32} {s : pS} {σ : xS} (h : rdw G σ.1 r b c cap bs s) (hr : r + 3 ≤ σ.2.1) : xm G (d + 2) mX5_handOver [rf G r] σ (fun v σ' => v = some (rf G c) ∧ rd0 G σ'.1 r σ.2.1 cnew s.2.2.2.1 s.2.2.2.2 ∧ (∀ q, q < σ.2.1 → q ≠ r → σ'.1 q = σ.1 q) ∧ σ'.2.1 = σ.2.1 + 17 ∧ σ'.2.2 = σ.2.2 + 1023) := by
  obtain ⟨k, hk⟩ : ∃ k, σ.2.1 = k := ⟨_, rfl⟩
  rw [hk] at hr ⊢
  have hN2 : xN 2 = 15 := rfl
  refine xm_at 2 rfl (by decide) (Nat.le_of_ble_eq_true rfl) (by simp [Value.category]) tX5_handOver_ok ?_
  try simp only [xlo0, List.map_cons, List.map_nil, List.length_cons, List.length_nil, xrs, xr0, Nat.reduceAdd, Nat.reduceSub, List.cons_append, List.nil_append, List.set_cons_zero, List.set_cons_succ, Option.toList_none, Option.toList_some, nI_1]
  refine xgo 80 rfl ?_
  try simp only [xlo0, List.map_cons, List.map_nil, List.length_cons, List.length_nil, xrs, xr0, Nat.reduceAdd, Nat.reduceSub, List.cons_append, List.nil_append, List.set_cons_zero, List.set_cons_succ, Option.toList_none, Option.toList_some, nI_1]
  refine xg 5 rfl rfl rfl h.1 rfl ?_
  refine xgo 80 rfl ?_
  try simp only [xlo0, List.map_cons, List.map_nil, List.length_cons, List.length_nil, xrs, xr0, Nat.reduceAdd, Nat.reduceSub, List.cons_append, List.nil_append, List.set_cons_zero, List.set_cons_succ, Option.toList_none, Option.toList_some, nI_1]
  refine xnn hk rfl nX5_27 (fun s1 n1 f1 g1 k1 => ?_)
  refine xgo 80 rfl ?_
  try simp only [xlo0, List.map_cons, List.map_nil, List.length_cons, List.length_nil, xrs, xr0, Nat.reduceAdd, Nat.reduceSub, List.cons_append, List.nil_append, List.set_cons_zero, List.set_cons_succ, Option.toList_none, Option.toList_some, nI_1]
  refine xcI 5 rfl rfl rfl (c_CT_init n1 g1) rfl kX2_init iX2_init rfl rfl rfl rfl (Nat.le_of_ble_eq_true rfl) (fun v2 s2 q2 => ?_)
  obtain ⟨rfl, p1, p2, p3, p4⟩ := q2
  have ho := (p2 r (by omega)).trans ((f1 r (by omega)).trans h.1)
  refine xgo 80 rfl ?_
  try simp only [xlo0, List.map_cons, List.map_nil, List.length_cons, List.length_nil, xrs, xr0, Nat.reduceAdd, Nat.reduceSub, List.cons_append, List.nil_append, List.set_cons_zero, List.set_cons_succ, Option.toList_none, Option.toList_some, nI_1]
  refine xp 5 rfl rfl rfl ho rfl rfl rfl (fun s3 n3 f3 e3 => ?_)
  have hf : ∀ q, q < k → q ≠ r → s3.1 q = σ.1 q := fun q x1 x2 => by rw [f3 q x2, p2 q (by omega), f1 q (by omega)]
  have g3 : s3.2.1 = s2.2.1 := congrArg Prod.fst e3
  have k3 : s3.2.2 = s2.2.2 := congrArg Prod.snd e3
  have fz : frz s2.1 s3.1 r 1 := frz.one f3 (by omega) (by omega)
  refine xgo 80 rfl ?_
  try simp only [xlo0, List.map_cons, List.map_nil, List.length_cons, List.length_nil, xrs, xr0, Nat.reduceAdd, Nat.reduceSub, List.cons_append, List.nil_append, List.set_cons_zero, List.set_cons_succ, Option.toList_none, Option.toList_some, nI_1]
  refine xi_ret_a rfl rfl (Or.inl ⟨_, rfl⟩) (Or.inr ⟨_, rfl⟩) ⟨rfl, ⟨⟨_, _, _, n3⟩, by rw [hf _ (by omega) (by omega)]; exact h.2.1, by rw [hf _ (by omega) (by omega)]; exact h.2.2.1, h.2.2.2.1, h.2.2.2.2.1, p1.keep fz (by omega)⟩, hf, by omega, by omega⟩
