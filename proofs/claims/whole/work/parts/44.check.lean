theorem pw.rsep {G : xG} {σ : xS} {own : Nat → Nat} {rc j : Nat} {Z : pZ} {x : pP} (H : pw G σ own rc Z) (hj : Z.2.2.1[j]? = some x) : rsep 60 x.1 rc := by
  obtain ⟨a0, a1, a2, -, a4, a5, -, a7, a8, -, a10⟩ := H
  obtain ⟨hl, ar, b1, b2, b3⟩ := a2
  have hx := b3 j x hj
  have hjl := (List.getElem?_eq_some_iff.mp hj).1
  have h1 := a10.2 x.1 (by omega)
  have h2 := a7.2
  have h3 := a10.2 rc (by rw [h2 rc (by omega) (by omega)]; decide)
  refine ⟨by omega, by omega, ?_⟩
  by_cases c1 : rc ≤ x.1 ∧ x.1 < rc + 17
  · have := h2 x.1 c1.1 c1.2; omega
  · by_cases c2 : rc ≤ x.1 + 1 ∧ x.1 + 1 < rc + 17
    · have := h2 (x.1 + 1) c2.1 c2.2; omega
    · omega
/-- the reader's own cells have changed -/
theorem pw.reader {G : xG} {σ σ' : xS} {own : Nat → Nat} {rc : Nat} {Z : pZ} {K : cV} {ln sz : List Int32} (H : pw G σ own rc Z) (f : fr2 σ.1 σ'.1 60 rc) (e : σ'.2 = σ.2) (hr : rd0 G σ'.1 60 rc K ln sz) : pw G σ' own rc Z ∧ mk σ σ' := by
  obtain ⟨a0, a1, a2, ⟨ds, a3⟩, a4, a5, ⟨bw, sz, mb, ml, a6⟩, a7, a8, ⟨st, a9⟩, a10⟩ := H
  have h2 := a7.2
  have ho := a10.2
  have hrc := ho rc (by rw [h2 rc (by omega) (by omega)]; decide)
  have hrc' := ho (rc + 16) (by rw [h2 (rc + 16) (by omega) (by omega)]; decide)
  have sx : ∀ q, (q < 60 ∨ (82 ≤ q ∧ q < 124)) → σ'.1 q = σ.1 q := fun q hq => f q (by omega) (by omega)
  have dx : ∀ q, own q ≠ 0 → own q ≠ 400 → σ'.1 q = σ.1 q := fun q h1 h3 => f q (by have := ho q h1; omega) (fun hc => h3 (h2 q hc.1 hc.2))
  refine ⟨⟨(sx 0 (by omega)).trans a0, a1.keepQ (fun q _ _ => sx q (by omega)), a2.keep (fun _ _ => rfl) (fun q hq => ?_), ⟨ds, a3.keepQ (fun q _ _ => sx q (by omega))⟩, a4.keepQ (fun q _ _ => sx q (by omega)), a5.keep (fun _ _ => rfl) (fun q hq => ?_), ⟨bw, sz, mb, ml, a6.keepQ (fun q _ _ => sx q (by omega))⟩, ⟨⟨_, _, _, hr⟩, h2⟩, a8.keep (fun _ _ => rfl) (fun q hq => ?_), ⟨st, a9.keepQ (fun q _ _ => sx q (by omega))⟩, by rw [e]; exact a10⟩, fun q h1 h2 => sx q (by omega), by rw [e]; omega, by rw [e]; omega, by rw [e]; omega⟩
  · rcases hq with hq | hq
    · exact sx q (by omega)
    · exact dx q (by omega) (by omega)
  · rcases hq with hq | hq
    · exact sx q (by omega)
    · exact dx q (by omega) (by omega)
  · rcases hq with hq | hq
    · exact sx q (by omega)
    · exact dx q (by omega) (by omega)
theorem pw.rd {G : xG} {σ : xS} {own : Nat → Nat} {rc : Nat} {Z : pZ} (H : pw G σ own rc Z) : ∃ K ln sz, rd0 G σ.1 60 rc K ln sz := H.2.2.2.2.2.2.2.1.1
/-- a function that hears as the reader does, from some state of its own -/
def hears (pf : List Int32 → pS) : Prop := ∃ (K : cV) (ln sz : List Int32), ln.length = 8 ∧ sz.length = 8 ∧ ∀ bs, pf bs = parse bs K ln sz
theorem pw.hears {G : xG} {σ : xS} {own : Nat → Nat} {rc : Nat} {Z : pZ} (H : pw G σ own rc Z) : ∃ (K : cV) (ln sz : List Int32) (pf : List Int32 → pS), rd0 G σ.1 60 rc K ln sz ∧ (∀ bs, pf bs = parse bs K ln sz) ∧ hears pf := by
  obtain ⟨K, ln, sz, h⟩ := H.rd
  exact ⟨K, ln, sz, fun bs => parse bs K ln sz, h, fun _ => rfl, K, ln, sz, h.2.2.2.1, h.2.2.2.2.1, fun _ => rfl⟩
def F_check (p : Int32) (pf : List Int32 → pS) (Z : pZ) : Int32 × pZ := match pget Z.2.2.1 p with
  | none => (-2, Z)
  | some x => (oI (pf x.2.2).2.1, Z)
set_option maxRecDepth 100000 in
set_option maxHeartbeats 2000000 in
theorem c_PP_check {G : xG} {d rc : Nat} {own : Nat → Nat} {p : Int32} {Z : pZ} {σ : xS} (h : pw G σ own rc Z) : xm G (d + 20) mX8_check [rf G 0, .int p] σ (fun v σ' => ∃ pf, hears pf ∧ ppost G σ (F_check p pf Z) v σ') := by
  obtain ⟨K, ln, sz, pf, hrd, hpf, hh⟩ := h.hears
  unfold F_check
  cases hp : pget Z.2.2.1 p with
  | none =>
    refine xm_at 3 rfl (by decide) (Nat.le_of_ble_eq_true rfl) (by simp [Value.category]) tX8_check_ok ?_
    try simp only [xlo0, List.map_cons, List.map_nil, List.length_cons, List.length_nil, xrs, xr0, Nat.reduceAdd, Nat.reduceSub, List.cons_append, List.nil_append, List.set_cons_zero, List.set_cons_succ, Option.toList_none, Option.toList_some, nI_1]
    refine xgo 80 rfl ?_
    try simp only [xlo0, List.map_cons, List.map_nil, List.length_cons, List.length_nil, xrs, xr0, Nat.reduceAdd, Nat.reduceSub, List.cons_append, List.nil_append, List.set_cons_zero, List.set_cons_succ, Option.toList_none, Option.toList_some, nI_1]
    refine xcV 8 rfl rfl rfl (c_PP_packAtN h hp) rfl kX8_packAt iX8_packAt h.obj ⟨_, rfl, rfl⟩ rfl rfl (Nat.le_of_ble_eq_true rfl) (fun v1 s1 q1 => ?_)
    obtain ⟨rfl, rfl⟩ := q1
    refine xgo 80 rfl ?_
    try simp only [xlo0, List.map_cons, List.map_nil, List.length_cons, List.length_nil, xrs, xr0, Nat.reduceAdd, Nat.reduceSub, List.cons_append, List.nil_append, List.set_cons_zero, List.set_cons_succ, Option.toList_none, Option.toList_some, nI_1]
    refine xi_ifnonnull_n rfl ?_
    refine xgo 80 rfl ?_
    try simp only [xlo0, List.map_cons, List.map_nil, List.length_cons, List.length_nil, xrs, xr0, Nat.reduceAdd, Nat.reduceSub, List.cons_append, List.nil_append, List.set_cons_zero, List.set_cons_succ, Option.toList_none, Option.toList_some, nI_1]
    refine xi_ret_i rfl rfl rfl ⟨pf, hh, ppost.same h rfl⟩
  | some x =>
    obtain ⟨j, rfl, hj, -, hjj⟩ := pget_s hp h.2.2.1.1
    obtain ⟨-, ar, -, -, b3⟩ := id h.2.2.1
    have hx := (b3 j x hj).2.1
    refine xm_at 3 rfl (by decide) (Nat.le_of_ble_eq_true rfl) (by simp [Value.category]) tX8_check_ok ?_
    try simp only [xlo0, List.map_cons, List.map_nil, List.length_cons, List.length_nil, xrs, xr0, Nat.reduceAdd, Nat.reduceSub, List.cons_append, List.nil_append, List.set_cons_zero, List.set_cons_succ, Option.toList_none, Option.toList_some, nI_1]
    refine xgo 80 rfl ?_
    try simp only [xlo0, List.map_cons, List.map_nil, List.length_cons, List.length_nil, xrs, xr0, Nat.reduceAdd, Nat.reduceSub, List.cons_append, List.nil_append, List.set_cons_zero, List.set_cons_succ, Option.toList_none, Option.toList_some, nI_1]
    refine xcV 8 rfl rfl rfl (c_PP_packAt h hj) rfl kX8_packAt iX8_packAt h.obj ⟨_, rfl, rfl⟩ rfl rfl (Nat.le_of_ble_eq_true rfl) (fun v1 s1 q1 => ?_)
    obtain ⟨rfl, rfl⟩ := q1
    refine xgo 80 rfl ?_
    try simp only [xlo0, List.map_cons, List.map_nil, List.length_cons, List.length_nil, xrs, xr0, Nat.reduceAdd, Nat.reduceSub, List.cons_append, List.nil_append, List.set_cons_zero, List.set_cons_succ, Option.toList_none, Option.toList_some, nI_1]
    refine xi_ifnonnull_r rfl ?_
    refine xgo 80 rfl ?_
    try simp only [xlo0, List.map_cons, List.map_nil, List.length_cons, List.length_nil, xrs, xr0, Nat.reduceAdd, Nat.reduceSub, List.cons_append, List.nil_append, List.set_cons_zero, List.set_cons_succ, Option.toList_none, Option.toList_some, nI_1]
    refine xg 8 rfl rfl rfl h.obj rfl ?_
    obtain ⟨⟨rv, rp, rw', hro⟩, -⟩ := id hrd
    have hwp := c_RD_wrongPlace (d := d + 13) hrd hx (h.rsep hj)
    rw [← hpf] at hwp
    generalize hss : pf x.2.2 = ss at hwp
    refine xgo 80 rfl ?_
    try simp only [xlo0, List.map_cons, List.map_nil, List.length_cons, List.length_nil, xrs, xr0, Nat.reduceAdd, Nat.reduceSub, List.cons_append, List.nil_append, List.set_cons_zero, List.set_cons_succ, Option.toList_none, Option.toList_some, nI_1]
    refine xcV 8 rfl rfl rfl hwp rfl kX5_wrongPlace iX5_wrongPlace hro ⟨_, rfl, rfl⟩ rfl rfl (Nat.le_of_ble_eq_true rfl) (fun v2 s2 q2 => ?_)
    subst hss
    obtain ⟨rfl, p1, p2, p3⟩ := q2
    have hp2 := h.reader p2 p3 p1.rd0
    refine xgo 80 rfl ?_
    try simp only [xlo0, List.map_cons, List.map_nil, List.length_cons, List.length_nil, xrs, xr0, Nat.reduceAdd, Nat.reduceSub, List.cons_append, List.nil_append, List.set_cons_zero, List.set_cons_succ, Option.toList_none, Option.toList_some, nI_1]
    refine xi_ret_i rfl rfl rfl ⟨pf, hh, rfl, ⟨own, rc, hp2.1⟩, hp2.2⟩
theorem hEnd_len {bs : List Int32} {s : pS} (h : (hEndS bs s).2.1 = none) : s.2.1 = none ∧ s.1 + 4 ≤ (hEndS bs s).1 := by
  unfold hEndS at h ⊢
  cases hw : s.2.1 with
  | some w => simp [hw] at h
  | none =>
    simp only [hw, Option.isSome_none, Bool.false_eq_true, if_false] at h ⊢
    refine ⟨trivial, ?_⟩
    generalize ssum 1 (bs.take s.1) = sum at h ⊢
    have key : ∀ t : pS, (due bs sum 0 (due bs sum 8 (due bs sum 16 (due bs sum 24 s)))) = t → t.2.1 = none → s.1 + 4 ≤ t.1 := by
      intro t ht hn
      subst ht
      unfold due at hn ⊢
      have a1 := nxt_fine hn
      have a2 := nxt_fine a1.1
      have a3 := nxt_fine a2.1
      have a4 := nxt_fine a3.1
      omega
    generalize ht : due bs sum 0 (due bs sum 8 (due bs sum 16 (due bs sum 24 s))) = t at h key ⊢
    have hk := key t rfl
    have h2 : ∀ u : pS, (if t.2.2.1.1.2.2.2 = 0 then t else any4 bs t) = u → u.2.1 = none → t.2.1 = none ∧ t.1 ≤ u.1 := by
      intro u hu hn
      split at hu
      · subst hu; exact ⟨hn, Nat.le_refl _⟩
      · subst hu
        unfold any4 at hn ⊢
        have a1 := nxt_fine hn
        have a2 := nxt_fine a1.1
        have a3 := nxt_fine a2.1
        have a4 := nxt_fine a3.1
        exact ⟨a4.1, by omega⟩
    generalize (if t.2.2.1.1.2.2.2 = 0 then t else any4 bs t) = u at h h2 ⊢
    have hu := h2 u rfl
    split at h
    next hl =>
      exfalso
      have := refS_some u.1 u
      rw [h] at this
      cases this
    next hl =>
      rw [if_neg hl]
      have := hu h
      have := hk this.1
      omega
theorem parse_end (bs : List Int32) (K : cV) (ln sz : List Int32) : ∃ s, parse bs K ln sz = hEndS bs s := ⟨_, rfl⟩
theorem parse_len {bs : List Int32} {K : cV} {ln sz : List Int32} (h : (parse bs K ln sz).2.1 = none) : 4 ≤ (parse bs K ln sz).1 := by
  obtain ⟨s, hs⟩ := parse_end bs K ln sz
  rw [hs] at h ⊢
  have := (hEnd_len h).2
  omega
def sgnOk (bs : List Int32) (x : Int32) (s : pS) : Bool := decide (s.2.2.1.1.2.2.2 ≠ 0 ∧ num4 bs (nI (bs.length - 4)) = ssum x (bs.take (bs.length - 4)))
def F_signer (p sec : Int32) (pf : List Int32 → pS) (Z : pZ) : Int32 × pZ := match pget Z.2.2.1 p with
  | none => (-1, Z)
  | some x => (if (pf x.2.2).2.1 = none ∧ sgnOk x.2.2 sec (pf x.2.2) = true then 1 else 0, Z)
theorem oI_ge {o : Option Nat} (h : ∀ j, o = some j → j < 2 ^ 31) : 0 ≤ oI o ↔ ¬ o = none := by
  have := oI_lt h
  rw [← this, i_le, i_lt]
  have : (0 : Int32).toInt = 0 := rfl
  omega
theorem rdw.wlt {G : xG} {h : Nat → Option xC} {r b c cap : Nat} {bs : List Int32} {s : pS} (H : rdw G h r b c cap bs s) : ∀ j, s.2.1 = some j → j < 2 ^ 31 := fun j hj => by
  have h1 := H.2.2.2.2.2.2.2.2 j hj
  have h2 := H.len
  omega
set_option maxRecDepth 100000 in
set_option maxHeartbeats 2000000 in
theorem c_PP_signer {G : xG} {d rc : Nat} {own : Nat → Nat} {p sec : Int32} {Z : pZ} {σ : xS} (h : pw G σ own rc Z) : xm G (d + 20) mX8_signer [rf G 0, .int p, .int sec] σ (fun v σ' => ∃ pf, hears pf ∧ ppost G σ (F_signer p sec pf Z) v σ') := by
  obtain ⟨K, ln, sz, pf, hrd, hpf, hh⟩ := h.hears
  unfold F_signer
  cases hp : pget Z.2.2.1 p with
  | none =>
    refine xm_at 4 rfl (by decide) (Nat.le_of_ble_eq_true rfl) (by simp [Value.category]) tX8_signer_ok ?_
    try simp only [xlo0, List.map_cons, List.map_nil, List.length_cons, List.length_nil, xrs, xr0, Nat.reduceAdd, Nat.reduceSub, List.cons_append, List.nil_append, List.set_cons_zero, List.set_cons_succ, Option.toList_none, Option.toList_some, nI_1]
    refine xgo 80 rfl ?_
    try simp only [xlo0, List.map_cons, List.map_nil, List.length_cons, List.length_nil, xrs, xr0, Nat.reduceAdd, Nat.reduceSub, List.cons_append, List.nil_append, List.set_cons_zero, List.set_cons_succ, Option.toList_none, Option.toList_some, nI_1]
    refine xcV 8 rfl rfl rfl (c_PP_packAtN h hp) rfl kX8_packAt iX8_packAt h.obj ⟨_, rfl, rfl⟩ rfl rfl (Nat.le_of_ble_eq_true rfl) (fun v1 s1 q1 => ?_)
    obtain ⟨rfl, rfl⟩ := q1
    refine xgo 80 rfl ?_
    try simp only [xlo0, List.map_cons, List.map_nil, List.length_cons, List.length_nil, xrs, xr0, Nat.reduceAdd, Nat.reduceSub, List.cons_append, List.nil_append, List.set_cons_zero, List.set_cons_succ, Option.toList_none, Option.toList_some, nI_1]
    refine xi_ifnonnull_n rfl ?_
    refine xgo 80 rfl ?_
    try simp only [xlo0, List.map_cons, List.map_nil, List.length_cons, List.length_nil, xrs, xr0, Nat.reduceAdd, Nat.reduceSub, List.cons_append, List.nil_append, List.set_cons_zero, List.set_cons_succ, Option.toList_none, Option.toList_some, nI_1]
    refine xi_ret_i rfl rfl rfl ⟨pf, hh, ppost.same h rfl⟩
  | some x =>
    obtain ⟨j, rfl, hj, -, hjj⟩ := pget_s hp h.2.2.1.1
    obtain ⟨-, ar, -, -, b3⟩ := id h.2.2.1
    have hx := (b3 j x hj).2.1
    dsimp only
    refine xm_at 4 rfl (by decide) (Nat.le_of_ble_eq_true rfl) (by simp [Value.category]) tX8_signer_ok ?_
    try simp only [xlo0, List.map_cons, List.map_nil, List.length_cons, List.length_nil, xrs, xr0, Nat.reduceAdd, Nat.reduceSub, List.cons_append, List.nil_append, List.set_cons_zero, List.set_cons_succ, Option.toList_none, Option.toList_some, nI_1]
    refine xgo 80 rfl ?_
    try simp only [xlo0, List.map_cons, List.map_nil, List.length_cons, List.length_nil, xrs, xr0, Nat.reduceAdd, Nat.reduceSub, List.cons_append, List.nil_append, List.set_cons_zero, List.set_cons_succ, Option.toList_none, Option.toList_some, nI_1]
    refine xcV 8 rfl rfl rfl (c_PP_packAt h hj) rfl kX8_packAt iX8_packAt h.obj ⟨_, rfl, rfl⟩ rfl rfl (Nat.le_of_ble_eq_true rfl) (fun v1 s1 q1 => ?_)
    obtain ⟨rfl, rfl⟩ := q1
    refine xgo 80 rfl ?_
    try simp only [xlo0, List.map_cons, List.map_nil, List.length_cons, List.length_nil, xrs, xr0, Nat.reduceAdd, Nat.reduceSub, List.cons_append, List.nil_append, List.set_cons_zero, List.set_cons_succ, Option.toList_none, Option.toList_some, nI_1]
    refine xi_ifnonnull_r rfl ?_
    refine xgo 80 rfl ?_
    try simp only [xlo0, List.map_cons, List.map_nil, List.length_cons, List.length_nil, xrs, xr0, Nat.reduceAdd, Nat.reduceSub, List.cons_append, List.nil_append, List.set_cons_zero, List.set_cons_succ, Option.toList_none, Option.toList_some, nI_1]
    refine xg 8 rfl rfl rfl h.obj rfl ?_
    obtain ⟨⟨rv, rp, rw', hro⟩, -⟩ := id hrd
    have hwp := c_RD_wrongPlace (d := d + 13) hrd hx (h.rsep hj)
    rw [← hpf] at hwp
    generalize hss : pf x.2.2 = ss at hwp
    refine xgo 80 rfl ?_
    try simp only [xlo0, List.map_cons, List.map_nil, List.length_cons, List.length_nil, xrs, xr0, Nat.reduceAdd, Nat.reduceSub, List.cons_append, List.nil_append, List.set_cons_zero, List.set_cons_succ, Option.toList_none, Option.toList_some, nI_1]
    refine xcV 8 rfl rfl rfl hwp rfl kX5_wrongPlace iX5_wrongPlace hro ⟨_, rfl, rfl⟩ rfl rfl (Nat.le_of_ble_eq_true rfl) (fun v2 s2 q2 => ?_)
    subst hss
    obtain ⟨rfl, p1, p2, p3⟩ := q2
    have hp2 := h.reader p2 p3 p1.rd0
    refine xgo 80 rfl ?_
    try simp only [xlo0, List.map_cons, List.map_nil, List.length_cons, List.length_nil, xrs, xr0, Nat.reduceAdd, Nat.reduceSub, List.cons_append, List.nil_append, List.set_cons_zero, List.set_cons_succ, Option.toList_none, Option.toList_some, nI_1]
    refine xi_ifge rfl (fun c1 => ?_) (fun c1 => ?_)
    · rw [oI_ge p1.wlt] at c1
      refine xgo 80 rfl ?_
      try simp only [xlo0, List.map_cons, List.map_nil, List.length_cons, List.length_nil, xrs, xr0, Nat.reduceAdd, Nat.reduceSub, List.cons_append, List.nil_append, List.set_cons_zero, List.set_cons_succ, Option.toList_none, Option.toList_some, nI_1]
      refine xi_ret_i rfl rfl rfl ⟨pf, hh, by rw [if_neg (fun hc => c1 hc.1)], ⟨own, rc, hp2.1⟩, hp2.2⟩
    rw [oI_ge p1.wlt, Classical.not_not] at c1
    have hl4 : 4 ≤ x.2.2.length := by have h4 := parse_len (K := K) (ln := ln) (sz := sz) (bs := x.2.2) (by rw [← hpf]; exact c1); rw [← hpf] at h4; have := p1.len; omega
    refine xgo 80 rfl ?_
    try simp only [xlo0, List.map_cons, List.map_nil, List.length_cons, List.length_nil, xrs, xr0, Nat.reduceAdd, Nat.reduceSub, List.cons_append, List.nil_append, List.set_cons_zero, List.set_cons_succ, Option.toList_none, Option.toList_some, nI_1]
    refine xg 8 rfl rfl rfl hp2.1.obj rfl ?_
    refine xgo 80 rfl ?_
    try simp only [xlo0, List.map_cons, List.map_nil, List.length_cons, List.length_nil, xrs, xr0, Nat.reduceAdd, Nat.reduceSub, List.cons_append, List.nil_append, List.set_cons_zero, List.set_cons_succ, Option.toList_none, Option.toList_some, nI_1]
    refine xcV 8 rfl rfl rfl (c_RD_isSignedBy p1 hl4) rfl kX5_isSignedBy iX5_isSignedBy p1.1 ⟨_, rfl, rfl⟩ rfl rfl (Nat.le_of_ble_eq_true rfl) (fun v3 s3 q3 => ?_)
    obtain ⟨rfl, rfl⟩ := q3
    refine xgo 80 rfl ?_
    try simp only [xlo0, List.map_cons, List.map_nil, List.length_cons, List.length_nil, xrs, xr0, Nat.reduceAdd, Nat.reduceSub, List.cons_append, List.nil_append, List.set_cons_zero, List.set_cons_succ, Option.toList_none, Option.toList_some, nI_1]
    refine xi_ifeq rfl (fun c2 => ?_) (fun c2 => ?_)
    · rw [bI_z] at c2
      refine xgo 80 rfl ?_
      try simp only [xlo0, List.map_cons, List.map_nil, List.length_cons, List.length_nil, xrs, xr0, Nat.reduceAdd, Nat.reduceSub, List.cons_append, List.nil_append, List.set_cons_zero, List.set_cons_succ, Option.toList_none, Option.toList_some, nI_1]
      refine xi_ret_i rfl rfl rfl ⟨pf, hh, by rw [if_neg (fun hc => by have := hc.2; unfold sgnOk at this; rw [c2] at this; cases this)], ⟨own, rc, hp2.1⟩, hp2.2⟩
    · rw [bI_z, Bool.not_eq_false] at c2
      refine xgo 80 rfl ?_
      try simp only [xlo0, List.map_cons, List.map_nil, List.length_cons, List.length_nil, xrs, xr0, Nat.reduceAdd, Nat.reduceSub, List.cons_append, List.nil_append, List.set_cons_zero, List.set_cons_succ, Option.toList_none, Option.toList_some, nI_1]
      refine xi_ret_i rfl rfl rfl ⟨pf, hh, by rw [if_pos ⟨c1, c2⟩], ⟨own, rc, hp2.1⟩, hp2.2⟩
/-- desk and writer have changed -/
theorem pw.desk {G : xG} {σ σ' : xS} {own : Nat → Nat} {rc : Nat} {Z : pZ} {bs bw sz : List Int32} {mb ml : Int32} (H : pw G σ own rc Z) (f : ∀ q, (q < 19 ∨ 21 ≤ q) → (q < 56 ∨ 60 ≤ q) → σ'.1 q = σ.1 q) (e : σ'.2 = σ.2) (hb : brr G σ'.1 19 2020 bs) (hw : wrw G σ'.1 56 bw sz mb ml) : pw G σ' own rc Z ∧ mk σ σ' := by
  obtain ⟨a0, a1, a2, -, a4, a5, -, a7, a8, ⟨st, a9⟩, a10⟩ := H
  have ho := a10.2
  refine ⟨⟨(f 0 (by omega) (by omega)).trans a0, a1.keepQ (fun q _ _ => f q (by omega) (by omega)), a2.keep (fun _ _ => rfl) (fun q hq => ?_), ⟨_, hb⟩, a4.keepQ (fun q _ _ => f q (by omega) (by omega)), a5.keep (fun _ _ => rfl) (fun q hq => ?_), ⟨_, _, _, _, hw⟩, a7.keep (fun _ _ => rfl) (fun q hq => ?_), a8.keep (fun _ _ => rfl) (fun q hq => ?_), ⟨st, a9.keepQ (fun q _ _ => f q (by omega) (by omega))⟩, by rw [e]; exact a10⟩, fun q h1 h2 => f q (by omega) (by omega), by rw [e]; omega, by rw [e]; omega, by rw [e]; omega⟩
  all_goals
    have := ho q
    exact f q (by omega) (by omega)
def F_keep (n : Nat) (bs : List Int32) (Z : pZ) : Int32 × pZ := if 16 ≤ Z.2.2.1.length ∨ 700 < bs.length then (-3, Z) else (nI Z.2.2.1.length, zP Z (Z.2.2.1 ++ [(n, bs.length, bs)]))
theorem pw.own0 {G : xG} {σ : xS} {own : Nat → Nat} {rc : Nat} {Z : pZ} (H : pw G σ own rc Z) : 124 ≤ σ.2.1 ∧ (∀ q, σ.2.1 ≤ q → own q = 0) ∧ ∀ q, own q ≠ 0 → ((65 ≤ q ∧ q < 82) ∨ 124 ≤ q) ∧ q < σ.2.1 := by
  have h := H.2.2.2.2.2.2.2.2.2.2
  refine ⟨h.1, fun q hq => ?_, h.2⟩
  by_cases h0 : own q = 0
  · exact h0
  · have := h.2 q h0; omega
set_option maxRecDepth 100000 in
set_option maxHeartbeats 2000000 in
theorem c_PP_keepDesk {G : xG} {d rc : Nat} {own : Nat → Nat} {bs : List Int32} {Z : pZ} {σ : xS} (h : pw G σ own rc Z) (hb : brr G σ.1 19 2020 bs) : xm G (d + 3) mX8_keepDesk [rf G 0] σ (fun v σ' => ppost G σ (F_keep σ.2.1 bs Z) v σ' ∧ σ'.2.1 ≤ σ.2.1 + 2 ∧ σ'.2.2 ≤ σ.2.2 + 702) := by
  obtain ⟨hl, ar, b1, b2, b3⟩ := id h.2.2.1
  have hbl := hb.len
  have hn := h.own0
  have z16 : (16 : Int32).toInt = 16 := rfl
  have z700 : (700 : Int32).toInt = 700 := rfl
  refine xm_at 1 rfl (by decide) (Nat.le_of_ble_eq_true rfl) (by simp [Value.category]) tX8_keepDesk_ok ?_
  try simp only [xlo0, List.map_cons, List.map_nil, List.length_cons, List.length_nil, xrs, xr0, Nat.reduceAdd, Nat.reduceSub, List.cons_append, List.nil_append, List.set_cons_zero, List.set_cons_succ, Option.toList_none, Option.toList_some, nI_1]
  refine xgo 80 rfl ?_
  try simp only [xlo0, List.map_cons, List.map_nil, List.length_cons, List.length_nil, xrs, xr0, Nat.reduceAdd, Nat.reduceSub, List.cons_append, List.nil_append, List.set_cons_zero, List.set_cons_succ, Option.toList_none, Option.toList_some, nI_1]
  refine xg 8 rfl rfl rfl h.obj rfl ?_
  refine xgo 80 rfl ?_
  try simp only [xlo0, List.map_cons, List.map_nil, List.length_cons, List.length_nil, xrs, xr0, Nat.reduceAdd, Nat.reduceSub, List.cons_append, List.nil_append, List.set_cons_zero, List.set_cons_succ, Option.toList_none, Option.toList_some, nI_1]
  refine xi_icmpge rfl (fun c1 => ?_) (fun c1 => ?_)
  · rw [i_le, i_n (by omega)] at c1
    refine xgo 80 rfl ?_
    try simp only [xlo0, List.map_cons, List.map_nil, List.length_cons, List.length_nil, xrs, xr0, Nat.reduceAdd, Nat.reduceSub, List.cons_append, List.nil_append, List.set_cons_zero, List.set_cons_succ, Option.toList_none, Option.toList_some, nI_1]
    refine xi_ret_i rfl rfl rfl ⟨ppost.same h (if_pos (by omega)), by omega, by omega⟩
  rw [i_le, i_n (by omega)] at c1
  refine xgo 80 rfl ?_
  try simp only [xlo0, List.map_cons, List.map_nil, List.length_cons, List.length_nil, xrs, xr0, Nat.reduceAdd, Nat.reduceSub, List.cons_append, List.nil_append, List.set_cons_zero, List.set_cons_succ, Option.toList_none, Option.toList_some, nI_1]
  refine xg 8 rfl rfl rfl h.obj rfl ?_
  refine xgo 80 rfl ?_
  try simp only [xlo0, List.map_cons, List.map_nil, List.length_cons, List.length_nil, xrs, xr0, Nat.reduceAdd, Nat.reduceSub, List.cons_append, List.nil_append, List.set_cons_zero, List.set_cons_succ, Option.toList_none, Option.toList_some, nI_1]
  refine xg 8 rfl rfl rfl hb.obj rfl ?_
  refine xgo 80 rfl ?_
  try simp only [xlo0, List.map_cons, List.map_nil, List.length_cons, List.length_nil, xrs, xr0, Nat.reduceAdd, Nat.reduceSub, List.cons_append, List.nil_append, List.set_cons_zero, List.set_cons_succ, Option.toList_none, Option.toList_some, nI_1]
  refine xi_icmple rfl (fun c2 => ?_) (fun c2 => ?_)
  · rw [i_le, i_n (by omega)] at c2
    have hF : F_keep σ.2.1 bs Z = (nI Z.2.2.1.length, zP Z (Z.2.2.1 ++ [(σ.2.1, bs.length, bs)])) := if_neg (by omega)
    rw [hF]
    have hcl : (nI Z.2.2.1.length).toNatClampNeg = Z.2.2.1.length := nI_clamp (by omega)
    refine xgo 80 rfl ?_
    try simp only [xlo0, List.map_cons, List.map_nil, List.length_cons, List.length_nil, xrs, xr0, Nat.reduceAdd, Nat.reduceSub, List.cons_append, List.nil_append, List.set_cons_zero, List.set_cons_succ, Option.toList_none, Option.toList_some, nI_1]
    refine xg 8 rfl rfl rfl h.obj rfl ?_
    refine xgo 80 rfl ?_
    try simp only [xlo0, List.map_cons, List.map_nil, List.length_cons, List.length_nil, xrs, xr0, Nat.reduceAdd, Nat.reduceSub, List.cons_append, List.nil_append, List.set_cons_zero, List.set_cons_succ, Option.toList_none, Option.toList_some, nI_1]
    refine xg 8 rfl rfl rfl h.obj rfl ?_
    refine xgo 80 rfl ?_
    try simp only [xlo0, List.map_cons, List.map_nil, List.length_cons, List.length_nil, xrs, xr0, Nat.reduceAdd, Nat.reduceSub, List.cons_append, List.nil_append, List.set_cons_zero, List.set_cons_succ, Option.toList_none, Option.toList_some, nI_1]
    refine xg 8 rfl rfl rfl h.obj rfl ?_
    refine xgo 80 rfl ?_
    try simp only [xlo0, List.map_cons, List.map_nil, List.length_cons, List.length_nil, xrs, xr0, Nat.reduceAdd, Nat.reduceSub, List.cons_append, List.nil_append, List.set_cons_zero, List.set_cons_succ, Option.toList_none, Option.toList_some, nI_1]
    refine xg 8 rfl rfl rfl h.obj rfl ?_
    refine xgo 80 rfl ?_
    try simp only [xlo0, List.map_cons, List.map_nil, List.length_cons, List.length_nil, xrs, xr0, Nat.reduceAdd, Nat.reduceSub, List.cons_append, List.nil_append, List.set_cons_zero, List.set_cons_succ, Option.toList_none, Option.toList_some, nI_1]
    refine xg 8 rfl rfl rfl hb.obj rfl ?_
    refine xgo 80 rfl ?_
    try simp only [xlo0, List.map_cons, List.map_nil, List.length_cons, List.length_nil, xrs, xr0, Nat.reduceAdd, Nat.reduceSub, List.cons_append, List.nil_append, List.set_cons_zero, List.set_cons_succ, Option.toList_none, Option.toList_some, nI_1]
    refine xcV 8 rfl rfl rfl (c_BR_part (i := 0) (e := bs.length) hb (Nat.zero_le _) (Nat.le_refl _) (by omega)) rfl kX1_part iX1_part hb.obj ⟨_, rfl, rfl⟩ rfl rfl (Nat.le_of_ble_eq_true rfl) (fun v1 s1 q1 => ?_)
    obtain ⟨rfl, p1, p2, p3, p4⟩ := q1
    rw [List.drop_zero, Nat.sub_zero, List.take_length] at p1
    have b1 := (p2 18 (by omega)).trans b1
    have h0 := (p2 0 (by omega)).trans h.obj
    refine xgo 80 rfl ?_
    try simp only [xlo0, List.map_cons, List.map_nil, List.length_cons, List.length_nil, xrs, xr0, Nat.reduceAdd, Nat.reduceSub, List.cons_append, List.nil_append, List.set_cons_zero, List.set_cons_succ, Option.toList_none, Option.toList_some, nI_1]
    refine xsa rfl b1 (by decide) (by decide) p1.obj (nI_pos (by omega)) (by rw [hcl, b2]; omega) (fun s2 n2 f2 e2 => ?_)
    have h0 := (f2 _ (by omega)).trans h0
    refine xgo 80 rfl ?_
    try simp only [xlo0, List.map_cons, List.map_nil, List.length_cons, List.length_nil, xrs, xr0, Nat.reduceAdd, Nat.reduceSub, List.cons_append, List.nil_append, List.set_cons_zero, List.set_cons_succ, Option.toList_none, Option.toList_some, nI_1]
    refine xg 8 rfl rfl rfl h0 rfl ?_
    refine xgo 80 rfl ?_
    try simp only [xlo0, List.map_cons, List.map_nil, List.length_cons, List.length_nil, xrs, xr0, Nat.reduceAdd, Nat.reduceSub, List.cons_append, List.nil_append, List.set_cons_zero, List.set_cons_succ, Option.toList_none, Option.toList_some, nI_1]
    refine xp 8 rfl rfl rfl h0 rfl rfl rfl (fun s3 n3 f3 e3 => ?_)
    refine xgo 80 rfl ?_
    try simp only [xlo0, List.map_cons, List.map_nil, List.length_cons, List.length_nil, xrs, xr0, Nat.reduceAdd, Nat.reduceSub, List.cons_append, List.nil_append, List.set_cons_zero, List.set_cons_succ, Option.toList_none, Option.toList_some, nI_1]
    refine xg 8 rfl rfl rfl n3 rfl ?_
    have e3' : s3.2 = s1.2 := e3.trans e2
    have hm : ∀ q, q < σ.2.1 → q ≠ 0 → q ≠ 18 → s3.1 q = σ.1 q := fun q h1 h2 h3 => by rw [f3 q h2, f2 q h3, p2 q h1]
    have hs1 : nI (Z.2.2.1.length + 1) - 1 = nI Z.2.2.1.length := nI_subN (b := 1) (by omega)
    refine xgo 80 rfl ?_
    try simp only [xlo0, List.map_cons, List.map_nil, List.length_cons, List.length_nil, xrs, xr0, Nat.reduceAdd, Nat.reduceSub, List.cons_append, List.nil_append, List.set_cons_zero, List.set_cons_succ, Option.toList_none, Option.toList_some, nI_1]
    rw [hs1]
    refine xi_ret_i rfl rfl rfl ⟨⟨rfl, ⟨fun q => if q = σ.2.1 ∨ q = σ.2.1 + 1 then 100 + Z.2.2.1.length else own q, rc, ?_⟩, fun q h1 h2 => hm q (by omega) (by omega) (by omega), by rw [e3', p3]; omega, by rw [e3', p3]; omega, by rw [e3', p4]; omega⟩, by rw [e3', p3]; omega, by rw [e3', p4]; omega⟩
    obtain ⟨a0, a1, a2, ⟨ds, a3⟩, a4, a5, ⟨bw, sz, mb, ml, a6⟩, a7, a8, ⟨st, a9⟩, a10⟩ := h
    have eo : ∀ q, own q ≠ 0 → (if q = σ.2.1 ∨ q = σ.2.1 + 1 then 100 + Z.2.2.1.length else own q) = own q := fun q hq => if_neg (by have := hn.2.2 q hq; omega)
    refine ⟨?_, a1.keepQ (fun q _ _ => hm q (by omega) (by omega) (by omega)), ⟨?_, ar.set Z.2.2.1.length (rf G σ.2.1), ?_, ?_, fun i y hy => ?_⟩, ⟨ds, a3.keepQ (fun q _ _ => hm q (by omega) (by omega) (by omega))⟩, a4.keepQ (fun q _ _ => hm q (by omega) (by omega) (by omega)), a5.keep eo (fun q hq => ?_), ⟨bw, sz, mb, ml, a6.keepQ (fun q _ _ => hm q (by omega) (by omega) (by omega))⟩, a7.keep eo (fun q hq => ?_), a8.keep eo (fun q hq => ?_), ⟨st, a9.keepQ (fun q _ _ => hm q (by omega) (by omega) (by omega))⟩, ?_, fun q hq => ?_⟩
    · rw [n3]
      simp [pobj, zP, nI_inc]
    · simp [zP]; omega
    · rw [f3 18 (by omega), n2, hcl]
    · rw [List.length_set]; exact b2
    · rcases snoc_get (show (Z.2.2.1 ++ [(σ.2.1, bs.length, bs)])[i]? = some y from hy) with ⟨hi, hy'⟩ | ⟨rfl, rfl⟩
      · have hy2 := b3 i y hy'
        have o1 := hn.2.2 y.1 (by omega)
        have o2 := hn.2.2 (y.1 + 1) (by omega)
        refine ⟨by rw [List.getElem?_set_ne (by omega)]; exact hy2.1, hy2.2.1.keepQ (fun q h1 h2 => hm q (by omega) (by omega) (by omega)), (eo _ (by omega)).trans hy2.2.2.1, (eo _ (by omega)).trans hy2.2.2.2⟩
      · refine ⟨List.getElem?_set_self (by omega), p1.keepQ (fun q h1 h2 => ?_), if_pos (Or.inl rfl), if_pos (Or.inr rfl)⟩
        rw [f3 q (by omega), f2 q (by omega)]
    · have := hn.2.2 q
      exact hm q (by omega) (by omega) (by omega)
    · have := hn.2.2 q
      exact hm q (by omega) (by omega) (by omega)
    · have := hn.2.2 q
      exact hm q (by omega) (by omega) (by omega)
    · rw [e3', p3]; omega
    · rw [e3', p3]
      have hq' : (if q = σ.2.1 ∨ q = σ.2.1 + 1 then 100 + Z.2.2.1.length else own q) ≠ 0 := hq
      by_cases hc : q = σ.2.1 ∨ q = σ.2.1 + 1
      · omega
      · rw [if_neg hc] at hq'
        have := hn.2.2 q hq'
        omega
  · rw [i_le, i_n (by omega)] at c2
    refine xgo 80 rfl ?_
    try simp only [xlo0, List.map_cons, List.map_nil, List.length_cons, List.length_nil, xrs, xr0, Nat.reduceAdd, Nat.reduceSub, List.cons_append, List.nil_append, List.set_cons_zero, List.set_cons_succ, Option.toList_none, Option.toList_some, nI_1]
    refine xi_ret_i rfl rfl rfl ⟨ppost.same h (if_pos (by omega)), by omega, by omega⟩
def F_pack (sec : Int32) (n : Nat) (Z : pZ) : Int32 × pZ := if Z.2.1 = false then (-2, Z) else if 16 ≤ Z.2.2.1.length ∨ 700 < (wPack Z.1 sec).length then (-3, Z) else (nI Z.2.2.1.length, Z.1, false, Z.2.2.1 ++ [(n, (wPack Z.1 sec).length, wPack Z.1 sec)], Z.2.2.2)
theorem mk.tr {σ σ1 σ2 : xS} (h : mk σ σ1) (e : σ1.2 = σ.2) (g : mk σ1 σ2) : mk σ σ2 := ⟨fun q a b => (g.1 q a b).trans (h.1 q a b), by rw [← e]; exact g.2.1, by rw [← e]; exact g.2.2.1, by rw [← e]; exact g.2.2.2⟩
set_option maxRecDepth 100000 in
set_option maxHeartbeats 2000000 in
theorem c_PP_pack {G : xG} {d rc : Nat} {own : Nat → Nat} {sec : Int32} {Z : pZ} {σ : xS} (h : pw G σ own rc Z) (hN : okRows Z.1.2.2.2) : xm G (d + 20) mX8_pack [rf G 0, .int sec] σ (ppost G σ (F_pack sec σ.2.1 Z)) := by
  have hl := h.2.2.1.1
  have z16 : (16 : Int32).toInt = 16 := rfl
  unfold F_pack
  refine xm_at 3 rfl (by decide) (Nat.le_of_ble_eq_true rfl) (by simp [Value.category]) tX8_pack_ok ?_
  try simp only [xlo0, List.map_cons, List.map_nil, List.length_cons, List.length_nil, xrs, xr0, Nat.reduceAdd, Nat.reduceSub, List.cons_append, List.nil_append, List.set_cons_zero, List.set_cons_succ, Option.toList_none, Option.toList_some, nI_1]
  refine xgo 80 rfl ?_
  try simp only [xlo0, List.map_cons, List.map_nil, List.length_cons, List.length_nil, xrs, xr0, Nat.reduceAdd, Nat.reduceSub, List.cons_append, List.nil_append, List.set_cons_zero, List.set_cons_succ, Option.toList_none, Option.toList_some, nI_1]
  refine xg 8 rfl rfl rfl h.obj rfl ?_
  refine xgo 80 rfl ?_
  try simp only [xlo0, List.map_cons, List.map_nil, List.length_cons, List.length_nil, xrs, xr0, Nat.reduceAdd, Nat.reduceSub, List.cons_append, List.nil_append, List.set_cons_zero, List.set_cons_succ, Option.toList_none, Option.toList_some, nI_1]
  refine xi_ifne rfl (fun c1 => ?_) (fun c1 => ?_)
  · rw [bI_z, Bool.not_eq_false] at c1
    rw [if_neg (by rw [c1]; decide)]
    refine xgo 80 rfl ?_
    try simp only [xlo0, List.map_cons, List.map_nil, List.length_cons, List.length_nil, xrs, xr0, Nat.reduceAdd, Nat.reduceSub, List.cons_append, List.nil_append, List.set_cons_zero, List.set_cons_succ, Option.toList_none, Option.toList_some, nI_1]
    refine xg 8 rfl rfl rfl h.obj rfl ?_
    refine xgo 80 rfl ?_
    try simp only [xlo0, List.map_cons, List.map_nil, List.length_cons, List.length_nil, xrs, xr0, Nat.reduceAdd, Nat.reduceSub, List.cons_append, List.nil_append, List.set_cons_zero, List.set_cons_succ, Option.toList_none, Option.toList_some, nI_1]
    refine xi_icmplt rfl (fun c2 => ?_) (fun c2 => ?_)
    · rw [i_lt, i_n (by omega)] at c2
      obtain ⟨-, hK, -, ⟨ds, hds⟩, -, -, ⟨bw, sz, mb, ml, hW⟩, -⟩ := id h
      refine xgo 80 rfl ?_
      try simp only [xlo0, List.map_cons, List.map_nil, List.length_cons, List.length_nil, xrs, xr0, Nat.reduceAdd, Nat.reduceSub, List.cons_append, List.nil_append, List.set_cons_zero, List.set_cons_succ, Option.toList_none, Option.toList_some, nI_1]
      refine xg 8 rfl rfl rfl h.obj rfl ?_
      refine xgo 80 rfl ?_
      try simp only [xlo0, List.map_cons, List.map_nil, List.length_cons, List.length_nil, xrs, xr0, Nat.reduceAdd, Nat.reduceSub, List.cons_append, List.nil_append, List.set_cons_zero, List.set_cons_succ, Option.toList_none, Option.toList_some, nI_1]
      refine xg 8 rfl rfl rfl h.obj rfl ?_
      refine xgo 80 rfl ?_
      try simp only [xlo0, List.map_cons, List.map_nil, List.length_cons, List.length_nil, xrs, xr0, Nat.reduceAdd, Nat.reduceSub, List.cons_append, List.nil_append, List.set_cons_zero, List.set_cons_succ, Option.toList_none, Option.toList_some, nI_1]
      refine xg 8 rfl rfl rfl h.obj rfl ?_
      refine xgo 80 rfl ?_
      try simp only [xlo0, List.map_cons, List.map_nil, List.length_cons, List.length_nil, xrs, xr0, Nat.reduceAdd, Nat.reduceSub, List.cons_append, List.nil_append, List.set_cons_zero, List.set_cons_succ, Option.toList_none, Option.toList_some, nI_1]
      refine xcV 8 rfl rfl rfl (c_WR_write hds hK hW hN (by omega) (by omega) (by omega)) rfl kX6_write iX6_write hW.1 ⟨_, rfl, rfl⟩ rfl rfl (Nat.le_of_ble_eq_true rfl) (fun v1 s1 q1 => ?_)
      obtain ⟨bw, sz, mb, ml, rfl, p1, p2, p3, p4⟩ := q1
      generalize wPack Z.1 sec = wp at p1 ⊢
      have hp := h.desk p3 p4 p1 p2
      have e1 : s1.2.1 = σ.2.1 := congrArg Prod.fst p4
      refine xgo 80 rfl ?_
      try simp only [xlo0, List.map_cons, List.map_nil, List.length_cons, List.length_nil, xrs, xr0, Nat.reduceAdd, Nat.reduceSub, List.cons_append, List.nil_append, List.set_cons_zero, List.set_cons_succ, Option.toList_none, Option.toList_some, nI_1]
      refine xcV 8 rfl rfl rfl (c_PP_keepDesk hp.1 p1) rfl kX8_keepDesk iX8_keepDesk hp.1.obj ⟨_, rfl, rfl⟩ rfl rfl (Nat.le_of_ble_eq_true rfl) (fun v2 s2 q2 => ?_)
      obtain ⟨⟨rfl, ⟨own2, rc2, hp2⟩, hm2⟩, -⟩ := q2
      unfold F_keep at hp2 ⊢
      by_cases hc : 16 ≤ Z.2.2.1.length ∨ 700 < wp.length
      · rw [if_pos hc] at hp2 ⊢
        rw [if_pos hc]
        refine xgo 80 rfl ?_
        try simp only [xlo0, List.map_cons, List.map_nil, List.length_cons, List.length_nil, xrs, xr0, Nat.reduceAdd, Nat.reduceSub, List.cons_append, List.nil_append, List.set_cons_zero, List.set_cons_succ, Option.toList_none, Option.toList_some, nI_1]
        refine xi_iflt rfl (fun c3 => ?_) (fun c3 => ?_)
        · refine xgo 80 rfl ?_
          try simp only [xlo0, List.map_cons, List.map_nil, List.length_cons, List.length_nil, xrs, xr0, Nat.reduceAdd, Nat.reduceSub, List.cons_append, List.nil_append, List.set_cons_zero, List.set_cons_succ, Option.toList_none, Option.toList_some, nI_1]
          refine xi_ret_i rfl rfl rfl ⟨rfl, ⟨_, _, hp2⟩, hp.2.tr p4 hm2⟩
        · exact absurd (by decide) c3
      · rw [if_neg hc] at hp2 ⊢
        rw [if_neg hc]
        refine xgo 80 rfl ?_
        try simp only [xlo0, List.map_cons, List.map_nil, List.length_cons, List.length_nil, xrs, xr0, Nat.reduceAdd, Nat.reduceSub, List.cons_append, List.nil_append, List.set_cons_zero, List.set_cons_succ, Option.toList_none, Option.toList_some, nI_1]
        refine xi_iflt rfl (fun c3 => ?_) (fun c3 => ?_)
        · exact absurd c3 (by rw [i_lt, i_n (by omega)]; have : (0 : Int32).toInt = 0 := rfl; omega)
        · refine xgo 80 rfl ?_
          try simp only [xlo0, List.map_cons, List.map_nil, List.length_cons, List.length_nil, xrs, xr0, Nat.reduceAdd, Nat.reduceSub, List.cons_append, List.nil_append, List.set_cons_zero, List.set_cons_succ, Option.toList_none, Option.toList_some, nI_1]
          refine xp 8 rfl rfl rfl hp2.obj rfl (by decide) (by decide) (fun s3 n3 f3 e3 => ?_)
          have hp3 : pw G s3 own2 rc2 (Z.1, false, Z.2.2.1 ++ [(σ.2.1, wp.length, wp)], Z.2.2.2) := by
            rw [e1] at hp2 n3
            exact hp2.sheet (fun q hq => f3 q (by omega)) e3 n3 (hp2.2.1.keepQ (fun q _ _ => f3 q (by omega))) ⟨rfl, rfl, rfl, rfl⟩
          refine xgo 80 rfl ?_
          try simp only [xlo0, List.map_cons, List.map_nil, List.length_cons, List.length_nil, xrs, xr0, Nat.reduceAdd, Nat.reduceSub, List.cons_append, List.nil_append, List.set_cons_zero, List.set_cons_succ, Option.toList_none, Option.toList_some, nI_1]
          refine xi_ret_i rfl rfl rfl ⟨rfl, ⟨_, _, hp3⟩, hp.2.tr p4 ⟨fun q a b => (f3 q (by omega)).trans (hm2.1 q a b), by rw [e3]; exact hm2.2.1, by rw [e3]; exact hm2.2.2.1, by rw [e3]; exact hm2.2.2.2⟩⟩
    · rw [i_lt, i_n (by omega)] at c2
      refine xgo 80 rfl ?_
      try simp only [xlo0, List.map_cons, List.map_nil, List.length_cons, List.length_nil, xrs, xr0, Nat.reduceAdd, Nat.reduceSub, List.cons_append, List.nil_append, List.set_cons_zero, List.set_cons_succ, Option.toList_none, Option.toList_some, nI_1]
      refine xi_ret_i rfl rfl rfl (ppost.same h (if_pos (by omega)))
  · rw [bI_z] at c1
    refine xgo 80 rfl ?_
    try simp only [xlo0, List.map_cons, List.map_nil, List.length_cons, List.length_nil, xrs, xr0, Nat.reduceAdd, Nat.reduceSub, List.cons_append, List.nil_append, List.set_cons_zero, List.set_cons_succ, Option.toList_none, Option.toList_some, nI_1]
    refine xi_ret_i rfl rfl rfl (ppost.same h (if_pos c1))
