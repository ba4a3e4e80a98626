/-! ===== what a fine pack says keeps the bounds ===== -/
theorem rep_mem {m : Nat} {B : List Int32} (hm : 1 ≤ m) : ∀ (q : Nat) (o : List Int32), m ≤ o.length → (∀ x ∈ o, x ∈ B) → ∀ x ∈ rep m q o, x ∈ B
  | 0, o, _, h => h
  | q + 1, o, hl, h => by
    show ∀ x ∈ rep m q (o ++ [o.getD (o.length - m) (-1)]), x ∈ B
    refine rep_mem hm q _ (by simp; omega) (fun x hx => ?_)
    rcases List.mem_append.mp hx with hx | hx
    · exact h x hx
    · rw [List.mem_singleton] at hx
      obtain ⟨y, hy⟩ := lt_get (l := o) (j := o.length - m) (by omega)
      rw [List.getD_eq_getElem?_getD, hy, Option.getD_some] at hx
      rw [hx]
      exact h y (List.mem_of_getElem? hy)
theorem dc1_mem {bs : List Int32} {k : Int32} {p p' : Nat} {o o' : List Int32} (h : dc1 bs k p o p' o') (ho : ∀ x ∈ o, x ∈ bs) : ∀ x ∈ o', x ∈ bs := by
  rcases h with ⟨-, b, h1, -, rfl⟩ | ⟨-, n, b, -, -, -, h1, -, rfl⟩ | ⟨-, q, w, -, -, -, h1, -, rfl⟩ | ⟨-, q, m, -, -, -, -, h1, h2, -, rfl⟩
  · intro x hx
    rcases List.mem_append.mp hx with hx | hx
    · exact ho x hx
    · rw [List.mem_singleton] at hx
      rw [hx]
      exact List.mem_of_getElem? h1
  · intro x hx
    rcases List.mem_append.mp hx with hx | hx
    · exact ho x hx
    · rw [(List.mem_replicate.mp hx).2]
      exact List.mem_of_getElem? h1
  · intro x hx
    rcases List.mem_append.mp hx with hx | hx
    · exact ho x hx
    · obtain ⟨i, hi⟩ := List.getElem?_of_mem hx
      exact List.mem_of_getElem? (h1 i x hi)
  · exact rep_mem h1 _ o h2 ho
theorem dcs_mem {bs : List Int32} {k : Int32} {lr : Nat} : ∀ (n p : Nat) (o : List Int32) (p' : Nat) (o' : List Int32), dcs bs k lr n p o p' o' → (∀ x ∈ o, x ∈ bs) → ∀ x ∈ o', x ∈ bs
  | 0, p, o, p', o', h, ho => by rw [h.2]; exact ho
  | n + 1, p, o, p', o', h, ho => by
    obtain ⟨p1, o1, h1, -, h2⟩ := h
    exact dcs_mem n p1 o1 p' o' h2 (dc1_mem h1 ho)
theorem pgs_get {bs : List Int32} {fr : Nat} : ∀ (R : List (Int32 × Int32 × List Int32)) (k p i : Nat) (e : Int32 × Int32 × List Int32), pgs bs fr k p R → R[i]? = some e → bs[fr + (k + i) * 6]? = some e.1 ∧ (e.2.1 = 0 ∨ e.2.1 = 1 ∨ e.2.1 = 2) ∧ e.2.2.length ≤ 120 ∧ ∀ x ∈ e.2.2, x ∈ bs
  | [], _, _, _, _, _, he => by cases he
  | w :: R, k, p, i, e, h, he => by
    obtain ⟨g1, g2, g3, g4, g5, z, m, g6, g7, g8, g9⟩ := h
    cases i with
    | zero =>
      cases he
      exact ⟨g1, g3, g5, dcs_mem m p [] _ _ g8 (fun x hx => by simp at hx)⟩
    | succ i =>
      have := pgs_get R (k + 1) (p + z) i e g9 he
      rw [show k + (i + 1) = k + 1 + i by omega]
      exact this
theorem blw_le {x : Int32} {n : Nat} (h1 : 0 ≤ x) (h2 : x.toInt < n) : blw x n := by
  rw [i_le] at h1
  have : (0 : Int32).toInt = 0 := rfl
  exact ⟨by omega, by omega⟩
theorem nxt_blw {bs : List Int32} {hi : Int32} {n : Nat} {s : pS} (h0 : 0 ≤ hi) (h : hi.toInt < n) : blw (nxt bs 0 hi s).1 n := by
  have := nxt_rng (bs := bs) (s := s) h0
  exact blw_le this.1 (by have := this.2; rw [i_le] at this; omega)
theorem hTitle_ok (bs : List Int32) (s : pS) : blw (hTitle bs s).2.2.1.1.1 64 ∧ blw (hTitle bs s).2.2.1.1.2.1 100 ∧ blw (hTitle bs s).2.2.1.1.2.2.1 2 := by
  unfold hTitle
  dsimp only
  refine ⟨nxt_blw (by decide) (by decide), nxt_blw (by decide) (by decide), ?_⟩
  have h := nxt_blw (bs := bs) (hi := 3) (n := 4) (s := (nxt bs 0 99 (nxt bs 0 63 (nxt bs 75 75 (nxt bs 80 80 s).2).2).2).2) (by decide) (by decide)
  generalize (nxt bs 0 3 (nxt bs 0 99 (nxt bs 0 63 (nxt bs 75 75 (nxt bs 80 80 s).2).2).2).2).1 = m at h
  have hh : ∀ k : Nat, k < 4 → 0 ≤ (nI k - nI k / 2 * 2).toInt ∧ (nI k - nI k / 2 * 2).toInt < 2 := by decide
  have h1 := h.1
  have h2 := h.2
  rw [toN h.1]
  exact hh _ (by omega)
def okN (l : List (Int32 × Int32 × Int32)) : Prop := ∀ e ∈ l, blw e.1 64 ∧ blw e.2.1 100 ∧ (e.2.2 = 0 ∨ e.2.2 = 1)
theorem hNeed_ok {bs : List Int32} {s : pS} (h : okN s.2.2.1.2.1) : okN (hNeed bs s).2.2.1.2.1 := by
  unfold hNeed
  dsimp only
  have h1 := nxt_blw (bs := bs) (hi := 63) (n := 64) (s := s) (by decide) (by decide)
  have hr := nxt_rest bs 0 63 s
  generalize nxt bs 0 63 s = N at h1 hr ⊢
  have hr1 : (if N.2.2.2.1.2.1.any (fun e => e.1 == N.1) then refS s.1 N.2 else N.2).2.2 = s.2.2 := by rw [refif_rest, hr]
  generalize (if N.2.2.2.1.2.1.any (fun e => e.1 == N.1) then refS s.1 N.2 else N.2) = S at hr1 ⊢
  have h2 := nxt_blw (bs := bs) (hi := 99) (n := 100) (s := S) (by decide) (by decide)
  have hr2 := nxt_rest bs 0 99 S
  generalize nxt bs 0 99 S = E at h2 hr2 ⊢
  have hr3 := nxt_rest bs 0 1 E.2
  generalize nxt bs 0 1 E.2 = X at hr3 ⊢
  intro e he
  rw [hr3, hr2, hr1] at he
  rcases List.mem_append.mp he with he | he
  · exact h e he
  · rw [List.mem_singleton] at he
    subst he
    refine ⟨h1, h2, ?_⟩
    dsimp only
    split
    · exact Or.inr rfl
    · exact Or.inl rfl
theorem loop_ok {P : pS → Prop} {g : pS → pS} (hg : ∀ s, P s → P (g s)) : ∀ (n : Nat) (s : pS), P s → P (hLoop g n s)
  | 0, _, h => h
  | n + 1, s, h => by
    unfold hLoop
    split
    · exact h
    · exact loop_ok hg n _ (hg s h)
theorem hSeal_ok {bs : List Int32} {s : pS} (h : ∀ e ∈ s.2.2.1.2.2.1, blw e 16) : ∀ e ∈ (hSeal bs s).2.2.1.2.2.1, blw e 16 := by
  unfold hSeal
  dsimp only
  have h1 := nxt_blw (bs := bs) (hi := 15) (n := 16) (s := s) (by decide) (by decide)
  have hr := nxt_rest bs 0 15 s
  generalize nxt bs 0 15 s = N at h1 hr ⊢
  have hr1 : (if N.2.2.2.1.2.2.1.any (fun e => e == N.1) then refS s.1 N.2 else N.2).2.2 = s.2.2 := by rw [refif_rest, hr]
  generalize (if N.2.2.2.1.2.2.1.any (fun e => e == N.1) then refS s.1 N.2 else N.2) = S at hr1 ⊢
  intro e he
  rw [hr1] at he
  rcases List.mem_append.mp he with he | he
  · exact h e he
  · rw [List.mem_singleton] at he
    subst he
    exact h1
/-- all keys differ -/
def kOk (R : List (Int32 × Int32 × List Int32)) : Prop := ∀ (i j : Nat) (x y : Int32 × Int32 × List Int32), R[i]? = some x → R[j]? = some y → x.1 = y.1 → i = j
theorem hRow_k {bs : List Int32} {s : pS} (hf : (hRow bs s).2.1 = none) (h : kOk s.2.2.1.2.2.2) : kOk (hRow bs s).2.2.1.2.2.2 := by
  generalize hN : nxt bs 0 255 s = N
  generalize hs1 : (if (N.2.2.2.1.2.2.2.findIdx? (fun e => e.1 == N.1)).isSome then refS s.1 N.2 else N.2) = s1
  generalize hP : nxt bs 0 2 s1 = P
  generalize hL : hPair bs 120 (P.2.1, P.2.2.1, (P.2.2.2.1.1, P.2.2.2.1.2.1, P.2.2.2.1.2.2.1, P.2.2.2.1.2.2.2 ++ [(N.1, P.1, [])]), P.2.2.2.2) = Ln
  generalize hZ : hPair bs 250 (Ln.2.1, Ln.2.2.1, Ln.2.2.2.1, Ln.2.2.2.2.1.set s.2.2.1.2.2.2.length Ln.1, Ln.2.2.2.2.2) = Zn
  have hR : hRow bs s = (Zn.2.1, Zn.2.2.1, Zn.2.2.2.1, Zn.2.2.2.2.1, Zn.2.2.2.2.2.set s.2.2.1.2.2.2.length Zn.1) := by
    unfold hRow
    simp only [hN, hs1, hP, hL, hZ]
  have e0 : N.2.2.2 = s.2.2 := by rw [← hN, nxt_rest]
  have e1 : s1.2.2 = s.2.2 := by rw [← hs1, refif_rest, e0]
  have e2 : P.2.2.2 = s.2.2 := by rw [← hP, nxt_rest, e1]
  have e3 : Ln.2.2.2 = ((P.2.2.2.1.1, P.2.2.2.1.2.1, P.2.2.2.1.2.2.1, P.2.2.2.1.2.2.2 ++ [(N.1, P.1, [])]), P.2.2.2.2) := by rw [← hL, hPair_rest]
  have e4 : Zn.2.2.2 = (Ln.2.2.2.1, Ln.2.2.2.2.1.set s.2.2.1.2.2.2.length Ln.1, Ln.2.2.2.2.2) := by rw [← hZ, hPair_rest]
  have hrows : (hRow bs s).2.2.1.2.2.2 = s.2.2.1.2.2.2 ++ [(N.1, P.1, [])] := by
    rw [hR]
    dsimp only
    rw [e4, e3, e2]
  have f1 : Zn.2.2.1 = none := by rw [hR] at hf; exact hf
  have f2 := (hPair_get (bs := bs) (hi := 250) (by rw [hZ]; exact f1)).1
  dsimp only at f2
  have f3 := (hPair_get (bs := bs) (hi := 120) (by rw [hL]; exact f2)).1
  dsimp only at f3
  have f4 := (nxt_get (bs := bs) (lo := 0) (hi := 2) (s := s1) (by rw [hP]; exact f3)).1
  rw [← hs1] at f4
  have f5 := (refif_fine f4).1
  rw [e0, Bool.not_eq_true] at f5
  have f6 : s.2.2.1.2.2.2.findIdx? (fun e => e.1 == N.1) = none := by
    cases hq : s.2.2.1.2.2.2.findIdx? (fun e => e.1 == N.1) with
    | none => rfl
    | some v => rw [hq] at f5; cases f5
  rw [List.findIdx?_eq_none_iff] at f6
  rw [hrows]
  intro i j x y hx hy hxy
  rcases snoc_get hx with ⟨hi, hx'⟩ | ⟨hi, rfl⟩
  · rcases snoc_get hy with ⟨hj, hy'⟩ | ⟨hj, rfl⟩
    · exact h i j x y hx' hy' hxy
    · have := f6 x (List.mem_of_getElem? hx')
      dsimp only at hxy
      rw [hxy] at this
      simp at this
  · rcases snoc_get hy with ⟨hj, hy'⟩ | ⟨hj, rfl⟩
    · have := f6 y (List.mem_of_getElem? hy')
      dsimp only at hxy
      rw [← hxy] at this
      simp at this
    · omega
theorem hRow_fine (bs : List Int32) (s : pS) (h : (hRow bs s).2.1 = none) : s.2.1 = none := by
  cases hw : s.2.1 with
  | none => rfl
  | some w =>
    have := (hRow_w (bs := bs) (s := s) (by rw [hw]; rfl)).2
    rw [h, hw] at this
    cases this
theorem hRows_k {bs : List Int32} : ∀ (n : Nat) (s : pS), (hLoop (hRow bs) n s).2.1 = none → kOk s.2.2.1.2.2.2 → kOk (hLoop (hRow bs) n s).2.2.1.2.2.2
  | 0, _, _, h => h
  | n + 1, s, hf, h => by
    cases hw : s.2.1 with
    | some w =>
      have e : hLoop (hRow bs) (n + 1) s = s := if_pos (by rw [hw]; rfl)
      rw [e]
      exact h
    | none =>
      have e : hLoop (hRow bs) (n + 1) s = hLoop (hRow bs) n (hRow bs s) := if_neg (by rw [hw]; decide)
      rw [e] at hf ⊢
      exact hRows_k n _ hf (hRow_k (hLoop_fine (hRow_fine bs) n _ hf) h)
theorem headS_k {bs : List Int32} {K : cV} {ln sz : List Int32} (h : (headS bs K ln sz).2.1 = none) : kOk (headS bs K ln sz).2.2.1.2.2.2 := by
  unfold headS at h ⊢
  generalize hs : hSeals bs (hNeeds bs (hTitle bs (0, none, ((K.1.1, K.1.2.1, K.1.2.2.1, 0), [], [], []), ln, sz))) = s at h ⊢
  have e : s.2.2.1.2.2.2 = [] := by rw [← hs, hSeals_t.2.2.1, hNeeds_t.2.1, (hTitle_rest bs _).1]
  unfold hRows at h ⊢
  refine hRows_k _ _ h (fun i j x y hx => ?_)
  rw [nxt_rest, e] at hx
  cases hx
theorem headS_T (bs : List Int32) (K : cV) (ln sz : List Int32) : blw (headS bs K ln sz).2.2.1.1.1 64 ∧ blw (headS bs K ln sz).2.2.1.1.2.1 100 ∧ blw (headS bs K ln sz).2.2.1.1.2.2.1 2 := by
  unfold headS
  rw [hRows_t.1, hSeals_t.1, hNeeds_t.1]
  exact hTitle_ok bs _
theorem headS_N (bs : List Int32) (K : cV) (ln sz : List Int32) : okN (headS bs K ln sz).2.2.1.2.1 := by
  unfold headS
  rw [hRows_t.2.1, hSeals_t.2.1]
  unfold hNeeds
  refine loop_ok (P := fun s => okN s.2.2.1.2.1) (fun s h => hNeed_ok h) _ _ (fun e he => ?_)
  rw [nxt_rest, (hTitle_rest bs _).1] at he
  cases he
theorem headS_S (bs : List Int32) (K : cV) (ln sz : List Int32) : ∀ e ∈ (headS bs K ln sz).2.2.1.2.2.1, blw e 16 := by
  unfold headS
  rw [hRows_t.2.2]
  unfold hSeals
  refine loop_ok (P := fun s => ∀ e ∈ s.2.2.1.2.2.1, blw e 16) (fun s h => hSeal_ok h) _ _ (fun e he => ?_)
  rw [nxt_rest, hNeeds_t.2.1, (hTitle_rest bs _).1] at he
  cases he
/-- a fine pack keeps the bounds -/
theorem parse_ok {bs : List Int32} {K : cV} {ln sz : List Int32} {f : Nat → Int} (hb : bs.length ≤ 700) (hbb : ∀ b ∈ bs, blw b 256) (h : HD bs (headS bs K ln sz) f) (hf : (parse bs K ln sz).2.1 = none) : okK (parse bs K ln sz).2.2.1 ∧ keysOk (parse bs K ln sz).2.2.1 := by
  have hLD := HD_LD hb h hf
  have hT := headS_T bs K ln sz
  have hN := headS_N bs K ln sz
  have hS := headS_S bs K ln sz
  have hk := headS_k (bs := bs) (K := K) (ln := ln) (sz := sz)
  rw [parse_head] at hf hLD ⊢
  rw [hEndS_rest] at hLD ⊢
  have hf1 := hEndS_f hf
  have hk := hk (hPages_f hf1)
  generalize headS bs K ln sz = H at *
  have ht := hPages_t (bs := bs) H.2.2.1.2.2.2.length 0 H
  have hl := hPages_len (bs := bs) H.2.2.1.2.2.2.length 0 H
  generalize hPages bs H.2.2.1.2.2.2.length 0 H = P at *
  obtain ⟨a1, a2, a3, a4, a5, a6, a7, a8, a9, a10, a11⟩ := hLD
  have hg := fun i e he => pgs_get (bs := bs) P.2.2.1.2.2.2 0 _ i e a11 he
  refine ⟨⟨by rw [ht.1]; exact hT.1, by rw [ht.1]; exact hT.2.1, by rw [ht.1]; exact hT.2.2, a4, by rw [ht.2.1]; exact hN, a7, by rw [ht.2.2]; exact hS, a9, fun e he => ?_⟩, fun i j x y hx hy hxy => ?_⟩
  · obtain ⟨i, hi⟩ := List.getElem?_of_mem he
    obtain ⟨g1, g2, g3, g4⟩ := hg i e hi
    refine ⟨hbb _ (List.mem_of_getElem? g1), ?_, g3, fun x hx => hbb x (g4 x hx)⟩
    rcases g2 with g2 | g2 | g2 <;> rw [g2] <;> exact ⟨by decide, by decide⟩
  · have hr := h.2.2.2.2.2.2.2.1
    have hxl := (List.getElem?_eq_some_iff.mp hx).1
    have hyl := (List.getElem?_eq_some_iff.mp hy).1
    obtain ⟨x', hx'⟩ := lt_get (l := H.2.2.1.2.2.2) (j := i) (by omega)
    obtain ⟨y', hy'⟩ := lt_get (l := H.2.2.1.2.2.2) (j := j) (by omega)
    have b1 := (hg i x hx).1
    have b2 := (hg j y hy).1
    have b3 := (hr i x' hx').1
    have b4 := (hr j y' hy').1
    rw [ht.2.1, ht.2.2, Nat.zero_add] at b1 b2
    rw [b1] at b3
    rw [b2] at b4
    have b3 := Option.some.inj b3
    have b4 := Option.some.inj b4
    exact hk i j x' y' hx' hy' (by rw [← b3, ← b4]; exact hxy)
