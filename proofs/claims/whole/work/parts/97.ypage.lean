/-- one step of a page: from place p with the bytes o to place p' with the bytes o' -/
def dc1 (bs : List Int32) (k : Int32) (p : Nat) (o : List Int32) (p' : Nat) (o' : List Int32) : Prop :=
  (k = 0 ∧ ∃ b, bs[p]? = some b ∧ p' = p + 1 ∧ o' = o ++ [b]) ∨
  (k = 1 ∧ ∃ (n : Nat) (b : Int32), 1 ≤ n ∧ n ≤ 120 ∧ bs[p]? = some (nI n) ∧ bs[p + 1]? = some b ∧ p' = p + 2 ∧ o' = o ++ List.replicate n b) ∨
  (k = 2 ∧ ∃ (q : Nat) (w : List Int32), bs[p]? = some (nI q) ∧ q < 128 ∧ w.length = q + 1 ∧ (∀ (i : Nat) (x : Int32), w[i]? = some x → bs[p + 1 + i]? = some x) ∧ p' = p + q + 2 ∧ o' = o ++ w) ∨
  (k = 2 ∧ ∃ q m : Nat, bs[p]? = some (nI q) ∧ 128 ≤ q ∧ q ≤ 255 ∧ bs[p + 1]? = some (nI m) ∧ 1 ≤ m ∧ m ≤ o.length ∧ p' = p + 2 ∧ o' = rep m (q - 125) o)
def dcs (bs : List Int32) (k : Int32) (lr : Nat) : Nat → Nat → List Int32 → Nat → List Int32 → Prop
  | 0, p, o, p', o' => p' = p ∧ o' = o
  | n + 1, p, o, p', o' => ∃ p1 o1, dc1 bs k p o p1 o1 ∧ o1.length ≤ lr ∧ dcs bs k lr n p1 o1 p' o'
theorem dc1_len {bs : List Int32} {k : Int32} {p p' : Nat} {o o' : List Int32} (h : dc1 bs k p o p' o') : o.length < o'.length := by
  rcases h with ⟨-, b, -, -, rfl⟩ | ⟨-, n, b, h1, -, -, -, -, rfl⟩ | ⟨-, q, w, -, -, h1, -, -, rfl⟩ | ⟨-, q, m, -, h1, -, -, -, -, -, rfl⟩
  · simp
  · simp; omega
  · simp; omega
  · rw [rep_len]; omega
theorem srow_get {s : pS} {k : Nat} {ky pk : Int32} {o x : List Int32} (h : s.2.2.1.2.2.2[k]? = some (ky, pk, o)) : (srow k x s).2.2.1.2.2.2[k]? = some (ky, pk, x) := rset_get h x
theorem hPlain_by {bs : List Int32} {k : Nat} {ky pk : Int32} (hk : k < 8) : ∀ (n : Nat) (s : pS) (o : List Int32), s.2.2.1.2.2.2[k]? = some (ky, pk, o) → (hLoop (hPlain1 bs k) n s).2.1 = none → (hLoop (hPlain1 bs k) n s).1 = s.1 + n ∧ ∃ w : List Int32, w.length = n ∧ (∀ (i : Nat) (x : Int32), w[i]? = some x → bs[s.1 + i]? = some x) ∧ (hLoop (hPlain1 bs k) n s).2.2.1.2.2.2[k]? = some (ky, pk, o ++ w)
  | 0, s, o, h, _ => ⟨rfl, [], rfl, fun i x hx => by simp at hx, by rw [List.append_nil]; exact h⟩
  | n + 1, s, o, h, hf => by
    cases hw : s.2.1 with
    | some v =>
      have e : hLoop (hPlain1 bs k) (n + 1) s = s := if_pos (by rw [hw]; rfl)
      rw [e, hw] at hf
      cases hf
    | none =>
      have e : hLoop (hPlain1 bs k) (n + 1) s = hLoop (hPlain1 bs k) n (hPlain1 bs k s) := if_neg (by rw [hw]; decide)
      rw [e] at hf ⊢
      have hf1 := hLoop_fine (g := hPlain1 bs k) (fun s hs => (nxt_get (show (nxt bs 0 255 s).2.2.1 = none from hs)).1) n _ hf
      obtain ⟨-, g2, g3, -⟩ := nxt_get (show (nxt bs 0 255 s).2.2.1 = none from hf1)
      have hrest := nxt_rest bs 0 255 s
      have e1 : (hPlain1 bs k s).1 = s.1 + 1 := by show (nxt bs 0 255 s).2.1 = _; rw [g3]
      have e2 : (hPlain1 bs k s).2.2.1.2.2.2[k]? = some (ky, pk, o ++ [(nxt bs 0 255 s).1]) := by
        unfold hPlain1
        rw [rwb_eq h hk]
        exact srow_get (by rw [hrest]; exact h)
      obtain ⟨i1, w, i2, i3, i4⟩ := hPlain_by hk n _ _ e2 hf
      refine ⟨by rw [i1, e1]; omega, (nxt bs 0 255 s).1 :: w, by simp [i2], fun i x hx => ?_, by rw [i4, List.append_assoc]; rfl⟩
      cases i with
      | zero => cases hx; exact g2
      | succ i =>
        have := i3 i x hx
        rw [e1] at this
        rw [← this]
        congr 1
        omega
theorem dcs_plain {bs : List Int32} {lr : Nat} : ∀ (w : List Int32) (p : Nat) (o : List Int32), (∀ (i : Nat) (x : Int32), w[i]? = some x → bs[p + i]? = some x) → o.length + w.length ≤ lr → dcs bs 0 lr w.length p o (p + w.length) (o ++ w)
  | [], p, o, _, _ => ⟨rfl, by simp⟩
  | b :: w, p, o, h, hl => by
    simp only [List.length_cons] at hl ⊢
    refine ⟨p + 1, o ++ [b], Or.inl ⟨rfl, b, h 0 b rfl, rfl, rfl⟩, by simp; omega, ?_⟩
    have := dcs_plain (bs := bs) (lr := lr) w (p + 1) (o ++ [b]) (fun i x hx => by have := h (i + 1) x hx; rw [← this]; congr 1; omega) (by simp; omega)
    have e1 : p + (w.length + 1) = p + 1 + w.length := by omega
    have e2 : o ++ b :: w = o ++ [b] ++ w := by simp
    rw [e1, e2]
    exact this
theorem hUntil_fine {g : pS → pS} {e : Nat} (hg : ∀ s, (g s).2.1 = none → s.2.1 = none) : ∀ (n : Nat) (s : pS), (hUntil g e n s).2.1 = none → s.2.1 = none
  | 0, _, h => h
  | n + 1, s, h => by
    by_cases c : e ≤ s.1 ∨ s.2.1.isSome = true
    · have : hUntil g e (n + 1) s = s := if_pos c
      rw [this] at h
      exact h
    · have : hUntil g e (n + 1) s = hUntil g e n (g s) := if_neg c
      rw [this] at h
      exact hg s (hUntil_fine hg n _ h)
/-- a page that is read by steps, each fine and none beyond the end -/
theorem hUntil_dcs {bs : List Int32} {k e lr : Nat} {ky pk : Int32} {g : pS → pS} (hg : ∀ s, (g s).2.1 = none → s.2.1 = none)
    (st : ∀ (s : pS) (o : List Int32), s.2.2.1.2.2.2[k]? = some (ky, pk, o) → o.length ≤ lr → s.1 < e → (g s).2.1 = none → ∃ o', (g s).2.2.1.2.2.2[k]? = some (ky, pk, o') ∧ dc1 bs pk s.1 o (g s).1 o' ∧ o'.length ≤ lr ∧ s.1 < (g s).1 ∧ (g s).1 ≤ e) :
    ∀ (n : Nat) (s : pS) (o : List Int32), s.2.2.1.2.2.2[k]? = some (ky, pk, o) → o.length ≤ lr → s.1 ≤ e → e ≤ s.1 + n → (hUntil g e n s).2.1 = none → ∃ (m : Nat) (o' : List Int32), (hUntil g e n s).1 = e ∧ (hUntil g e n s).2.2.1.2.2.2[k]? = some (ky, pk, o') ∧ o'.length ≤ lr ∧ dcs bs pk lr m s.1 o e o'
  | 0, s, o, h, ho, h1, h2, hf => ⟨0, o, by show s.1 = e; omega, h, ho, by omega, rfl⟩
  | n + 1, s, o, h, ho, h1, h2, hf => by
    by_cases c : e ≤ s.1
    · have : hUntil g e (n + 1) s = s := if_pos (Or.inl c)
      rw [this] at hf ⊢
      exact ⟨0, o, by omega, h, ho, by omega, rfl⟩
    · have hn := hUntil_fine hg (n + 1) s hf
      have : hUntil g e (n + 1) s = hUntil g e n (g s) := if_neg (by rw [hn]; simp; omega)
      rw [this] at hf ⊢
      have hf1 := hUntil_fine hg n _ hf
      obtain ⟨o1, a1, a2, a3, a4, a5⟩ := st s o h ho (by omega) hf1
      obtain ⟨m, o', b1, b2, b3, b4⟩ := hUntil_dcs hg st n (g s) o1 a1 a3 a5 (by omega) hf
      exact ⟨m + 1, o', b1, b2, b3, (g s).1, o1, a2, a3, b4⟩
theorem hPairs1_fine {bs : List Int32} {k e : Nat} {x : Int32} (s : pS) (h : (hPairs1 bs k e x s).2.1 = none) : s.2.1 = none ∧ (nxt bs 0 255 (nxt bs 1 (if s.1 + 1 = e then 0 else x - nI (rwb s k).length) s).2).2.2.1 = none := by
  unfold hPairs1 at h
  dsimp only at h
  generalize hO : nxt bs 1 (if s.1 + 1 = e then 0 else x - nI (rwb s k).length) s = O at h ⊢
  generalize hY : nxt bs 0 255 O.2 = Y at h ⊢
  have h2 : Y.2.2.1 = none := by
    split at h
    · exact h
    · exact h
  refine ⟨?_, h2⟩
  have h3 := (nxt_get (show (nxt bs 0 255 O.2).2.2.1 = none by rw [hY]; exact h2)).1
  exact (nxt_get (show (nxt bs 1 _ s).2.2.1 = none by rw [hO]; exact h3)).1
theorem hPairs1_st {bs : List Int32} {k e lr : Nat} {ky : Int32} (hk : k < 8) (hlr : lr ≤ 120) (s : pS) (o : List Int32) (h : s.2.2.1.2.2.2[k]? = some (ky, 1, o)) (ho : o.length ≤ lr) (hs : s.1 < e) (hf : (hPairs1 bs k e (nI lr) s).2.1 = none) : ∃ o', (hPairs1 bs k e (nI lr) s).2.2.1.2.2.2[k]? = some (ky, 1, o') ∧ dc1 bs 1 s.1 o (hPairs1 bs k e (nI lr) s).1 o' ∧ o'.length ≤ lr ∧ s.1 < (hPairs1 bs k e (nI lr) s).1 ∧ (hPairs1 bs k e (nI lr) s).1 ≤ e := by
  obtain ⟨-, h2⟩ := hPairs1_fine s hf
  have hrw := rwb_eq h hk
  dsimp only at hrw
  have hp : hPairs1 bs k e (nI lr) s = srow k (rwb s k ++ List.replicate (nxt bs 1 (if s.1 + 1 = e then 0 else nI lr - nI (rwb s k).length) s).1.toInt.toNat (nxt bs 0 255 (nxt bs 1 (if s.1 + 1 = e then 0 else nI lr - nI (rwb s k).length) s).2).1) (nxt bs 0 255 (nxt bs 1 (if s.1 + 1 = e then 0 else nI lr - nI (rwb s k).length) s).2).2 := by
    unfold hPairs1
    dsimp only
    exact if_neg (by rw [h2]; decide)
  obtain ⟨g1, g2, g3, -⟩ := nxt_get h2
  obtain ⟨-, k2, k3, k4, k5⟩ := nxt_get g1
  rw [hp]
  rw [hrw] at g2 g3 k2 k3 k4 k5 ⊢
  generalize nxt bs 1 (if s.1 + 1 = e then 0 else nI lr - nI o.length) s = O at g2 g3 k2 k3 k4 k5 ⊢
  have hrest := nxt_rest bs 0 255 O.2
  generalize nxt bs 0 255 O.2 = Y at g2 g3 hrest ⊢
  have z1 : (1 : Int32).toInt = 1 := rfl
  have z0 : (0 : Int32).toInt = 0 := rfl
  have hne : s.1 + 1 ≠ e := fun hc => by
    rw [if_pos hc] at k5
    rw [i_le] at k4 k5
    omega
  rw [if_neg hne, nI_subN ho, i_le, i_n (by omega)] at k5
  rw [i_le] at k4
  have hO1 : O.2.1 = s.1 + 1 := by rw [k3]
  have hY1 : Y.2.1 = s.1 + 2 := by rw [g3]; show O.2.1 + 1 = _; omega
  have hOv : O.1 = nI O.1.toInt.toNat := toN (by omega)
  have hrow : Y.2.2.2.1.2.2.2[k]? = some (ky, 1, o) := by rw [hrest, k3]; exact h
  refine ⟨o ++ List.replicate O.1.toInt.toNat Y.1, srow_get hrow, Or.inr (Or.inl ⟨rfl, O.1.toInt.toNat, Y.1, by omega, by omega, by rw [← hOv]; exact k2, by rw [← hO1]; exact g2, hY1, rfl⟩), by rw [List.length_append, List.length_replicate]; omega, by show s.1 < Y.2.1; omega, by show Y.2.1 ≤ e; omega⟩
theorem hOps1_cases {bs : List Int32} {k e : Nat} {x : Int32} {s : pS} (h : (hOps1 bs k e x s).2.1 = none) : ∃ v : Int32, s.2.1 = none ∧ bs[s.1]? = some v ∧ 0 ≤ v.toInt ∧ v.toInt ≤ 255 ∧ ¬ (x - nI (rwb s k).length < opSt v ∨ nI e < nI (s.1 + 1) + opBh v) ∧ hOps1 bs k e x s = if 128 ≤ v then hCopy bs k (opSt v).toInt.toNat (s.1 + 1, none, s.2.2) else hPlain bs k (opSt v).toInt.toNat (s.1 + 1, none, s.2.2) := by
  unfold hOps1 at h ⊢
  dsimp only at h ⊢
  have hng : ∀ N : Int32 × pS, (if 128 ≤ N.1 then hCopy bs k (opSt N.1).toInt.toNat (if x - nI (rwb s k).length < opSt N.1 ∨ nI e < nI N.2.1 + opBh N.1 then refS s.1 N.2 else N.2) else hPlain bs k (opSt N.1).toInt.toNat (if x - nI (rwb s k).length < opSt N.1 ∨ nI e < nI N.2.1 + opBh N.1 then refS s.1 N.2 else N.2)).2.1 = none → (if x - nI (rwb s k).length < opSt N.1 ∨ nI e < nI N.2.1 + opBh N.1 then refS s.1 N.2 else N.2).2.1 = none := by
    intro N hN
    generalize (if x - nI (rwb s k).length < opSt N.1 ∨ nI e < nI N.2.1 + opBh N.1 then refS s.1 N.2 else N.2) = s1 at hN ⊢
    split at hN
    · unfold hCopy at hN
      dsimp only at hN
      have : (nxt bs 1 (nI (rwb s1 k).length) s1).2.2.1 = none := by
        split at hN
        · exact hN
        · exact hN
      exact (nxt_get this).1
    · exact hLoop_fine (g := hPlain1 bs k) (fun s hs => (nxt_get (show (nxt bs 0 255 s).2.2.1 = none from hs)).1) _ _ hN
  have h1 := refif_fine (hng _ h)
  obtain ⟨g1, g2, g3, g4, g5⟩ := nxt_get h1.2
  have z0 : (0 : Int32).toInt = 0 := rfl
  have z255 : (255 : Int32).toInt = 255 := rfl
  rw [i_le] at g4 g5
  have e1 : (nxt bs 0 255 s).2.1 = s.1 + 1 := by rw [g3]
  refine ⟨(nxt bs 0 255 s).1, g1, g2, by omega, by omega, ?_, ?_⟩
  · rw [← e1]; exact h1.1
  · rw [if_neg h1.1, g3]
theorem hOps1_st {bs : List Int32} {k e lr : Nat} {ky : Int32} (hk : k < 8) (hlr : lr ≤ 120) (he : e ≤ 100000) (s : pS) (o : List Int32) (h : s.2.2.1.2.2.2[k]? = some (ky, 2, o)) (ho : o.length ≤ lr) (hs : s.1 < e) (hf : (hOps1 bs k e (nI lr) s).2.1 = none) : ∃ o', (hOps1 bs k e (nI lr) s).2.2.1.2.2.2[k]? = some (ky, 2, o') ∧ dc1 bs 2 s.1 o (hOps1 bs k e (nI lr) s).1 o' ∧ o'.length ≤ lr ∧ s.1 < (hOps1 bs k e (nI lr) s).1 ∧ (hOps1 bs k e (nI lr) s).1 ≤ e := by
  obtain ⟨v, h1, h2, h3, h4, h5, h6⟩ := hOps1_cases hf
  have hrw := rwb_eq h hk
  dsimp only at hrw
  obtain ⟨q, hq, hqv⟩ : ∃ q : Nat, q ≤ 255 ∧ v = nI q := ⟨v.toInt.toNat, by omega, toN h3⟩
  subst hqv
  rw [(op_q hq).1, (op_q hq).2, hrw, nI_subN ho, nI_addN, i_lt, i_lt, i_n (by omega), i_n (by unfold opM; split <;> omega), i_n (by omega), i_n (by unfold opB; split <;> omega)] at h5
  have hmt : (nI (opM q)).toInt.toNat = opM q := by rw [i_n (by unfold opM; split <;> omega)]; omega
  rw [(op_q hq).1, hmt] at h6
  by_cases c : 128 ≤ q
  · rw [if_pos ((le128 hq).mpr c)] at h6
    have e1 : opM q = q - 125 := if_pos c
    have e2 : opB q = 1 := if_pos c
    rw [e1] at h5 h6
    rw [e2] at h5
    have hs1 : ((s.1 + 1, none, s.2.2) : pS).2.2.1.2.2.2[k]? = some (ky, 2, o) := h
    have hrw1 := rwb_eq hs1 hk
    dsimp only at hrw1
    generalize hS : ((s.1 + 1, none, s.2.2) : pS) = S at h6 hs1 hrw1
    have hS1 : S.1 = s.1 + 1 := by rw [← hS]
    have hc : hCopy bs k (q - 125) S = if (nxt bs 1 (nI o.length) S).2.2.1.isSome then (nxt bs 1 (nI o.length) S).2 else srow k (rep (nxt bs 1 (nI o.length) S).1.toInt.toNat (q - 125) o) (nxt bs 1 (nI o.length) S).2 := by
      unfold hCopy
      rw [hrw1]
    have hN : (nxt bs 1 (nI o.length) S).2.2.1 = none := by
      rw [h6, hc] at hf
      split at hf
      · exact hf
      · exact hf
    rw [if_neg (by rw [hN]; decide)] at hc
    obtain ⟨-, k2, k3, k4, k5⟩ := nxt_get hN
    have hrest := nxt_rest bs 1 (nI o.length) S
    have z1 : (1 : Int32).toInt = 1 := rfl
    rw [i_le] at k4 k5
    rw [i_n (by omega)] at k5
    rw [h6, hc]
    generalize nxt bs 1 (nI o.length) S = X at k2 k3 k4 k5 hrest ⊢
    have hX : X.1 = nI X.1.toInt.toNat := toN (by omega)
    have hX1 : X.2.1 = s.1 + 2 := by rw [k3]; show S.1 + 1 = _; omega
    refine ⟨rep X.1.toInt.toNat (q - 125) o, srow_get (by rw [hrest]; exact hs1), Or.inr (Or.inr (Or.inr ⟨rfl, q, X.1.toInt.toNat, h2, c, hq, by rw [← hX, ← hS1]; exact k2, by omega, by omega, hX1, rfl⟩)), by rw [rep_len]; omega, by show s.1 < X.2.1; omega, by show X.2.1 ≤ e; omega⟩
  · rw [if_neg (fun hc => c ((le128 hq).mp hc))] at h6
    have e1 : opM q = q + 1 := if_neg c
    have e2 : opB q = q + 1 := if_neg c
    rw [e1] at h5 h6
    rw [e2] at h5
    have hs1 : ((s.1 + 1, none, s.2.2) : pS).2.2.1.2.2.2[k]? = some (ky, 2, o) := h
    rw [h6] at hf ⊢
    obtain ⟨b1, w, b2, b3, b4⟩ := hPlain_by hk (q + 1) _ o hs1 hf
    have b1' : (hPlain bs k (q + 1) (s.1 + 1, none, s.2.2)).1 = s.1 + 1 + (q + 1) := b1
    exact ⟨o ++ w, b4, Or.inr (Or.inr (Or.inl ⟨rfl, q, w, h2, by omega, b2, b3, by rw [b1']; omega, rfl⟩)), by simp; omega, by omega, by omega⟩
theorem hLack_f {k : Nat} {x : Int32} {s : pS} (h : (hLack k x s).2.1 = none) : hLack k x s = s ∧ ¬ 0 < x - nI (rwb s k).length := by
  unfold hLack at h ⊢
  split at h
  · have := refS_some s.1 s
    rw [h] at this
    cases this
  · next c => exact ⟨if_neg c, c⟩
theorem lack_full {lr l : Nat} (h : l ≤ lr) (hlr : lr ≤ 120) (hn : ¬ (0 : Int32) < nI lr - nI l) : l = lr := by
  rw [nI_subN h, i_lt, i_n (by omega)] at hn
  have z0 : (0 : Int32).toInt = 0 := rfl
  omega
/-- a page that is fine -/
theorem hPage_f {bs : List Int32} {k l z : Nat} {ky pk : Int32} {s : pS} (hk : k < 8) (h : s.2.2.1.2.2.2[k]? = some (ky, pk, [])) (hl : s.2.2.2.1[k]? = some (nI l)) (hz : s.2.2.2.2[k]? = some (nI z)) (hl1 : l ≤ 120) (hz1 : z ≤ 250) (hs : s.1 ≤ 5000) (hpk : pk = 0 ∨ pk = 1 ∨ pk = 2) (hf : (hPage bs k s).2.1 = none) : ∃ (m : Nat) (o : List Int32), (hPage bs k s).1 = s.1 + z ∧ (hPage bs k s).2.2.1.2.2.2[k]? = some (ky, pk, o) ∧ o.length = l ∧ dcs bs pk l m s.1 [] (s.1 + z) o := by
  have hzz : (nI z).toInt = z := i_n (by omega)
  have hPk : hPage bs k s = if pk = 1 then hPairs bs k z (nI l) s else if pk = 2 then hOps bs k z (nI l) s else hPlainPage bs k (nI l) (nI z) s := by
    unfold hPage
    dsimp only
    rw [List.getD_eq_getElem?_getD, List.getD_eq_getElem?_getD, List.getD_eq_getElem?_getD, hl, hz, h]
    dsimp only [Option.getD_some]
    rw [hzz, Int.toNat_natCast]
  rw [hPk] at hf ⊢
  rcases hpk with rfl | rfl | rfl
  · rw [if_neg (by decide), if_neg (by decide)] at hf ⊢
    have hzl : nI z = nI l := by
      by_cases c : nI z = nI l
      · exact c
      · have : hPlainPage bs k (nI l) (nI z) s = refS s.1 s := if_neg c
        rw [this] at hf
        have := refS_some s.1 s
        rw [hf] at this
        cases this
    have e : hPlainPage bs k (nI l) (nI z) s = hLoop (hPlain1 bs k) z s := by
      unfold hPlainPage hPlain
      rw [if_pos hzl, hzz, Int.toNat_natCast]
    have hzl' : z = l := (nI_inj (by omega) (by omega)).mp hzl
    rw [e] at hf ⊢
    obtain ⟨b1, w, b2, b3, b4⟩ := hPlain_by hk z s [] h hf
    have := dcs_plain (bs := bs) (lr := l) w s.1 [] b3 (by simp; omega)
    rw [b2] at this
    exact ⟨_, w, b1, b4, by omega, this⟩
  · rw [if_pos rfl] at hf ⊢
    obtain ⟨e1, e2⟩ := hLack_f hf
    unfold hPairs at hf ⊢
    rw [e1] at hf ⊢
    obtain ⟨m, o, c1, c2, c3, c4⟩ := hUntil_dcs (bs := bs) (g := hPairs1 bs k (s.1 + z) (nI l)) (lr := l) (fun s hs => (hPairs1_fine s hs).1) (hPairs1_st hk hl1) 250 s [] h (by simp) (by omega) (by omega) hf
    rw [rwb_eq c2 hk] at e2
    exact ⟨m, o, c1, c2, lack_full c3 hl1 e2, c4⟩
  · rw [if_neg (by decide), if_pos rfl] at hf ⊢
    obtain ⟨e1, e2⟩ := hLack_f hf
    unfold hOps at hf ⊢
    rw [e1] at hf ⊢
    obtain ⟨m, o, c1, c2, c3, c4⟩ := hUntil_dcs (bs := bs) (g := hOps1 bs k (s.1 + z) (nI l)) (lr := l) (fun s hs => (hOps1_cases hs).choose_spec.1) (hOps1_st hk hl1 (by omega)) 250 s [] h (by simp) (by omega) (by omega) hf
    rw [rwb_eq c2 hk] at e2
    exact ⟨m, o, c1, c2, lack_full c3 hl1 e2, c4⟩
/-- rows as a pack's bytes give them, from row k and place p on -/
def pgs (bs : List Int32) (fr : Nat) : Nat → Nat → List (Int32 × Int32 × List Int32) → Prop
  | _, _, [] => True
  | k, p, e :: es => bs[fr + k * 6]? = some e.1 ∧ bs[fr + k * 6 + 1]? = some e.2.1 ∧ (e.2.1 = 0 ∨ e.2.1 = 1 ∨ e.2.1 = 2) ∧ bs[fr + k * 6 + 3]? = some (nI e.2.2.length) ∧ e.2.2.length ≤ 120 ∧ ∃ z m : Nat, z ≤ 250 ∧ bs[fr + k * 6 + 5]? = some (nI z) ∧ dcs bs e.2.1 e.2.2.length m p [] (p + z) e.2.2 ∧ pgs bs fr (k + 1) (p + z) es
theorem hPages_row {bs : List Int32} : ∀ (n k : Nat) (s : pS) (j : Nat), j < k → (hPages bs n k s).2.2.1.2.2.2[j]? = s.2.2.1.2.2.2[j]?
  | 0, _, _, _, _ => rfl
  | n + 1, k, s, j, h => by
    unfold hPages
    split
    · rfl
    · rw [hPages_row n (k + 1) _ j (by omega)]
      exact (sbut.page (bs := bs) (k := k) (s := s)).2.2.2.2.2 j (by omega)
theorem hPages_len {bs : List Int32} : ∀ (n k : Nat) (s : pS), (hPages bs n k s).2.2.1.2.2.2.length = s.2.2.1.2.2.2.length
  | 0, _, _ => rfl
  | n + 1, k, s => by
    unfold hPages
    split
    · rfl
    · rw [hPages_len n (k + 1) _]
      exact (sbut.page (bs := bs) (k := k) (s := s)).2.2.2.2.1
theorem hPages_pgs {bs : List Int32} {fr : Nat} : ∀ (n k : Nat) (s : pS), k + n = s.2.2.1.2.2.2.length → s.2.2.1.2.2.2.length ≤ 8 → s.1 + 250 * n ≤ 3000 → (∀ (i : Nat) (e : Int32 × Int32 × List Int32), k ≤ i → s.2.2.1.2.2.2[i]? = some e → bs[fr + i * 6]? = some e.1) → PG bs fr k s → (hPages bs n k s).2.1 = none → pgs bs fr k s.1 ((hPages bs n k s).2.2.1.2.2.2.drop k)
  | 0, k, s, h1, _, _, _, _, _ => by
    have : (hPages bs 0 k s).2.2.1.2.2.2.drop k = [] := List.drop_eq_nil_of_le (by show s.2.2.1.2.2.2.length ≤ k; omega)
    rw [this]
    trivial
  | n + 1, k, s, h1, h8, hb, hky, hg, hf => by
    have hn := hPages_f hf
    have e : hPages bs (n + 1) k s = hPages bs n (k + 1) (hPage bs k s) := if_neg (by rw [hn]; decide)
    rw [e] at hf ⊢
    obtain ⟨w, hw⟩ := lt_get (l := s.2.2.1.2.2.2) (j := k) (by omega)
    obtain ⟨ky, pk, o0⟩ := w
    obtain ⟨p1, p2, p3, ⟨l, l1, l2, l3⟩, z, z1, z2, z3⟩ := hg k _ (by omega) hw
    dsimp only at p1 p2 p3
    subst p3
    obtain ⟨m, o, q1, q2, q3, q4⟩ := hPage_f (bs := bs) (by omega) hw l2 z2 l3 z3 (by omega) p2 (hPages_f hf)
    have hbut := sbut.page (bs := bs) (k := k) (s := s)
    have ih := hPages_pgs (bs := bs) (fr := fr) n (k + 1) (hPage bs k s) (by rw [hbut.2.2.2.2.1]; omega) (by rw [hbut.2.2.2.2.1]; omega) (by rw [q1]; omega) (fun i e hi he => by rw [hbut.2.2.2.2.2 i (by omega)] at he; exact hky i e (by omega) he) (hg.next hbut) hf
    have hrow : (hPages bs n (k + 1) (hPage bs k s)).2.2.1.2.2.2[k]? = some (ky, pk, o) := by rw [hPages_row n (k + 1) _ k (by omega)]; exact q2
    rw [drop_cons hrow]
    subst q3
    refine ⟨hky k (ky, pk, []) (by omega) hw, p1, p2, l1, l3, z, m, z3, z1, q4, ?_⟩
    rw [q1] at ih
    exact ih
