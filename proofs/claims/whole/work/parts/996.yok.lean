/-! ===== the bounds are kept ===== -/
def OK (Z : pZ) : Prop := okK Z.1 ∧ okP Z.2.2.1 ∧ okT Z.2.2.2.1 ∧ (∀ b, b < 16 → okBk (Z.2.2.2.2.1 b)) ∧ okS Z.2.2.2.2.2.1 ∧ okM Z.2.2.2.2.2.1
theorem OK.rows {Z : pZ} (h : OK Z) : okRows Z.1.2.2.2 := by
  intro e he x hx hc
  have := (h.1.2.2.2.2.2.2.2.2 e he).2.2.2 x hx
  rw [hc] at this
  exact absurd this.1 (by decide)
theorem OK.book {Z : pZ} (h : OK Z) : ∀ b, b < 16 → okBook (Z.2.2.2.2.1 b) := by
  intro b hb
  have hV := h.2.2.2.1 b hb
  refine ⟨hV.2.2.2.1, ?_⟩
  have := pj_le hV 88 (Nat.le_refl _)
  rw [List.take_of_length_le (by rw [hV.1]; exact Nat.le_refl _)] at this
  omega
theorem OK.same {Z : pZ} {w : Int32} (h : OK Z) : OK ((w, Z) : Int32 × pZ).2 := h
theorem k_draft {Z : pZ} {x y m : Int32} (h : OK Z) : OK (F_draft x y m Z).2 := by
  unfold F_draft
  split
  next c => exact ⟨⟨c.1, c.2.1, c.2.2, by simp, fun e he => by simp at he, by simp, fun e he => by simp at he, by simp, fun e he => by simp at he⟩, h.2⟩
  next => exact h
theorem k_need {Z : pZ} {x y z : Int32} (h : OK Z) (hz : z = 0 ∨ z = 1) : OK (F_need x y z Z).2 := by
  unfold F_need
  split
  · exact h
  next c1 =>
    split
    · exact h
    · split
      · exact h
      · split
        · exact h
        next c4 =>
          have c1 := Classical.not_not.mp c1
          obtain ⟨⟨a1, a2, a3, a4, a5, a6⟩, hr⟩ := h
          refine ⟨⟨a1, a2, a3, by simp; omega, fun e he => ?_, a6⟩, hr⟩
          rcases List.mem_append.mp he with he | he
          · exact a5 e he
          · rw [List.mem_singleton] at he
            subst he
            exact ⟨c1.1, c1.2, hz⟩
theorem k_seal {Z : pZ} {x : Int32} (h : OK Z) : OK (F_seal x Z).2 := by
  unfold F_seal
  split
  · exact h
  next c1 =>
    split
    · exact h
    · split
      · exact h
      · split
        · exact h
        next c4 =>
          have c1 := Classical.not_not.mp c1
          obtain ⟨⟨a1, a2, a3, a4, a5, a6, a7, a8⟩, hr⟩ := h
          refine ⟨⟨a1, a2, a3, a4, a5, by simp; omega, fun e he => ?_, a8⟩, hr⟩
          rcases List.mem_append.mp he with he | he
          · exact a7 e he
          · rw [List.mem_singleton] at he
            subst he
            exact c1
theorem k_row {Z : pZ} {x y : Int32} (h : OK Z) : OK (F_row x y Z).2 := by
  unfold F_row
  split
  · exact h
  next c1 =>
    split
    · exact h
    · split
      · exact h
      · split
        · exact h
        next c4 =>
          have c1 := Classical.not_not.mp c1
          obtain ⟨⟨a1, a2, a3, a4, a5, a6, a7, a8, a9⟩, hr⟩ := h
          refine ⟨⟨a1, a2, a3, a4, a5, a6, a7, by simp; omega, fun e he => ?_⟩, hr⟩
          rcases List.mem_append.mp he with he | he
          · exact a9 e he
          · rw [List.mem_singleton] at he
            subst he
            exact ⟨c1.1, c1.2, by simp, fun q hq => by simp at hq⟩
theorem okK_set {K : cV} {bs : List Int32} (h : okK K) (hl : bs.length ≤ 120) (hb : ∀ x ∈ bs, blw x 256) : okK (setB K bs) := by
  obtain ⟨a1, a2, a3, a4, a5, a6, a7, a8, a9⟩ := h
  refine ⟨a1, a2, a3, a4, a5, a6, a7, by show (rset _ _ _).length ≤ 8; rw [rset_len]; exact a8, fun e he => ?_⟩
  have he : e ∈ rset K.2.2.2 (K.2.2.2.length - 1) bs := he
  unfold rset at he
  split at he
  next w hw =>
    rcases List.mem_or_eq_of_mem_set he with he | he
    · exact a9 e he
    · subst he
      have := a9 w (List.mem_of_getElem? hw)
      exact ⟨this.1, this.2.1, hl, hb⟩
  next => exact a9 e he
theorem lastB_ok {K : cV} (h : okK K) : ∀ x ∈ lastB K, blw x 256 := by
  intro x hx
  unfold lastB rby at hx
  split at hx
  · simp at hx
  · split at hx
    next e he => exact (h.2.2.2.2.2.2.2.2 e (List.mem_of_getElem? he)).2.2.2 x hx
    next => simp at hx
theorem k_add {Z : pZ} {g : List Int32} (h : OK Z) : OK (F_add g Z).2 := by
  unfold F_add
  split
  · exact h
  next c1 =>
    split
    · exact h
    · split
      · exact h
      next c3 =>
        refine ⟨okK_set h.1 (by simp; omega) (fun x hx => ?_), h.2⟩
        rcases List.mem_append.mp hx with hx | hx
        · exact lastB_ok h.1 x hx
        · rw [Bool.not_eq_true, List.any_eq_false] at c1
          have := c1 x hx
          simpa using this
theorem k_again {Z : pZ} {b n : Int32} (h : OK Z) : OK (F_again b n Z).2 := by
  unfold F_again
  split
  · exact h
  next c1 =>
    split
    · exact h
    · split
      · exact h
      next c3 =>
        split
        · exact h
        next c4 =>
          refine ⟨okK_set h.1 (by rw [rep_len]; omega) ?_, h.2⟩
          intro x hx
          exact lastB_ok h.1 x (rep_mem (B := lastB Z.1) (by omega) _ _ (by omega) (fun x hx => hx) x hx)
theorem xor_blw {a b : Int32} (ha : blw a 256) (hb : blw b 256) : blw (a ^^^ b) 256 := by
  obtain ⟨n, hn, rfl⟩ := blw_n ha
  obtain ⟨m, hm, rfl⟩ := blw_n hb
  have e : nI n ^^^ nI m = nI (n ^^^ m) := by
    unfold nI
    apply Int32.toBitVec_inj.mp
    apply BitVec.eq_of_toNat_eq
    simp
    try (rw [Nat.mod_eq_of_lt (show n < 4294967296 by omega), Nat.mod_eq_of_lt (show m < 4294967296 by omega)])
    try (rw [Nat.mod_eq_of_lt]; have := Nat.xor_lt_two_pow (n := 8) hn hm; omega)
  have hl := Nat.xor_lt_two_pow (n := 8) hn hm
  rw [e]
  have : (nI (n ^^^ m)).toInt = (n ^^^ m : Nat) := i_n (by omega)
  unfold blw
  omega
theorem bat_blw {bs : List Int32} {i : Int32} (h0 : 0 ≤ i.toInt) (h1 : i.toInt < bs.length) (hb : ∀ b ∈ bs, blw b 256) : blw (bat bs i) 256 := by
  obtain ⟨x, hx⟩ := lt_get (l := bs) (j := i.toInt.toNat) (by omega)
  unfold bat
  rw [if_neg (by omega), getD_s hx]
  exact hb x (List.mem_of_getElem? hx)
theorem xorB_ok {bs : List Int32} {i m : Int32} (h : xorOk bs.length i m) (hb : ∀ b ∈ bs, blw b 256) : (xorB bs i m).length = bs.length ∧ ∀ b ∈ xorB bs i m, blw b 256 := by
  unfold xorB
  refine ⟨List.length_set, fun b hx => ?_⟩
  rcases List.mem_or_eq_of_mem_set hx with hx | hx
  · exact hb b hx
  · rw [hx]
    unfold xorOk bin at h
    have h1 := h.1
    rw [decide_eq_true_eq] at h1
    exact xor_blw (bat_blw h1.1 h1.2 hb) ⟨by have := h.2.1; omega, by have := h.2.2; omega⟩
theorem okP_set {P : List pP} {j : Nat} {x : pP} {bs : List Int32} {a c : Nat} (h : okP P) (h1 : 1 ≤ bs.length) (h2 : bs.length ≤ 700) (hb : ∀ b ∈ bs, blw b 256) : okP (P.set j (a, c, bs)) := by
  refine ⟨by rw [List.length_set]; exact h.1, fun y hy => ?_⟩
  rcases List.mem_or_eq_of_mem_set hy with hy | hy
  · exact h.2 y hy
  · subst hy
    exact ⟨h1, h2, hb⟩
theorem okP_add {P : List pP} {bs : List Int32} {a c : Nat} (h : okP P) (h16 : P.length < 16) (h1 : 1 ≤ bs.length) (h2 : bs.length ≤ 700) (hb : ∀ b ∈ bs, blw b 256) : okP (P ++ [(a, c, bs)]) := by
  refine ⟨by simp; omega, fun y hy => ?_⟩
  rcases List.mem_append.mp hy with hy | hy
  · exact h.2 y hy
  · rw [List.mem_singleton] at hy
    subst hy
    exact ⟨h1, h2, hb⟩
theorem k_spoil {Z : pZ} {p i m : Int32} (h : OK Z) : OK (F_spoil p i m Z).2 := by
  unfold F_spoil
  split
  · exact h
  next x hx =>
    split
    next c =>
      obtain ⟨j, rfl, hj, -, hjj⟩ := pget_s hx h.2.1.1
      have hP := h.2.1.2 x (List.mem_of_getElem? hj)
      have hX := xorB_ok c hP.2.2
      exact ⟨h.1, okP_set (x := x) h.2.1 (by omega) (by omega) hX.2, h.2.2⟩
    next => exact h
theorem k_trim {Z : pZ} {p n : Int32} (h : OK Z) : OK (F_trim p n Z).2 := by
  unfold F_trim
  split
  · exact h
  next x hx =>
    split
    next c =>
      obtain ⟨j, rfl, hj, -, hjj⟩ := pget_s hx h.2.1.1
      have hP := h.2.1.2 x (List.mem_of_getElem? hj)
      exact ⟨h.1, okP_set (x := x) h.2.1 (by rw [List.length_take]; omega) (by rw [List.length_take]; omega) (fun b hb => hP.2.2 b (List.mem_of_mem_take hb)), h.2.2⟩
    next => exact h
theorem four_b (S : Int32) : ∀ b ∈ four S, blw b 256 := by
  intro b hb
  unfold four at hb
  simp only [List.mem_cons, List.not_mem_nil, or_false] at hb
  rcases hb with rfl | rfl | rfl | rfl <;> exact bsh_blw _ _
theorem pcnt_88 {n m : Nat} (hn : n ≤ 700) (hm : 8 ≤ m) : pcnt n m ≤ 88 := by
  unfold pcnt
  have h1 : (n + m - 1) / m < 89 := by
    rw [Nat.div_lt_iff_lt_mul (by omega)]
    omega
  omega
theorem k_load {Z : pZ} {p s i : Int32} (h : OK Z) : OK (F_load p s i Z).2 := by
  unfold F_load
  split
  · exact h
  next x hx =>
    split
    · exact h
    next c1 =>
      split
      · exact h
      next c2 =>
        have c1 := Classical.not_not.mp c1
        have c2 := Classical.not_not.mp c2
        obtain ⟨j, rfl, hj, hj16, hjj⟩ := pget_s hx h.2.1.1
        have hP := h.2.1.2 x (List.mem_of_getElem? hj)
        have h88 := pcnt_88 (n := x.2.2.length) (m := s.toInt.toNat) hP.2.1 (by omega)
        have hlt := pcnt_lt (n := x.2.2.length) (m := s.toInt.toNat) (i := i.toInt.toNat) (by omega) (by omega)
        have hlen : (pbody (nI j) i (pcnt x.2.2.length s.toInt.toNat) s.toInt.toNat x.2.2).length = 4 + (min ((i.toInt.toNat + 1) * s.toInt.toNat) x.2.2.length - i.toInt.toNat * s.toInt.toNat) := by
          unfold pbody
          rw [List.length_append, List.length_take, List.length_drop]
          simp only [List.length_cons, List.length_nil]
          omega
        have hmul : (i.toInt.toNat + 1) * s.toInt.toNat = i.toInt.toNat * s.toInt.toNat + s.toInt.toNat := Nat.succ_mul _ _
        have hfl : ∀ S, (four S).length = 4 := fun S => rfl
        refine ⟨h.1, h.2.1, ⟨Or.inr ?_, ?_, fun b hb => ?_⟩, h.2.2.2⟩
        · show 9 ≤ (ptape _ _ _ _ _).length
          unfold ptape
          rw [List.length_append, hlen, hfl]
          omega
        · show (ptape _ _ _ _ _).length ≤ 108
          unfold ptape
          rw [List.length_append, hlen, hfl]
          omega
        · have hb : b ∈ ptape (nI j) i (pcnt x.2.2.length s.toInt.toNat) s.toInt.toNat x.2.2 := hb
          unfold ptape at hb
          rcases List.mem_append.mp hb with hb | hb
          · unfold pbody at hb
            rcases List.mem_append.mp hb with hb | hb
            · simp only [List.mem_cons, List.not_mem_nil, or_false] at hb
              rcases hb with rfl | rfl | rfl | rfl
              · exact ⟨by decide, by decide⟩
              · rw [blw, i_n (by omega)]; omega
              · exact ⟨c2.1, by have := c2.2; omega⟩
              · rw [blw, i_n (by omega)]; omega
            · exact hP.2.2 b (List.mem_of_mem_drop (List.mem_of_mem_take hb))
          · exact four_b _ b hb
theorem k_bend {Z : pZ} {k m : Int32} (h : OK Z) : OK (F_bend k m Z).2 := by
  unfold F_bend
  split
  next c =>
    have hT := h.2.2.1
    have hX := xorB_ok c hT.2.2
    refine ⟨h.1, h.2.1, ⟨?_, ?_, hX.2⟩, h.2.2.2⟩
    · show (xorB Z.2.2.2.1 k m).length = 0 ∨ 9 ≤ (xorB Z.2.2.2.1 k m).length
      rw [hX.1]; exact hT.1
    · show (xorB Z.2.2.2.1 k m).length ≤ 108
      rw [hX.1]; exact hT.2.1
  next => exact h
theorem okBk_empty : okBk bEmpty := by
  refine ⟨by unfold bEmpty; simp, fun i bs hi => ?_, ?_, ?_, 0, by omega, rfl, fun i _ hi => ?_⟩
  · unfold bEmpty at hi
    dsimp only at hi
    rw [List.getElem?_replicate] at hi
    split at hi
    · cases hi
    · cases hi
  · decide
  · have e : pjoin bEmpty.2.2 = [] := by
      unfold pjoin bEmpty
      simp
    rw [e]
    rfl
  · unfold bEmpty
    dsimp only
    rw [List.getElem?_replicate, if_pos hi]
theorem zB_ok {Z : pZ} {b : Nat} {V : bB} (h : OK Z) (hV : okBk V) : OK (zB Z b V) := by
  refine ⟨h.1, h.2.1, h.2.2.1, fun c hc => ?_, h.2.2.2.2⟩
  show okBk (if c = b then V else Z.2.2.2.2.1 c)
  split
  · exact hV
  · exact h.2.2.2.1 c hc
theorem k_drop {Z : pZ} {p : Int32} (h : OK Z) : OK (F_drop p Z).2 := by
  unfold F_drop
  split
  · exact zB_ok h okBk_empty
  · exact h
theorem okBk_b {V : bB} (h : okBk V) : ∀ b ∈ pjoin V.2.2, blw b 256 := by
  intro b hb
  unfold pjoin at hb
  obtain ⟨o, ho, hb⟩ := List.mem_flatMap.mp hb
  cases o with
  | none => simp at hb
  | some bs =>
    obtain ⟨i, hi⟩ := List.getElem?_of_mem ho
    exact (h.2.1 i bs hi).2.2 b hb
theorem k_take {Z : pZ} {n : Nat} (h : OK Z) : OK (F_take n Z).2 := by
  unfold F_take
  dsimp only
  split
  · exact h
  next c0 =>
    split
    · exact h
    next c1 =>
      split
      · exact h
      next c2 =>
        split
        · exact h
        next c3 =>
          have hk := h.2.2.1
          have hr9 : 9 ≤ Z.2.2.2.1.length := by have := hk.1; omega
          have hb1 : blw (bat Z.2.2.2.1 1) 16 := Classical.not_not.mp (fun hc => c1 (Or.inl hc))
          have hsp : splB Z.2.2.2.1 = false := by
            cases hs : splB Z.2.2.2.1 with
            | true => exact absurd (Or.inr hs) c1
            | false => rfl
          have hok := splB_ok hsp hk.2.2
          generalize hb : (bat Z.2.2.2.1 1).toInt.toNat = b at *
          have hV := h.2.2.2.1 b (by omega)
          have hi2 : bat Z.2.2.2.1 2 = nI (bat Z.2.2.2.1 2).toInt.toNat := toN (by omega)
          have hm3 : bat Z.2.2.2.1 3 = nI (bat Z.2.2.2.1 3).toInt.toNat := toN (by omega)
          generalize hi : (bat Z.2.2.2.1 2).toInt.toNat = i at *
          obtain ⟨o, ho⟩ := lt_get (l := (Z.2.2.2.2.1 b).2.2) (j := i) (by rw [hV.1]; omega)
          rw [hi2, phas_n (by omega) ho] at c3
          have hon : o = none := by cases o with
            | none => rfl
            | some x => exact absurd rfl c3
          subst hon
          have hwc : (Z.2.2.2.2.1 b).1.1 = 0 ∨ (Z.2.2.2.2.1 b).1.1 = bat Z.2.2.2.1 3 := by
            by_cases e : (Z.2.2.2.2.1 b).1.1 = 0
            · exact Or.inl e
            · exact Or.inr (Classical.not_not.mp (fun hc => c2 ⟨e, hc⟩))
          have hoV : okBk (bput (Z.2.2.2.2.1 b) i (bat Z.2.2.2.1 3) n Z.2.2.2.1) := by
            rw [hm3]
            exact okBk_put hV (by omega) (by omega) ho (by rw [← hm3]; exact hwc) hk hr9
          split
          · exact zB_ok h hoV
          next c4 =>
            split
            · exact h
            next c5 =>
              have hpjl : (pjoin (Z.2.2.2.2.1 b).2.2).length ≤ 8800 := (OK.book h b (by omega)).2
              have hfl : ((Z.2.2.2.2.1 b).1.2.2 + nI Z.2.2.2.1.length - 8).toInt = (pjoin (Z.2.2.2.2.1 b).2.2).length + Z.2.2.2.1.length - 8 := by
                have hr108 := hk.2.1
                have e1 : (Z.2.2.2.2.1 b).1.2.2 + nI Z.2.2.2.1.length - 8 = nI ((pjoin (Z.2.2.2.2.1 b).2.2).length + Z.2.2.2.1.length - 8) := by
                  rw [hV.2.2.2.1, nI_addN]
                  exact nI_subN (b := 8) (by omega)
                rw [e1, i_n (by omega)]
                omega
              have hjl : (pjoin (bput (Z.2.2.2.2.1 b) i (bat Z.2.2.2.1 3) n Z.2.2.2.1).2.2).length = (pjoin (Z.2.2.2.2.1 b).2.2).length + (tdat Z.2.2.2.1).length := pjoin_set ho
              have htd : (tdat Z.2.2.2.1).length = Z.2.2.2.1.length - 8 := by
                unfold tdat
                rw [List.length_take, List.length_drop]
                omega
              have hz := zB_ok (b := b) h okBk_empty
              refine ⟨hz.1, okP_add h.2.1 (by omega) (by omega) (by omega) (okBk_b hoV), hz.2.2⟩
theorem k_keepS {Z : pZ} {L : sL} (h : OK Z) (h1 : okS L) (h2 : okM L) : OK (zL Z L) := ⟨h.1, h.2.1, h.2.2.1, h.2.2.2.1, h1, h2⟩
theorem k_zW {Z : pZ} {w : Int32} (h : OK Z) : OK (zW Z w) := h
theorem smask_congr {L L' : sL} {ms : List Int32} (h : ∀ m ∈ ms, ∀ s, sadd L' s m = sadd L s m) : smask L' ms = smask L ms := by
  unfold smask
  generalize (0 : Int32) = acc
  induction ms generalizing acc with
  | nil => rfl
  | cons m ms ih =>
    rw [List.foldl_cons, List.foldl_cons, h m (by simp)]
    exact ih (fun m' hm' => h m' (by simp [hm'])) _
theorem okM_set {L : sL} {j : Nat} {x y : Nat × Nat × eV} (h : okM L) (hx : L[j]? = some x) (h1 : y.2.2.2.1 = x.2.2.2.1) (h2 : y.2.2.2.2.1 = x.2.2.2.2.1) : okM (L.set j y) := by
  have hjl := (List.getElem?_eq_some_iff.mp hx).1
  have hs : ∀ (m s : Int32), sadd (L.set j y) s m = sadd L s m := by
    intro m s
    have hg : ∀ z, sget (L.set j y) m = some z → ∃ w, sget L m = some w ∧ w.2.2.2.2.1 = z.2.2.2.2.1 := by
      intro z hz
      unfold sget at hz ⊢
      split at hz
      · cases hz
      next hc =>
        rw [if_neg hc]
        rw [List.getElem?_set] at hz
        split at hz
        next hje =>
          try rw [if_pos (by omega)] at hz
          cases hz
          exact ⟨x, by rw [← hje]; exact hx, h2.symm⟩
        next => exact ⟨z, hz, rfl⟩
    have hn : sget (L.set j y) m = none → sget L m = none := by
      intro hz
      unfold sget at hz ⊢
      split at hz
      next hc => rw [if_pos hc]
      next hc =>
        rw [if_neg hc]
        rw [List.getElem?_eq_none_iff, List.length_set] at hz
        rw [List.getElem?_eq_none_iff]
        exact hz
    unfold sadd
    cases hq : sget (L.set j y) m with
    | none => rw [hn hq]
    | some z =>
      obtain ⟨w, hw1, hw2⟩ := hg z hq
      rw [hw1]
      dsimp only
      rw [hw2]
  have hsm : ∀ ms, smask (L.set j y) ms = smask L ms := fun ms => smask_congr (fun m _ s => hs m s)
  intro e z hz
  rw [hsm]
  rw [List.getElem?_set] at hz
  split at hz
  next hje =>
    subst hje
    try rw [if_pos hjl] at hz
    cases hz
    rw [h1, h2]
    exact h j x hx
  next => exact h e z hz
theorem okS_set {L : sL} {j : Nat} {x y : Nat × Nat × eV} (h : okS L) (hx : L[j]? = some x) (hy : okV L.length j y.2.2) : okS (L.set j y) := by
  refine ⟨by rw [List.length_set]; exact h.1, fun e z hz => ?_⟩
  rw [List.length_set]
  rw [List.getElem?_set] at hz
  split at hz
  next hje =>
    subst hje
    split at hz
    · cases hz
      exact hy
    · cases hz
  next => exact h.2 e z hz
theorem k_closed {Z : pZ} {e c : Int32} (hc : c = 0 ∨ c = 1) (h : OK Z) : OK (F_closed e c Z).2 := by
  unfold F_closed
  split
  · exact h
  next x hx =>
    split
    · exact h
    · obtain ⟨j, rfl, hj, hj12⟩ := sget_s hx h.2.2.2.2.1.1
      have hjj : (nI j).toInt.toNat = j := by rw [i_n (by omega)]; rfl
      have hV := h.2.2.2.2.1.2 j x hj
      rw [hjj]
      exact k_keepS h (okS_set h.2.2.2.2.1 hj ⟨hV.1, hV.2.1, hV.2.2.1, hV.2.2.2.1, hc, hV.2.2.2.2.2⟩) (okM_set h.2.2.2.2.2 hj rfl rfl)
theorem k_overlay {Z : pZ} {e o : Int32} (h : OK Z) : OK (F_overlay e o Z).2 := by
  unfold F_overlay
  split
  · exact h
  next x hx =>
    split
    · exact h
    next c1 =>
      split
      · exact h
      · split
        · exact h
        next c3 =>
          obtain ⟨j, rfl, hj, hj12⟩ := sget_s hx h.2.2.2.2.1.1
          have hjj : (nI j).toInt.toNat = j := by rw [i_n (by omega)]; rfl
          have hV := h.2.2.2.2.1.2 j x hj
          obtain ⟨y, hy⟩ : ∃ y, sget Z.2.2.2.2.2.1 o = some y := by
            cases hq : sget Z.2.2.2.2.2.1 o with
            | none => rw [hq] at c1; exact absurd rfl c1
            | some y => exact ⟨y, rfl⟩
          obtain ⟨k, rfl, hk, hk12⟩ := sget_s hy h.2.2.2.2.1.1
          have hkl := (List.getElem?_eq_some_iff.mp hk).1
          rw [hjj]
          refine k_keepS h (okS_set h.2.2.2.2.1 hj ⟨hV.1, hV.2.1, hV.2.2.1, hV.2.2.2.1, hV.2.2.2.2.1, by show (_ ++ [_]).length ≤ 4; simp; omega, fun m hm => ?_⟩) (okM_set h.2.2.2.2.2 hj rfl rfl)
          rcases List.mem_append.mp hm with hm | hm
          · exact hV.2.2.2.2.2.2 m hm
          · rw [List.mem_singleton] at hm
            exact ⟨k, hkl, hm⟩
theorem sadd_app {L : sL} {v : Nat × Nat × eV} {m s : Int32} (h : ∃ j, j < L.length ∧ m = nI j) (hL : L.length ≤ 12) : sadd (L ++ [v]) s m = sadd L s m := by
  obtain ⟨j, hj, rfl⟩ := h
  unfold sadd
  rw [sget_nI (by omega), sget_nI (by omega), List.getElem?_append_left hj]
theorem okS_add {L : sL} {q c : Nat} {V : eV} (h : okS L) (hn : L.length < 12) (h1 : okK V.1) (h2 : keysOk V.1) (h3 : V.2.1.length = V.1.2.1.length) (h4 : inL L V.2.1) (h5 : V.2.2.2.1 = 0) (h6 : V.2.2.2.2 = []) : okS (L ++ [(q, c, V)]) := by
  refine ⟨by simp; omega, fun e x hx => ?_⟩
  have hl : (L ++ [(q, c, V)]).length = L.length + 1 := by simp
  rw [hl]
  rcases snoc_get hx with ⟨hi, hx'⟩ | ⟨hi, rfl⟩
  · have hV := h.2 e x hx'
    refine ⟨hV.1, hV.2.1, hV.2.2.1, hV.2.2.2.1, hV.2.2.2.2.1, hV.2.2.2.2.2.1, fun m hm => ?_⟩
    obtain ⟨k, hk, he⟩ := hV.2.2.2.2.2.2 m hm
    exact ⟨k, by omega, he⟩
  · refine ⟨h1, h2, h3, fun m hm => ?_, Or.inl h5, by show V.2.2.2.2.length ≤ 4; rw [h6]; simp, fun m hm => ?_⟩
    · obtain ⟨k, hk, he⟩ := h4 m hm
      exact ⟨k, by omega, he⟩
    · have hm : m ∈ V.2.2.2.2 := hm
      rw [h6] at hm
      simp at hm
theorem okM_add {L : sL} {q c : Nat} {V : eV} (h : okM L) (hk : okS L) (h4 : inL L V.2.1) (h5 : V.2.2.1 = smask L V.2.1) : okM (L ++ [(q, c, V)]) := by
  intro e x hx
  rcases snoc_get hx with ⟨hi, hx'⟩ | ⟨hi, rfl⟩
  · rw [h e x hx']
    exact (smask_congr (fun m hm s => sadd_app ((okS_in hk hx').1 m hm) hk.1)).symm
  · show V.2.2.1 = smask _ V.2.1
    rw [h5]
    exact (smask_congr (fun m hm s => sadd_app (h4 m hm) hk.1)).symm
theorem okN_new : OK zNew := by
  have z0 : (0 : Int32).toInt = 0 := rfl
  have b : ∀ n : Int, 0 < n → blw (0 : Int32) n := fun n hn => ⟨by omega, by omega⟩
  have hK : okK cnew := by
    refine ⟨b 64 (by omega), b 100 (by omega), b 2 (by omega), Nat.zero_le _, ?_, Nat.zero_le _, ?_, Nat.zero_le _, ?_⟩
    · intro e he
      exact absurd he List.not_mem_nil
    · intro e he
      exact absurd he List.not_mem_nil
    · intro e he
      exact absurd he List.not_mem_nil
  have hP : okP [] := ⟨Nat.zero_le _, fun x hx => absurd hx List.not_mem_nil⟩
  have hT : okT [] := ⟨Or.inl rfl, Nat.zero_le _, fun x hx => absurd hx List.not_mem_nil⟩
  have hS : okS [] := ⟨Nat.zero_le _, fun e x hx => by simp at hx⟩
  have hM : okM [] := fun e x hx => by simp at hx
  exact ⟨hK, hP, hT, fun _ _ => okBk_empty, hS, hM⟩
