theorem blwN {n : Nat} (h : n < 256) : blw (nI n) 256 := by
  rw [blw, i_n (by omega)]
  omega
theorem prs_b : ∀ (P : List Int32) (n : Nat), n + P.length ≤ 200 → (∀ x ∈ P, blw x 256) → ∀ x ∈ prs n P, blw x 256
  | [], n, _, _ => fun x hx => by unfold prs at hx; cases hx
  | b :: t, n, h, hb => by
    have ih1 := prs_b t (n + 1) (by simp only [List.length_cons] at h; omega) (fun x hx => hb x (by simp [hx]))
    have ih2 := prs_b t 0 (by simp only [List.length_cons] at h; omega) (fun x hx => hb x (by simp [hx]))
    intro x hx
    unfold prs at hx
    split at hx
    · exact ih1 x hx
    · simp only [List.length_cons] at h
      rcases List.mem_cons.mp hx with rfl | hx
      · exact blwN (by omega)
      · rcases List.mem_cons.mp hx with rfl | hx
        · exact hb _ (by simp)
        · exact ih2 x hx
theorem seg_b {P : List Int32} {i j : Nat} (hj : j ≤ 200) (hb : ∀ x ∈ P, blw x 256) : ∀ x ∈ seg P i j, blw x 256 := by
  intro x hx
  unfold seg at hx
  split at hx
  · rcases List.mem_cons.mp hx with rfl | hx
    · exact blwN (by omega)
    · exact hb x (List.mem_of_mem_drop (List.mem_of_mem_take hx))
  · cases hx
theorem opz_b {P : List Int32} (hl : P.length ≤ 120) (hb : ∀ x ∈ P, blw x 256) : ∀ (n k pf : Nat), k ≤ P.length → ∀ x ∈ opz P n k pf, blw x 256
  | 0, k, pf, _ => fun x hx => seg_b (by omega) hb x (show x ∈ seg P pf P.length from hx)
  | n + 1, k, pf, hk => by
    intro x hx
    have hbs := bst_le P k k
    unfold opz at hx
    split at hx
    next hkl =>
      split at hx
      · exact opz_b hl hb n (k + 1) pf (by omega) x hx
      · rcases List.mem_append.mp hx with hx | hx
        · exact seg_b (by omega) hb x hx
        · rcases List.mem_cons.mp hx with rfl | hx
          · exact blwN (by omega)
          · rcases List.mem_cons.mp hx with rfl | hx
            · exact blwN (by omega)
            · exact opz_b hl hb n _ _ (by omega) x hx
    next => exact seg_b (by omega) hb x hx
theorem enc_b {e : Int32 × Int32 × List Int32} (hl : e.2.2.length ≤ 120) (hb : ∀ x ∈ e.2.2, blw x 256) : ∀ x ∈ enc e, blw x 256 := by
  unfold enc
  split
  · exact prs_b _ _ (by omega) hb
  · split
    · exact opz_b hl hb _ _ _ (by omega)
    · exact hb
theorem blw_up {x : Int32} {n m : Int} (h : blw x n) (hm : n ≤ m) : blw x m := ⟨h.1, by have := h.2; omega⟩
theorem wHead_b {K : cV} {sg : Int32} (h : okK K) : ∀ x ∈ wHead K sg, blw x 256 := by
  obtain ⟨a1, a2, a3, a4, a5, a6, a7, a8, a9⟩ := h
  intro x hx
  unfold wHead at hx
  rcases List.mem_append.mp hx with hx | hx
  · rcases List.mem_append.mp hx with hx | hx
    · rcases List.mem_append.mp hx with hx | hx
      · rcases List.mem_append.mp hx with hx | hx
        · rcases List.mem_append.mp hx with hx | hx
          · simp only [List.mem_cons, List.not_mem_nil, or_false] at hx
            rcases hx with rfl | rfl | rfl | rfl | rfl | rfl
            · exact ⟨by decide, by decide⟩
            · exact ⟨by decide, by decide⟩
            · exact blw_up a1 (by omega)
            · exact blw_up a2 (by omega)
            · split
              · exact blw_up a3 (by omega)
              · have h1 := a3.1
                have h2 := a3.2
                have e : K.1.2.2.1 = nI K.1.2.2.1.toInt.toNat := toN h1
                rw [e]
                have e2 : nI K.1.2.2.1.toInt.toNat + 2 = nI (K.1.2.2.1.toInt.toNat + 2) := nI_addN _ 2
                rw [e2]
                exact blwN (by omega)
            · exact blwN (by omega)
          · obtain ⟨e, he, hx⟩ := List.mem_flatMap.mp hx
            have := a5 e he
            unfold wNeed at hx
            simp only [List.mem_cons, List.not_mem_nil, or_false] at hx
            rcases hx with rfl | rfl | rfl
            · exact blw_up this.1 (by omega)
            · exact blw_up this.2.1 (by omega)
            · split <;> exact ⟨by decide, by decide⟩
        · rw [List.mem_singleton] at hx
          subst hx
          exact blwN (by omega)
      · exact blw_up (a7 x hx) (by omega)
    · rw [List.mem_singleton] at hx
      subst hx
      exact blwN (by omega)
  · obtain ⟨e, he, hx⟩ := List.mem_flatMap.mp hx
    obtain ⟨b1, b2, b3, b4⟩ := a9 e he
    have hel := enc_len b3
    unfold wRow at hx
    simp only [List.mem_cons, List.not_mem_nil, or_false] at hx
    rcases hx with rfl | rfl | rfl | rfl | rfl | rfl
    · exact b1
    · exact blw_up b2 (by omega)
    · exact ⟨by decide, by decide⟩
    · exact blwN (by omega)
    · exact ⟨by decide, by decide⟩
    · exact blwN (by omega)
theorem wPack_b {K : cV} {sec : Int32} (h : okK K) : 1 ≤ (wPack K sec).length ∧ ∀ x ∈ wPack K sec, blw x 256 := by
  unfold wPack
  dsimp only
  have hb : ∀ x ∈ wHead K (if sec = 0 then 0 else 1) ++ K.2.2.2.flatMap enc, blw x 256 := by
    intro x hx
    rcases List.mem_append.mp hx with hx | hx
    · exact wHead_b h x hx
    · obtain ⟨e, he, hx⟩ := List.mem_flatMap.mp hx
      have := h.2.2.2.2.2.2.2.2 e he
      exact enc_b this.2.2.1 this.2.2.2 x hx
  have hl : 1 ≤ (wHead K (if sec = 0 then 0 else 1) ++ K.2.2.2.flatMap enc).length := by
    rw [List.length_append, wHead_len]
    omega
  generalize wHead K (if sec = 0 then 0 else 1) ++ K.2.2.2.flatMap enc = B at hb hl ⊢
  have hc : ∀ x ∈ B ++ four (ssum 1 B), blw x 256 := by
    intro x hx
    rcases List.mem_append.mp hx with hx | hx
    · exact hb x hx
    · exact four_b _ x hx
  split
  · exact ⟨by rw [List.length_append]; omega, hc⟩
  · refine ⟨by rw [List.length_append, List.length_append]; omega, fun x hx => ?_⟩
    rcases List.mem_append.mp hx with hx | hx
    · exact hc x hx
    · exact four_b _ x hx
theorem k_pack {Z : pZ} {sec : Int32} {n : Nat} (h : OK Z) : OK (F_pack sec n Z).2 := by
  have hw := wPack_b (sec := sec) h.1
  unfold F_pack
  generalize wPack Z.1 sec = W at hw ⊢
  split
  · exact h
  · split
    · exact h
    next c => exact ⟨h.1, okP_add h.2.1 (by omega) hw.1 (by omega) hw.2, h.2.2⟩
