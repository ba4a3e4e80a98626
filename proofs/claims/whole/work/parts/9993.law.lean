/-! ===== the law's cases ===== -/
theorem k_length {Z : pZ} {x : Int32} (h : OK Z) : OK (F_length x Z).2 := by
  unfold F_length
  (repeat' split) <;> exact h
theorem k_octet {Z : pZ} {x y : Int32} (h : OK Z) : OK (F_octet x y Z).2 := by
  unfold F_octet
  (repeat' split) <;> exact h
theorem k_parts {Z : pZ} {x y : Int32} (h : OK Z) : OK (F_parts x y Z).2 := by
  unfold F_parts
  (repeat' split) <;> exact h
theorem k_tape {Z : pZ} {x : Int32} (h : OK Z) : OK (F_tape x Z).2 := by
  unfold F_tape
  (repeat' split) <;> exact h
theorem k_book {Z : pZ} {x y : Int32} (h : OK Z) : OK (F_book x y Z).2 := by
  unfold F_book
  (repeat' split) <;> exact h
theorem k_why {Z : pZ} (h : OK Z) : OK (F_why  Z).2 := by
  unfold F_why
  (repeat' split) <;> exact h
theorem k_entry {Z : pZ} {x y : Int32} (h : OK Z) : OK (F_entry x y Z).2 := by
  unfold F_entry
  (repeat' split) <;> exact h
theorem k_find {Z : pZ} {x y : Int32} (h : OK Z) : OK (F_find x y Z).2 := by
  unfold F_find
  (repeat' split) <;> exact h
theorem k_path {Z : pZ} {x y z : Int32} (h : OK Z) : OK (F_path x y z Z).2 := by
  unfold F_path
  (repeat' split) <;> exact h
theorem k_page {Z : pZ} {x y : Int32} (h : OK Z) : OK (F_page x y Z).2 := by
  unfold F_page
  (repeat' split) <;> exact h
theorem k_read {Z : pZ} {x y z : Int32} (h : OK Z) : OK (F_read x y z Z).2 := by
  unfold F_read
  (repeat' split) <;> exact h
theorem k_edition {Z : pZ} {x y : Int32} (h : OK Z) : OK (F_edition x y Z).2 := by
  unfold F_edition
  (repeat' split) <;> exact h
theorem k_needed {Z : pZ} {x y : Int32} (h : OK Z) : OK (F_needed x y Z).2 := by
  unfold F_needed
  (repeat' split) <;> exact h
theorem k_check {Z : pZ} {x : Int32} {pf : List Int32 → pS} (h : OK Z) : OK (F_check x pf Z).2 := by
  unfold F_check
  (repeat' split) <;> exact h
theorem k_signer {Z : pZ} {x y : Int32} {pf : List Int32 → pS} (h : OK Z) : OK (F_signer x y pf Z).2 := by
  unfold F_signer
  (repeat' split) <;> exact h
section LM
variable {G : xG} {E : lE} {j : Nat} {σ : xS}
set_option maxRecDepth 100000 in
theorem law_0 (C : lC G E) (hI : LI G j σ) (hj : 6 * j + 6 ≤ E.2.2.2.2.2.2.2.2.1) (next : ∀ σ', LI G (j + 1) σ' → lj G E 18 (lo4 G E (6 * (j + 1))) [] σ') : lj G E 176 (lo4 G E (6 * j)) [] σ := by
  exact lj_do (P := fun Z F => F = F_draft (E.2.2.2.2.2.2.2.2.2 (6 * j + 1)) (E.2.2.2.2.2.2.2.2.2 (6 * j + 2)) (E.2.2.2.2.2.2.2.2.2 (6 * j + 3)) Z) C hI hj (by omega) (by decide +kernel) (by decide +kernel) (by decide +kernel) (by decide +kernel) (by decide +kernel) (by decide +kernel) (by decide +kernel) kX8_draft iX8_draft lL_13 ⟨_, rfl, rfl⟩ kX9_draft iX9_draft lL_17 ⟨_, rfl, rfl⟩ (fun own rc Z hp hO => (c_PP_draft (d := 0) hp ).mono (fun v σ' hq => ⟨_, rfl, hq⟩)) (fun Z f A F hR hO hF => by subst hF; exact (o_draft (d := 0) hR ).mono (fun w Y' hq => ⟨hq, k_draft hO⟩)) next
set_option maxRecDepth 100000 in
theorem law_1 (C : lC G E) (hI : LI G j σ) (hj : 6 * j + 6 ≤ E.2.2.2.2.2.2.2.2.1) (next : ∀ σ', LI G (j + 1) σ' → lj G E 18 (lo4 G E (6 * (j + 1))) [] σ') : lj G E 219 (lo4 G E (6 * j)) [] σ := by
  have hL := C.2.2.2.2.2.2.2.2.2.2.2
  have hz : (if E.2.2.2.2.2.2.2.2.2 (6 * j + 3) = 0 then 0 else 1) = (0 : Int32) ∨ (if E.2.2.2.2.2.2.2.2.2 (6 * j + 3) = 0 then 0 else 1) = (1 : Int32) := by split <;> simp
  have ld : ∀ (pc : Nat) (st : List Value) (σ : xS), lcks 3 1 pc = true → tL_law.lookup (pc + 15) = some ((153, pc + 15 + 7, 0), 3) → tL_law.lookup (pc + 15 + 3) = some ((2, 0, 1), 1) → tL_law.lookup (pc + 15 + 4) = some ((167, pc + 15 + 8, 0), 3) → tL_law.lookup (pc + 15 + 7) = some ((2, 0, 0), 1) → lj G E (pc + 15 + 8) (lo4 G E (6 * j)) (([(E.2.2.2.2.2.2.2.2.2 (6 * j + 1)), (E.2.2.2.2.2.2.2.2.2 (6 * j + 2)), (if E.2.2.2.2.2.2.2.2.2 (6 * j + 3) = 0 then 0 else 1)].map Value.int).reverse ++ st) σ → lj G E pc (lo4 G E (6 * j)) st σ := by
    intro pc st σ b0 b1 b2 b3 b4 kk
    refine lj_args C 3 1 pc st b0 (by omega) ?_
    exact lj_flag C b1 b2 b3 b4 kk
  refine lj.one C (show tL_law.lookup 219 = some ((42, 1, 0), 1) by decide +kernel) rfl ?_
  refine ld 220 _ _ (by decide +kernel) (by decide +kernel) (by decide +kernel) (by decide +kernel) (by decide +kernel) ?_
  exact lj_mid (pc := 243) (pc2 := 270) (As := [(E.2.2.2.2.2.2.2.2.2 (6 * j + 1)), (E.2.2.2.2.2.2.2.2.2 (6 * j + 2)), (if E.2.2.2.2.2.2.2.2.2 (6 * j + 3) = 0 then 0 else 1)]) (P := fun Z F => F = F_need (E.2.2.2.2.2.2.2.2.2 (6 * j + 1)) (E.2.2.2.2.2.2.2.2.2 (6 * j + 2)) (if E.2.2.2.2.2.2.2.2.2 (6 * j + 3) = 0 then 0 else 1) Z) C hI (by omega) (by decide +kernel) (by decide +kernel) (by decide +kernel) (by decide +kernel) (fun st σ' kk => ld 247 st σ' (by decide +kernel) (by decide +kernel) (by decide +kernel) (by decide +kernel) (by decide +kernel) kk) rfl kX8_need iX8_need lL_18 ⟨_, rfl, rfl⟩ kX9_need iX9_need lL_22 ⟨_, rfl, rfl⟩ (fun own rc Z hp hO => (c_PP_need (d := 0) hp hz).mono (fun v σ' hq => ⟨_, rfl, hq⟩)) (fun Z f A F hR hO hF => by subst hF; exact (o_need (d := 0) hR hO.1 hz).mono (fun w Y' hq => ⟨hq, k_need hO hz⟩)) next
set_option maxRecDepth 100000 in
theorem law_2 (C : lC G E) (hI : LI G j σ) (hj : 6 * j + 6 ≤ E.2.2.2.2.2.2.2.2.1) (next : ∀ σ', LI G (j + 1) σ' → lj G E 18 (lo4 G E (6 * (j + 1))) [] σ') : lj G E 278 (lo4 G E (6 * j)) [] σ := by
  exact lj_do (P := fun Z F => F = F_seal (E.2.2.2.2.2.2.2.2.2 (6 * j + 1)) Z) C hI hj (by omega) (by decide +kernel) (by decide +kernel) (by decide +kernel) (by decide +kernel) (by decide +kernel) (by decide +kernel) (by decide +kernel) kX8_seal iX8_seal lL_23 ⟨_, rfl, rfl⟩ kX9_seal iX9_seal lL_27 ⟨_, rfl, rfl⟩ (fun own rc Z hp hO => (c_PP_seal (d := 0) hp ).mono (fun v σ' hq => ⟨_, rfl, hq⟩)) (fun Z f A F hR hO hF => by subst hF; exact (o_seal (d := 0) hR hO.1).mono (fun w Y' hq => ⟨hq, k_seal hO⟩)) next
set_option maxRecDepth 100000 in
theorem law_3 (C : lC G E) (hI : LI G j σ) (hj : 6 * j + 6 ≤ E.2.2.2.2.2.2.2.2.1) (next : ∀ σ', LI G (j + 1) σ' → lj G E 18 (lo4 G E (6 * (j + 1))) [] σ') : lj G E 301 (lo4 G E (6 * j)) [] σ := by
  exact lj_do (P := fun Z F => F = F_row (E.2.2.2.2.2.2.2.2.2 (6 * j + 1)) (E.2.2.2.2.2.2.2.2.2 (6 * j + 2)) Z) C hI hj (by omega) (by decide +kernel) (by decide +kernel) (by decide +kernel) (by decide +kernel) (by decide +kernel) (by decide +kernel) (by decide +kernel) kX8_row iX8_row lL_28 ⟨_, rfl, rfl⟩ kX9_row iX9_row lL_32 ⟨_, rfl, rfl⟩ (fun own rc Z hp hO => (c_PP_row (d := 0) hp ).mono (fun v σ' hq => ⟨_, rfl, hq⟩)) (fun Z f A F hR hO hF => by subst hF; exact (o_row (d := 0) hR hO.1).mono (fun w Y' hq => ⟨hq, k_row hO⟩)) next
set_option maxRecDepth 100000 in
theorem law_4 (C : lC G E) (hI : LI G j σ) (hj : 6 * j + 6 ≤ E.2.2.2.2.2.2.2.2.1) (next : ∀ σ', LI G (j + 1) σ' → lj G E 18 (lo4 G E (6 * (j + 1))) [] σ') : lj G E 334 (lo4 G E (6 * j)) [] σ := by
  exact lj_do (P := fun Z F => F = F_add [(E.2.2.2.2.2.2.2.2.2 (6 * j + 1)), (E.2.2.2.2.2.2.2.2.2 (6 * j + 2)), (E.2.2.2.2.2.2.2.2.2 (6 * j + 3)), (E.2.2.2.2.2.2.2.2.2 (6 * j + 4)), (E.2.2.2.2.2.2.2.2.2 (6 * j + 5))] Z) C hI hj (by omega) (by decide +kernel) (by decide +kernel) (by decide +kernel) (by decide +kernel) (by decide +kernel) (by decide +kernel) (by decide +kernel) kX8_add iX8_add lL_33 ⟨_, rfl, rfl⟩ kX9_add iX9_add lL_37 ⟨_, rfl, rfl⟩ (fun own rc Z hp hO => (c_PP_add (d := 0) hp ).mono (fun v σ' hq => ⟨_, rfl, hq⟩)) (fun Z f A F hR hO hF => by subst hF; exact (o_add (d := 0) hR hO.1).mono (fun w Y' hq => ⟨hq, k_add hO⟩)) next
set_option maxRecDepth 100000 in
theorem law_5 (C : lC G E) (hI : LI G j σ) (hj : 6 * j + 6 ≤ E.2.2.2.2.2.2.2.2.1) (next : ∀ σ', LI G (j + 1) σ' → lj G E 18 (lo4 G E (6 * (j + 1))) [] σ') : lj G E 397 (lo4 G E (6 * j)) [] σ := by
  exact lj_do (P := fun Z F => F = F_again (E.2.2.2.2.2.2.2.2.2 (6 * j + 1)) (E.2.2.2.2.2.2.2.2.2 (6 * j + 2)) Z) C hI hj (by omega) (by decide +kernel) (by decide +kernel) (by decide +kernel) (by decide +kernel) (by decide +kernel) (by decide +kernel) (by decide +kernel) kX8_again iX8_again lL_38 ⟨_, rfl, rfl⟩ kX9_again iX9_again lL_41 ⟨_, rfl, rfl⟩ (fun own rc Z hp hO => (c_PP_again (d := 0) hp ).mono (fun v σ' hq => ⟨_, rfl, hq⟩)) (fun Z f A F hR hO hF => by subst hF; exact (o_again (d := 0) hR hO.1).mono (fun w Y' hq => ⟨hq, k_again hO⟩)) next
set_option maxRecDepth 100000 in
theorem law_6 (C : lC G E) (hI : LI G j σ) (hj : 6 * j + 6 ≤ E.2.2.2.2.2.2.2.2.1) (next : ∀ σ', LI G (j + 1) σ' → lj G E 18 (lo4 G E (6 * (j + 1))) [] σ') : lj G E 430 (lo4 G E (6 * j)) [] σ := by
  exact lj_do (P := fun Z F => F = F_pack (E.2.2.2.2.2.2.2.2.2 (6 * j + 1)) σ.2.1 Z) C hI hj (by omega) (by decide +kernel) (by decide +kernel) (by decide +kernel) (by decide +kernel) (by decide +kernel) (by decide +kernel) (by decide +kernel) kX8_pack iX8_pack lL_42 ⟨_, rfl, rfl⟩ kX9_pack iX9_pack lL_45 ⟨_, rfl, rfl⟩ (fun own rc Z hp hO => (c_PP_pack (d := 0) hp hO.rows).mono (fun v σ' hq => ⟨_, rfl, hq⟩)) (fun Z f A F hR hO hF => by subst hF; exact (o_pack (d := 0) hR hO.1 hO.2.1).mono (fun w Y' hq => ⟨hq, k_pack hO⟩)) next
set_option maxRecDepth 100000 in
theorem law_7 (C : lC G E) (hI : LI G j σ) (hj : 6 * j + 6 ≤ E.2.2.2.2.2.2.2.2.1) (next : ∀ σ', LI G (j + 1) σ' → lj G E 18 (lo4 G E (6 * (j + 1))) [] σ') : lj G E 453 (lo4 G E (6 * j)) [] σ := by
  exact lj_do (P := fun Z F => F = F_length (E.2.2.2.2.2.2.2.2.2 (6 * j + 1)) Z) C hI hj (by omega) (by decide +kernel) (by decide +kernel) (by decide +kernel) (by decide +kernel) (by decide +kernel) (by decide +kernel) (by decide +kernel) kX8_length iX8_length lL_46 ⟨_, rfl, rfl⟩ kX9_length iX9_length lL_49 ⟨_, rfl, rfl⟩ (fun own rc Z hp hO => (c_PP_length (d := 0) hp ).mono (fun v σ' hq => ⟨_, rfl, hq⟩)) (fun Z f A F hR hO hF => by subst hF; exact (o_length (d := 0) hR hO.2.1).mono (fun w Y' hq => ⟨hq, k_length hO⟩)) next
set_option maxRecDepth 100000 in
theorem law_8 (C : lC G E) (hI : LI G j σ) (hj : 6 * j + 6 ≤ E.2.2.2.2.2.2.2.2.1) (next : ∀ σ', LI G (j + 1) σ' → lj G E 18 (lo4 G E (6 * (j + 1))) [] σ') : lj G E 476 (lo4 G E (6 * j)) [] σ := by
  exact lj_do (P := fun Z F => F = F_octet (E.2.2.2.2.2.2.2.2.2 (6 * j + 1)) (E.2.2.2.2.2.2.2.2.2 (6 * j + 2)) Z) C hI hj (by omega) (by decide +kernel) (by decide +kernel) (by decide +kernel) (by decide +kernel) (by decide +kernel) (by decide +kernel) (by decide +kernel) kX8_octet iX8_octet lL_50 ⟨_, rfl, rfl⟩ kX9_octet iX9_octet lL_53 ⟨_, rfl, rfl⟩ (fun own rc Z hp hO => (c_PP_octet (d := 0) hp ).mono (fun v σ' hq => ⟨_, rfl, hq⟩)) (fun Z f A F hR hO hF => by subst hF; exact (o_octet (d := 0) hR hO.2.1).mono (fun w Y' hq => ⟨hq, k_octet hO⟩)) next
set_option maxRecDepth 100000 in
theorem law_9 (C : lC G E) (hI : LI G j σ) (hj : 6 * j + 6 ≤ E.2.2.2.2.2.2.2.2.1) (next : ∀ σ', LI G (j + 1) σ' → lj G E 18 (lo4 G E (6 * (j + 1))) [] σ') : lj G E 509 (lo4 G E (6 * j)) [] σ := by
  exact lj_do (P := fun Z F => F = F_spoil (E.2.2.2.2.2.2.2.2.2 (6 * j + 1)) (E.2.2.2.2.2.2.2.2.2 (6 * j + 2)) (E.2.2.2.2.2.2.2.2.2 (6 * j + 3)) Z) C hI hj (by omega) (by decide +kernel) (by decide +kernel) (by decide +kernel) (by decide +kernel) (by decide +kernel) (by decide +kernel) (by decide +kernel) kX8_spoil iX8_spoil lL_54 ⟨_, rfl, rfl⟩ kX9_spoil iX9_spoil lL_57 ⟨_, rfl, rfl⟩ (fun own rc Z hp hO => (c_PP_spoil (d := 0) hp ).mono (fun v σ' hq => ⟨_, rfl, hq⟩)) (fun Z f A F hR hO hF => by subst hF; exact (o_spoil (d := 0) hR hO.2.1).mono (fun w Y' hq => ⟨hq, k_spoil hO⟩)) next
set_option maxRecDepth 100000 in
theorem law_10 (C : lC G E) (hI : LI G j σ) (hj : 6 * j + 6 ≤ E.2.2.2.2.2.2.2.2.1) (next : ∀ σ', LI G (j + 1) σ' → lj G E 18 (lo4 G E (6 * (j + 1))) [] σ') : lj G E 552 (lo4 G E (6 * j)) [] σ := by
  exact lj_do (P := fun Z F => F = F_trim (E.2.2.2.2.2.2.2.2.2 (6 * j + 1)) (E.2.2.2.2.2.2.2.2.2 (6 * j + 2)) Z) C hI hj (by omega) (by decide +kernel) (by decide +kernel) (by decide +kernel) (by decide +kernel) (by decide +kernel) (by decide +kernel) (by decide +kernel) kX8_trim iX8_trim lL_58 ⟨_, rfl, rfl⟩ kX9_trim iX9_trim lL_61 ⟨_, rfl, rfl⟩ (fun own rc Z hp hO => (c_PP_trim (d := 0) hp ).mono (fun v σ' hq => ⟨_, rfl, hq⟩)) (fun Z f A F hR hO hF => by subst hF; exact (o_trim (d := 0) hR hO.2.1).mono (fun w Y' hq => ⟨hq, k_trim hO⟩)) next
set_option maxRecDepth 100000 in
theorem law_11 (C : lC G E) (hI : LI G j σ) (hj : 6 * j + 6 ≤ E.2.2.2.2.2.2.2.2.1) (next : ∀ σ', LI G (j + 1) σ' → lj G E 18 (lo4 G E (6 * (j + 1))) [] σ') : lj G E 585 (lo4 G E (6 * j)) [] σ := by
  exact lj_do (P := fun Z F => ∃ pf, hears pf ∧ F = F_check (E.2.2.2.2.2.2.2.2.2 (6 * j + 1)) pf Z) C hI hj (by omega) (by decide +kernel) (by decide +kernel) (by decide +kernel) (by decide +kernel) (by decide +kernel) (by decide +kernel) (by decide +kernel) kX8_check iX8_check lL_62 ⟨_, rfl, rfl⟩ kX9_check iX9_check lL_65 ⟨_, rfl, rfl⟩ (fun own rc Z hp hO => (c_PP_check (d := 0) hp).mono (fun v σ' hq => by obtain ⟨pf, hh, hq⟩ := hq; exact ⟨_, ⟨pf, hh, rfl⟩, hq⟩)) (fun Z f A F hR hO hF => by obtain ⟨pf, hh, rfl⟩ := hF; exact (o_check (d := 0) hR hO.2.1 hh).mono (fun w Y' hq => ⟨hq, k_check hO⟩)) next
set_option maxRecDepth 100000 in
theorem law_12 (C : lC G E) (hI : LI G j σ) (hj : 6 * j + 6 ≤ E.2.2.2.2.2.2.2.2.1) (next : ∀ σ', LI G (j + 1) σ' → lj G E 18 (lo4 G E (6 * (j + 1))) [] σ') : lj G E 608 (lo4 G E (6 * j)) [] σ := by
  exact lj_do (P := fun Z F => ∃ pf, hears pf ∧ F = F_signer (E.2.2.2.2.2.2.2.2.2 (6 * j + 1)) (E.2.2.2.2.2.2.2.2.2 (6 * j + 2)) pf Z) C hI hj (by omega) (by decide +kernel) (by decide +kernel) (by decide +kernel) (by decide +kernel) (by decide +kernel) (by decide +kernel) (by decide +kernel) kX8_signer iX8_signer lL_66 ⟨_, rfl, rfl⟩ kX9_signer iX9_signer lL_69 ⟨_, rfl, rfl⟩ (fun own rc Z hp hO => (c_PP_signer (d := 0) hp).mono (fun v σ' hq => by obtain ⟨pf, hh, hq⟩ := hq; exact ⟨_, ⟨pf, hh, rfl⟩, hq⟩)) (fun Z f A F hR hO hF => by obtain ⟨pf, hh, rfl⟩ := hF; exact (o_signer (d := 0) hR hO.2.1 hh).mono (fun w Y' hq => ⟨hq, k_signer hO⟩)) next
set_option maxRecDepth 100000 in
theorem law_13 (C : lC G E) (hI : LI G j σ) (hj : 6 * j + 6 ≤ E.2.2.2.2.2.2.2.2.1) (next : ∀ σ', LI G (j + 1) σ' → lj G E 18 (lo4 G E (6 * (j + 1))) [] σ') : lj G E 641 (lo4 G E (6 * j)) [] σ := by
  exact lj_do (P := fun Z F => F = F_parts (E.2.2.2.2.2.2.2.2.2 (6 * j + 1)) (E.2.2.2.2.2.2.2.2.2 (6 * j + 2)) Z) C hI hj (by omega) (by decide +kernel) (by decide +kernel) (by decide +kernel) (by decide +kernel) (by decide +kernel) (by decide +kernel) (by decide +kernel) kX8_parts iX8_parts lL_70 ⟨_, rfl, rfl⟩ kX9_parts iX9_parts lL_73 ⟨_, rfl, rfl⟩ (fun own rc Z hp hO => (c_PP_parts (d := 0) hp ).mono (fun v σ' hq => ⟨_, rfl, hq⟩)) (fun Z f A F hR hO hF => by subst hF; exact (o_parts (d := 0) hR hO.2.1).mono (fun w Y' hq => ⟨hq, k_parts hO⟩)) next
set_option maxRecDepth 100000 in
theorem law_14 (C : lC G E) (hI : LI G j σ) (hj : 6 * j + 6 ≤ E.2.2.2.2.2.2.2.2.1) (next : ∀ σ', LI G (j + 1) σ' → lj G E 18 (lo4 G E (6 * (j + 1))) [] σ') : lj G E 674 (lo4 G E (6 * j)) [] σ := by
  exact lj_do (P := fun Z F => F = F_load (E.2.2.2.2.2.2.2.2.2 (6 * j + 1)) (E.2.2.2.2.2.2.2.2.2 (6 * j + 2)) (E.2.2.2.2.2.2.2.2.2 (6 * j + 3)) Z) C hI hj (by omega) (by decide +kernel) (by decide +kernel) (by decide +kernel) (by decide +kernel) (by decide +kernel) (by decide +kernel) (by decide +kernel) kX8_load iX8_load lL_74 ⟨_, rfl, rfl⟩ kX9_load iX9_load lL_77 ⟨_, rfl, rfl⟩ (fun own rc Z hp hO => (c_PP_load (d := 0) hp ).mono (fun v σ' hq => ⟨_, rfl, hq⟩)) (fun Z f A F hR hO hF => by subst hF; exact (o_load (d := 0) hR hO.2.1).mono (fun w Y' hq => ⟨hq, k_load hO⟩)) next
set_option maxRecDepth 100000 in
theorem law_15 (C : lC G E) (hI : LI G j σ) (hj : 6 * j + 6 ≤ E.2.2.2.2.2.2.2.2.1) (next : ∀ σ', LI G (j + 1) σ' → lj G E 18 (lo4 G E (6 * (j + 1))) [] σ') : lj G E 717 (lo4 G E (6 * j)) [] σ := by
  exact lj_do (P := fun Z F => F = F_tape (E.2.2.2.2.2.2.2.2.2 (6 * j + 1)) Z) C hI hj (by omega) (by decide +kernel) (by decide +kernel) (by decide +kernel) (by decide +kernel) (by decide +kernel) (by decide +kernel) (by decide +kernel) kX8_tape iX8_tape lL_78 ⟨_, rfl, rfl⟩ kX9_tape iX9_tape lL_81 ⟨_, rfl, rfl⟩ (fun own rc Z hp hO => (c_PP_tape (d := 0) hp ).mono (fun v σ' hq => ⟨_, rfl, hq⟩)) (fun Z f A F hR hO hF => by subst hF; exact (o_tape (d := 0) hR hO.2.2.1).mono (fun w Y' hq => ⟨hq, k_tape hO⟩)) next
set_option maxRecDepth 100000 in
theorem law_16 (C : lC G E) (hI : LI G j σ) (hj : 6 * j + 6 ≤ E.2.2.2.2.2.2.2.2.1) (next : ∀ σ', LI G (j + 1) σ' → lj G E 18 (lo4 G E (6 * (j + 1))) [] σ') : lj G E 740 (lo4 G E (6 * j)) [] σ := by
  exact lj_do (P := fun Z F => F = F_bend (E.2.2.2.2.2.2.2.2.2 (6 * j + 1)) (E.2.2.2.2.2.2.2.2.2 (6 * j + 2)) Z) C hI hj (by omega) (by decide +kernel) (by decide +kernel) (by decide +kernel) (by decide +kernel) (by decide +kernel) (by decide +kernel) (by decide +kernel) kX8_bend iX8_bend lL_82 ⟨_, rfl, rfl⟩ kX9_bend iX9_bend lL_85 ⟨_, rfl, rfl⟩ (fun own rc Z hp hO => (c_PP_bend (d := 0) hp ).mono (fun v σ' hq => ⟨_, rfl, hq⟩)) (fun Z f A F hR hO hF => by subst hF; exact (o_bend (d := 0) hR hO.2.2.1).mono (fun w Y' hq => ⟨hq, k_bend hO⟩)) next
set_option maxRecDepth 100000 in
theorem law_17 (C : lC G E) (hI : LI G j σ) (hj : 6 * j + 6 ≤ E.2.2.2.2.2.2.2.2.1) (next : ∀ σ', LI G (j + 1) σ' → lj G E 18 (lo4 G E (6 * (j + 1))) [] σ') : lj G E 773 (lo4 G E (6 * j)) [] σ := by
  exact lj_do (P := fun Z F => F = F_take σ.2.1 Z) C hI hj (by omega) (by decide +kernel) (by decide +kernel) (by decide +kernel) (by decide +kernel) (by decide +kernel) (by decide +kernel) (by decide +kernel) kX8_take iX8_take lL_86 ⟨_, rfl, rfl⟩ kX9_take iX9_take lL_90 ⟨_, rfl, rfl⟩ (fun own rc Z hp hO => (c_PP_take (d := 0) hp hO.2.2.1.2.2 hO.2.2.1.1 hO.book).mono (fun v σ' hq => ⟨_, rfl, hq⟩)) (fun Z f A F hR hO hF => by subst hF; exact (o_take (d := 0) hR hO.2.1 hO.2.2.1 hO.2.2.2.1).mono (fun w Y' hq => ⟨hq, k_take hO⟩)) next
set_option maxRecDepth 100000 in
theorem law_18 (C : lC G E) (hI : LI G j σ) (hj : 6 * j + 6 ≤ E.2.2.2.2.2.2.2.2.1) (next : ∀ σ', LI G (j + 1) σ' → lj G E 18 (lo4 G E (6 * (j + 1))) [] σ') : lj G E 786 (lo4 G E (6 * j)) [] σ := by
  exact lj_do (P := fun Z F => F = F_book (E.2.2.2.2.2.2.2.2.2 (6 * j + 1)) (E.2.2.2.2.2.2.2.2.2 (6 * j + 2)) Z) C hI hj (by omega) (by decide +kernel) (by decide +kernel) (by decide +kernel) (by decide +kernel) (by decide +kernel) (by decide +kernel) (by decide +kernel) kX8_book iX8_book lL_91 ⟨_, rfl, rfl⟩ kX9_book iX9_book lL_94 ⟨_, rfl, rfl⟩ (fun own rc Z hp hO => (c_PP_book (d := 0) hp ).mono (fun v σ' hq => ⟨_, rfl, hq⟩)) (fun Z f A F hR hO hF => by subst hF; exact (o_book (d := 0) hR hO.2.2.2.1).mono (fun w Y' hq => ⟨hq, k_book hO⟩)) next
set_option maxRecDepth 100000 in
theorem law_19 (C : lC G E) (hI : LI G j σ) (hj : 6 * j + 6 ≤ E.2.2.2.2.2.2.2.2.1) (next : ∀ σ', LI G (j + 1) σ' → lj G E 18 (lo4 G E (6 * (j + 1))) [] σ') : lj G E 819 (lo4 G E (6 * j)) [] σ := by
  exact lj_do (P := fun Z F => F = F_drop (E.2.2.2.2.2.2.2.2.2 (6 * j + 1)) Z) C hI hj (by omega) (by decide +kernel) (by decide +kernel) (by decide +kernel) (by decide +kernel) (by decide +kernel) (by decide +kernel) (by decide +kernel) kX8_drop iX8_drop lL_95 ⟨_, rfl, rfl⟩ kX9_drop iX9_drop lL_98 ⟨_, rfl, rfl⟩ (fun own rc Z hp hO => (c_PP_drop (d := 0) hp ).mono (fun v σ' hq => ⟨_, rfl, hq⟩)) (fun Z f A F hR hO hF => by subst hF; exact (o_drop (d := 0) hR hO.2.2.2.1).mono (fun w Y' hq => ⟨hq, k_drop hO⟩)) next
set_option maxRecDepth 100000 in
theorem law_20 (C : lC G E) (hI : LI G j σ) (hj : 6 * j + 6 ≤ E.2.2.2.2.2.2.2.2.1) (next : ∀ σ', LI G (j + 1) σ' → lj G E 18 (lo4 G E (6 * (j + 1))) [] σ') : lj G E 842 (lo4 G E (6 * j)) [] σ := by
  exact lj_do (P := fun Z F => ∃ pf rc, hears pf ∧ F = F_open (E.2.2.2.2.2.2.2.2.2 (6 * j + 1)) (E.2.2.2.2.2.2.2.2.2 (6 * j + 2)) pf σ.2.1 rc Z) C hI hj (by omega) (by decide +kernel) (by decide +kernel) (by decide +kernel) (by decide +kernel) (by decide +kernel) (by decide +kernel) (by decide +kernel) kX8_open iX8_open lL_99 ⟨_, rfl, rfl⟩ kX9_open iX9_open lL_102 ⟨_, rfl, rfl⟩ (fun own rc Z hp hO => (c_PP_open (d := 0) hp).mono (fun v σ' hq => by obtain ⟨pf, hh, hq⟩ := hq; exact ⟨_, ⟨pf, rc, hh, rfl⟩, hq⟩)) (fun Z f A F hR hO hF => by obtain ⟨pf, rc, hh, rfl⟩ := hF; exact o_open (d := 0) hR hO hh) next
set_option maxRecDepth 100000 in
theorem law_21 (C : lC G E) (hI : LI G j σ) (hj : 6 * j + 6 ≤ E.2.2.2.2.2.2.2.2.1) (next : ∀ σ', LI G (j + 1) σ' → lj G E 18 (lo4 G E (6 * (j + 1))) [] σ') : lj G E 875 (lo4 G E (6 * j)) [] σ := by
  exact lj_do (P := fun Z F => F = F_why  Z) C hI hj (by omega) (by decide +kernel) (by decide +kernel) (by decide +kernel) (by decide +kernel) (by decide +kernel) (by decide +kernel) (by decide +kernel) kX8_why iX8_why lL_103 ⟨_, rfl, rfl⟩ kX9_why iX9_why lL_106 ⟨_, rfl, rfl⟩ (fun own rc Z hp hO => (c_PP_why (d := 0) hp ).mono (fun v σ' hq => ⟨_, rfl, hq⟩)) (fun Z f A F hR hO hF => by subst hF; exact (o_why (d := 0) hR ).mono (fun w Y' hq => ⟨hq, k_why hO⟩)) next
set_option maxRecDepth 100000 in
theorem law_22 (C : lC G E) (hI : LI G j σ) (hj : 6 * j + 6 ≤ E.2.2.2.2.2.2.2.2.1) (next : ∀ σ', LI G (j + 1) σ' → lj G E 18 (lo4 G E (6 * (j + 1))) [] σ') : lj G E 888 (lo4 G E (6 * j)) [] σ := by
  exact lj_do (P := fun Z F => F = F_entry (E.2.2.2.2.2.2.2.2.2 (6 * j + 1)) (E.2.2.2.2.2.2.2.2.2 (6 * j + 2)) Z) C hI hj (by omega) (by decide +kernel) (by decide +kernel) (by decide +kernel) (by decide +kernel) (by decide +kernel) (by decide +kernel) (by decide +kernel) kX8_entry iX8_entry lL_107 ⟨_, rfl, rfl⟩ kX9_entry iX9_entry lL_110 ⟨_, rfl, rfl⟩ (fun own rc Z hp hO => (c_PP_entry (d := 0) hp ).mono (fun v σ' hq => ⟨_, rfl, hq⟩)) (fun Z f A F hR hO hF => by subst hF; exact (o_entry (d := 0) hR hO.2.2.2.2.1).mono (fun w Y' hq => ⟨hq, k_entry hO⟩)) next
set_option maxRecDepth 100000 in
theorem law_23 (C : lC G E) (hI : LI G j σ) (hj : 6 * j + 6 ≤ E.2.2.2.2.2.2.2.2.1) (next : ∀ σ', LI G (j + 1) σ' → lj G E 18 (lo4 G E (6 * (j + 1))) [] σ') : lj G E 921 (lo4 G E (6 * j)) [] σ := by
  exact lj_do (P := fun Z F => F = F_closed (E.2.2.2.2.2.2.2.2.2 (6 * j + 1)) 1 Z) C hI hj (by omega) (by decide +kernel) (by decide +kernel) (by decide +kernel) (by decide +kernel) (by decide +kernel) (by decide +kernel) (by decide +kernel) kX8_close iX8_close lL_111 ⟨_, rfl, rfl⟩ kX9_close iX9_close lL_114 ⟨_, rfl, rfl⟩ (fun own rc Z hp hO => (c_PP_close (d := 0) hp ).mono (fun v σ' hq => ⟨_, rfl, hq⟩)) (fun Z f A F hR hO hF => by subst hF; exact (o_close (d := 0) hR hO.2.2.2.2.1).mono (fun w Y' hq => ⟨hq, k_closed (Or.inr rfl) hO⟩)) next
set_option maxRecDepth 100000 in
theorem law_24 (C : lC G E) (hI : LI G j σ) (hj : 6 * j + 6 ≤ E.2.2.2.2.2.2.2.2.1) (next : ∀ σ', LI G (j + 1) σ' → lj G E 18 (lo4 G E (6 * (j + 1))) [] σ') : lj G E 944 (lo4 G E (6 * j)) [] σ := by
  exact lj_do (P := fun Z F => F = F_closed (E.2.2.2.2.2.2.2.2.2 (6 * j + 1)) 0 Z) C hI hj (by omega) (by decide +kernel) (by decide +kernel) (by decide +kernel) (by decide +kernel) (by decide +kernel) (by decide +kernel) (by decide +kernel) kX8_reopen iX8_reopen lL_115 ⟨_, rfl, rfl⟩ kX9_reopen iX9_reopen lL_118 ⟨_, rfl, rfl⟩ (fun own rc Z hp hO => (c_PP_reopen (d := 0) hp ).mono (fun v σ' hq => ⟨_, rfl, hq⟩)) (fun Z f A F hR hO hF => by subst hF; exact (o_reopen (d := 0) hR hO.2.2.2.2.1).mono (fun w Y' hq => ⟨hq, k_closed (Or.inl rfl) hO⟩)) next
set_option maxRecDepth 100000 in
theorem law_25 (C : lC G E) (hI : LI G j σ) (hj : 6 * j + 6 ≤ E.2.2.2.2.2.2.2.2.1) (next : ∀ σ', LI G (j + 1) σ' → lj G E 18 (lo4 G E (6 * (j + 1))) [] σ') : lj G E 967 (lo4 G E (6 * j)) [] σ := by
  exact lj_do (P := fun Z F => F = F_overlay (E.2.2.2.2.2.2.2.2.2 (6 * j + 1)) (E.2.2.2.2.2.2.2.2.2 (6 * j + 2)) Z) C hI hj (by omega) (by decide +kernel) (by decide +kernel) (by decide +kernel) (by decide +kernel) (by decide +kernel) (by decide +kernel) (by decide +kernel) kX8_overlay iX8_overlay lL_119 ⟨_, rfl, rfl⟩ kX9_overlay iX9_overlay lL_122 ⟨_, rfl, rfl⟩ (fun own rc Z hp hO => (c_PP_overlay (d := 0) hp ).mono (fun v σ' hq => ⟨_, rfl, hq⟩)) (fun Z f A F hR hO hF => by subst hF; exact (o_overlay (d := 0) hR hO.2.2.2.2.1).mono (fun w Y' hq => ⟨hq, k_overlay hO⟩)) next
set_option maxRecDepth 100000 in
theorem law_26 (C : lC G E) (hI : LI G j σ) (hj : 6 * j + 6 ≤ E.2.2.2.2.2.2.2.2.1) (next : ∀ σ', LI G (j + 1) σ' → lj G E 18 (lo4 G E (6 * (j + 1))) [] σ') : lj G E 1000 (lo4 G E (6 * j)) [] σ := by
  exact lj_do (P := fun Z F => F = F_find (E.2.2.2.2.2.2.2.2.2 (6 * j + 1)) (E.2.2.2.2.2.2.2.2.2 (6 * j + 2)) Z) C hI hj (by omega) (by decide +kernel) (by decide +kernel) (by decide +kernel) (by decide +kernel) (by decide +kernel) (by decide +kernel) (by decide +kernel) kX8_find iX8_find lL_123 ⟨_, rfl, rfl⟩ kX9_find iX9_find lL_126 ⟨_, rfl, rfl⟩ (fun own rc Z hp hO => (c_PP_find (d := 0) hp ).mono (fun v σ' hq => ⟨_, rfl, hq⟩)) (fun Z f A F hR hO hF => by subst hF; exact (o_find (d := 0) hR hO.2.2.2.2.1).mono (fun w Y' hq => ⟨hq, k_find hO⟩)) next
set_option maxRecDepth 100000 in
theorem law_27 (C : lC G E) (hI : LI G j σ) (hj : 6 * j + 6 ≤ E.2.2.2.2.2.2.2.2.1) (next : ∀ σ', LI G (j + 1) σ' → lj G E 18 (lo4 G E (6 * (j + 1))) [] σ') : lj G E 1033 (lo4 G E (6 * j)) [] σ := by
  exact lj_do (P := fun Z F => F = F_path (E.2.2.2.2.2.2.2.2.2 (6 * j + 1)) (E.2.2.2.2.2.2.2.2.2 (6 * j + 2)) (E.2.2.2.2.2.2.2.2.2 (6 * j + 3)) Z) C hI hj (by omega) (by decide +kernel) (by decide +kernel) (by decide +kernel) (by decide +kernel) (by decide +kernel) (by decide +kernel) (by decide +kernel) kX8_path iX8_path lL_127 ⟨_, rfl, rfl⟩ kX9_path iX9_path lL_130 ⟨_, rfl, rfl⟩ (fun own rc Z hp hO => (c_PP_path (d := 0) hp ).mono (fun v σ' hq => ⟨_, rfl, hq⟩)) (fun Z f A F hR hO hF => by subst hF; exact (o_path (d := 0) hR hO.2.2.2.2.1).mono (fun w Y' hq => ⟨hq, k_path hO⟩)) next
set_option maxRecDepth 100000 in
theorem law_28 (C : lC G E) (hI : LI G j σ) (hj : 6 * j + 6 ≤ E.2.2.2.2.2.2.2.2.1) (next : ∀ σ', LI G (j + 1) σ' → lj G E 18 (lo4 G E (6 * (j + 1))) [] σ') : lj G E 1076 (lo4 G E (6 * j)) [] σ := by
  exact lj_do (P := fun Z F => F = F_page (E.2.2.2.2.2.2.2.2.2 (6 * j + 1)) (E.2.2.2.2.2.2.2.2.2 (6 * j + 2)) Z) C hI hj (by omega) (by decide +kernel) (by decide +kernel) (by decide +kernel) (by decide +kernel) (by decide +kernel) (by decide +kernel) (by decide +kernel) kX8_page iX8_page lL_131 ⟨_, rfl, rfl⟩ kX9_page iX9_page lL_134 ⟨_, rfl, rfl⟩ (fun own rc Z hp hO => (c_PP_page (d := 0) hp ).mono (fun v σ' hq => ⟨_, rfl, hq⟩)) (fun Z f A F hR hO hF => by subst hF; exact (o_page (d := 0) hR hO.2.2.2.2.1).mono (fun w Y' hq => ⟨hq, k_page hO⟩)) next
set_option maxRecDepth 100000 in
theorem law_29 (C : lC G E) (hI : LI G j σ) (hj : 6 * j + 6 ≤ E.2.2.2.2.2.2.2.2.1) (next : ∀ σ', LI G (j + 1) σ' → lj G E 18 (lo4 G E (6 * (j + 1))) [] σ') : lj G E 1109 (lo4 G E (6 * j)) [] σ := by
  exact lj_do (P := fun Z F => F = F_read (E.2.2.2.2.2.2.2.2.2 (6 * j + 1)) (E.2.2.2.2.2.2.2.2.2 (6 * j + 2)) (E.2.2.2.2.2.2.2.2.2 (6 * j + 3)) Z) C hI hj (by omega) (by decide +kernel) (by decide +kernel) (by decide +kernel) (by decide +kernel) (by decide +kernel) (by decide +kernel) (by decide +kernel) kX8_read iX8_read lL_135 ⟨_, rfl, rfl⟩ kX9_read iX9_read lL_138 ⟨_, rfl, rfl⟩ (fun own rc Z hp hO => (c_PP_read (d := 0) hp ).mono (fun v σ' hq => ⟨_, rfl, hq⟩)) (fun Z f A F hR hO hF => by subst hF; exact (o_read (d := 0) hR hO.2.2.2.2.1).mono (fun w Y' hq => ⟨hq, k_read hO⟩)) next
set_option maxRecDepth 100000 in
theorem law_30 (C : lC G E) (hI : LI G j σ) (hj : 6 * j + 6 ≤ E.2.2.2.2.2.2.2.2.1) (next : ∀ σ', LI G (j + 1) σ' → lj G E 18 (lo4 G E (6 * (j + 1))) [] σ') : lj G E 1152 (lo4 G E (6 * j)) [] σ := by
  exact lj_do (P := fun Z F => F = F_edition (E.2.2.2.2.2.2.2.2.2 (6 * j + 1)) (E.2.2.2.2.2.2.2.2.2 (6 * j + 2)) Z) C hI hj (by omega) (by decide +kernel) (by decide +kernel) (by decide +kernel) (by decide +kernel) (by decide +kernel) (by decide +kernel) (by decide +kernel) kX8_edition iX8_edition lL_139 ⟨_, rfl, rfl⟩ kX9_edition iX9_edition lL_142 ⟨_, rfl, rfl⟩ (fun own rc Z hp hO => (c_PP_edition (d := 0) hp ).mono (fun v σ' hq => ⟨_, rfl, hq⟩)) (fun Z f A F hR hO hF => by subst hF; exact (o_edition (d := 0) hR hO.2.2.2.2.1).mono (fun w Y' hq => ⟨hq, k_edition hO⟩)) next
set_option maxRecDepth 100000 in
theorem law_31 (C : lC G E) (hI : LI G j σ) (hj : 6 * j + 6 ≤ E.2.2.2.2.2.2.2.2.1) (next : ∀ σ', LI G (j + 1) σ' → lj G E 18 (lo4 G E (6 * (j + 1))) [] σ') : lj G E 1185 (lo4 G E (6 * j)) [] σ := by
  exact lj_do (P := fun Z F => F = F_needed (E.2.2.2.2.2.2.2.2.2 (6 * j + 1)) (E.2.2.2.2.2.2.2.2.2 (6 * j + 2)) Z) C hI hj (by omega) (by decide +kernel) (by decide +kernel) (by decide +kernel) (by decide +kernel) (by decide +kernel) (by decide +kernel) (by decide +kernel) kX8_needed iX8_needed lL_143 ⟨_, rfl, rfl⟩ kX9_needed iX9_needed lL_146 ⟨_, rfl, rfl⟩ (fun own rc Z hp hO => (c_PP_needed (d := 0) hp ).mono (fun v σ' hq => ⟨_, rfl, hq⟩)) (fun Z f A F hR hO hF => by subst hF; exact (o_needed (d := 0) hR hO.2.2.2.2.1).mono (fun w Y' hq => ⟨hq, k_needed hO⟩)) next
def ltg (k : Nat) : Nat := [176, 219, 278, 301, 334, 397, 430, 453, 476, 509, 552, 585, 608, 641, 674, 717, 740, 773, 786, 819, 842, 875, 888, 921, 944, 967, 1000, 1033, 1076, 1109, 1152, 1185].getD k 0
theorem law_sw (C : lC G E) (hI : LI G j σ) (hj : 6 * j + 6 ≤ E.2.2.2.2.2.2.2.2.1) (next : ∀ σ', LI G (j + 1) σ' → lj G E 18 (lo4 G E (6 * (j + 1))) [] σ') : ∀ k, k < 32 → lj G E (ltg k) (lo4 G E (6 * j)) [] σ := by
  intro k hk
  match k, hk with
  | 0, _ => exact law_0 C hI hj next
  | 1, _ => exact law_1 C hI hj next
  | 2, _ => exact law_2 C hI hj next
  | 3, _ => exact law_3 C hI hj next
  | 4, _ => exact law_4 C hI hj next
  | 5, _ => exact law_5 C hI hj next
  | 6, _ => exact law_6 C hI hj next
  | 7, _ => exact law_7 C hI hj next
  | 8, _ => exact law_8 C hI hj next
  | 9, _ => exact law_9 C hI hj next
  | 10, _ => exact law_10 C hI hj next
  | 11, _ => exact law_11 C hI hj next
  | 12, _ => exact law_12 C hI hj next
  | 13, _ => exact law_13 C hI hj next
  | 14, _ => exact law_14 C hI hj next
  | 15, _ => exact law_15 C hI hj next
  | 16, _ => exact law_16 C hI hj next
  | 17, _ => exact law_17 C hI hj next
  | 18, _ => exact law_18 C hI hj next
  | 19, _ => exact law_19 C hI hj next
  | 20, _ => exact law_20 C hI hj next
  | 21, _ => exact law_21 C hI hj next
  | 22, _ => exact law_22 C hI hj next
  | 23, _ => exact law_23 C hI hj next
  | 24, _ => exact law_24 C hI hj next
  | 25, _ => exact law_25 C hI hj next
  | 26, _ => exact law_26 C hI hj next
  | 27, _ => exact law_27 C hI hj next
  | 28, _ => exact law_28 C hI hj next
  | 29, _ => exact law_29 C hI hj next
  | 30, _ => exact law_30 C hI hj next
  | 31, _ => exact law_31 C hI hj next
  | k + 32, hk => exact absurd hk (by omega)
end LM
