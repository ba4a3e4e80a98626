/-! ===== the law from its entry ===== -/
theorem rep0 {n i : Nat} : (List.replicate n (0 : Int32)).getD i 0 = 0 := by
  rw [List.getD_eq_getElem?_getD, List.getElem?_replicate]
  split <;> rfl
theorem yNew0 (k i : Nat) : (yNew.2 k).getD i 0 = 0 := by
  unfold yNew
  dsimp only
  split
  · exact rep0
  · simp
theorem mR_new : mR zNew yNew := by
  refine ⟨⟨rfl, rfl, rfl, rfl, rfl, fun i e he => ?_, rfl, fun i e he => ?_, rfl, fun i e he => ?_⟩, ⟨rfl, fun p x hx => ?_⟩, ⟨rfl, fun i b hb => ?_⟩, fun b hb => ⟨?_, ?_, fun i o ho => ?_⟩, ⟨rfl, fun e x hx => ?_⟩, rfl⟩
  · have he : ([] : List (Int32 × Int32 × Int32))[i]? = some e := he
    simp at he
  · have he : ([] : List Int32)[i]? = some e := he
    simp at he
  · have he : ([] : List (Int32 × Int32 × List Int32))[i]? = some e := he
    simp at he
  · have hx : ([] : List pP)[p]? = some x := hx
    simp at hx
  · have hb : ([] : List Int32)[i]? = some b := hb
    simp at hb
  · rw [yNew0]; rfl
  · rw [yNew0]; rfl
  · have ho : (List.replicate 88 (none : Option (List Int32)))[i]? = some o := ho
    rw [List.getElem?_replicate] at ho
    split at ho
    · cases ho
      exact ⟨by rw [yNew0]; rfl, fun k x hx => by simp at hx⟩
    · cases ho
  · have hx : ([] : sL)[e]? = some x := hx
    simp at hx
theorem and31 (x : Int32) : ∃ k : Nat, k < 32 ∧ (x &&& 31).toInt = k := by
  have h : (x &&& 31).toBitVec.toNat < 32 := by
    have e : (x &&& 31).toBitVec.toNat = x.toBitVec.toNat &&& 31 := by simp
    rw [e]
    exact Nat.lt_succ_of_le Nat.and_le_right
  refine ⟨_, h, ?_⟩
  have e := i32_nat (x &&& 31)
  generalize (x &&& 31).toBitVec.toNat = n at h e
  rw [e]
  exact i_n (by omega)
theorem six {L : Nat} (h : L ≤ 3072) : (nI L - 6).toInt = (L : Int) - 6 := by
  by_cases c : 6 ≤ L
  · have e : nI L - 6 = nI (L - 6) := nI_subN (b := 6) c
    rw [e, i_n (by omega)]
    omega
  · have hh : ∀ L, L < 6 → (nI L - 6).toInt = (L : Int) - 6 := by decide
    exact hh L (by omega)
section LN
variable {G : xG} {E : lE}
set_option maxRecDepth 100000 in
theorem law_loop (C : lC G E) : ∀ (n j : Nat) (σ : xS), n + j = 513 → LI G j σ → lj G E 18 (lo4 G E (6 * j)) [] σ := by
  have hL := C.2.2.2.2.2.2.2.2.2.2.2
  intro n
  induction n with
  | zero =>
    intro j σ hn hI
    obtain ⟨own, rc, Z, f, A, -, -, -, -, b1, b2⟩ := id hI
    refine lj.one C (show tL_law.lookup 18 = some ((26, 3, 0), 1) by decide +kernel) rfl ?_
    refine lj.one C (show tL_law.lookup 19 = some ((42, 0, 0), 1) by decide +kernel) rfl ?_
    refine lj_slen C (show tL_law.lookup 20 = some ((190, 0, 0), 1) by decide +kernel) ?_
    refine lj.one C (show tL_law.lookup 21 = some ((16, 0, 6), 2) by decide +kernel) rfl ?_
    refine lj.one C (show tL_law.lookup 23 = some ((100, 0, 0), 1) by decide +kernel) rfl ?_
    refine lj_icmpgt C (show tL_law.lookup 24 = some ((163, 1224, 0), 3) by decide +kernel) (fun c => ?_) (fun c => ?_)
    · refine lj.one C (show tL_law.lookup 1224 = some ((2, 0, 1), 1) by decide +kernel) rfl ?_
      exact lj_end C (show tL_law.lookup 1225 = some ((172, 0, 0), 1) by decide +kernel) (by omega) (by omega)
    · exact absurd (by rw [i_lt, six hL, i_n (by omega)]; omega) c
  | succ n ih =>
    intro j σ hn hI
    obtain ⟨own, rc, Z, f, A, -, -, -, -, b1, b2⟩ := id hI
    refine lj.one C (show tL_law.lookup 18 = some ((26, 3, 0), 1) by decide +kernel) rfl ?_
    refine lj.one C (show tL_law.lookup 19 = some ((42, 0, 0), 1) by decide +kernel) rfl ?_
    refine lj_slen C (show tL_law.lookup 20 = some ((190, 0, 0), 1) by decide +kernel) ?_
    refine lj.one C (show tL_law.lookup 21 = some ((16, 0, 6), 2) by decide +kernel) rfl ?_
    refine lj.one C (show tL_law.lookup 23 = some ((100, 0, 0), 1) by decide +kernel) rfl ?_
    refine lj_icmpgt C (show tL_law.lookup 24 = some ((163, 1224, 0), 3) by decide +kernel) (fun c => ?_) (fun c => ?_)
    · refine lj.one C (show tL_law.lookup 1224 = some ((2, 0, 1), 1) by decide +kernel) rfl ?_
      exact lj_end C (show tL_law.lookup 1225 = some ((172, 0, 0), 1) by decide +kernel) (by omega) (by omega)
    · rw [i_lt, six hL, i_n (by omega)] at c
      have hj : 6 * j + 6 ≤ E.2.2.2.2.2.2.2.2.1 := by omega
      refine lj.one C (show tL_law.lookup 27 = some ((42, 0, 0), 1) by decide +kernel) rfl ?_
      refine lj.one C (show tL_law.lookup 28 = some ((26, 3, 0), 1) by decide +kernel) rfl ?_
      refine lj_sld C (show tL_law.lookup 29 = some ((46, 0, 0), 1) by decide +kernel) (by omega) ?_
      refine lj.one C (show tL_law.lookup 30 = some ((16, 0, 31), 2) by decide +kernel) rfl ?_
      refine lj.one C (show tL_law.lookup 32 = some ((126, 0, 0), 1) by decide +kernel) rfl ?_
      obtain ⟨k, hk, hx⟩ := and31 (E.2.2.2.2.2.2.2.2.2 (6 * j))
      have hsw : ∀ k, k < 32 → ∃ off : Int, (#[143, 186, 245, 268, 301, 364, 397, 420, 443, 476, 519, 552, 575, 608, 641, 684, 707, 740, 753, 786, 809, 842, 855, 888, 911, 934, 967, 1000, 1043, 1076, 1119, 1152] : Array Int)[k]? = some off ∧ (33 : Int) + off = (ltg k : Int) := by
        intro k hk
        have h : ∀ k, k < 32 → (#[143, 186, 245, 268, 301, 364, 397, 420, 443, 476, 519, 552, 575, 608, 641, 684, 707, 740, 753, 786, 809, 842, 855, 888, 911, 934, 967, 1000, 1043, 1076, 1119, 1152] : Array Int)[k]? = some ((ltg k : Int) - 33) := by decide +kernel
        exact ⟨_, h k hk, by omega⟩
      obtain ⟨off, h1, h2⟩ := hsw k hk
      exact lj_switch C hx hk h1 h2 (law_sw C hI hj (fun σ' hI' => ih (j + 1) σ' (by omega) hI') k hk)
set_option maxRecDepth 100000 in
theorem law_start (C : lC G E) : lj G E 0 [some (.ref E.2.2.2.2.2.2.2.1), none, none, none] [] (fun _ => none, 0, 0) := by
  have n8 : xN 8 = 12 := rfl
  have n9 : xN 9 = 57 := rfl
  refine lj_new C (show tL_law.lookup 0 = some ((187, 7, 0), 3) by decide +kernel) nL_7 (by show 0 + 1 ≤ 600000; omega) (by rw [n8]; show 0 + 12 ≤ 7302249; omega) ?_
  refine lj.one C (show tL_law.lookup 3 = some ((89, 0, 0), 1) by decide +kernel) rfl ?_
  refine lj_callI (As := []) (rest := [rf G 0]) C (show tL_law.lookup 4 = some ((183, 9, 0), 3) by decide +kernel) rfl rfl kX8_init iX8_init lL_9 (c_PP_init (d := 0) (show (if (0 : Nat) = 0 then some ((8, xdef 8) : xC) else none) = some (8, xdef 8) from if_pos rfl) rfl) rfl rfl (by simp [Value.category]) (by omega) (fun v σ1 hq => ?_) (fun v σ1 hq => ?_)
  · obtain ⟨-, -, e1, e2⟩ := hq
    have e2 : σ1.2.2 ≤ 0 + xN 8 + 20000 := e2
    rw [n8] at e2
    exact ⟨by omega, by omega⟩
  obtain ⟨rfl, hw, e1, e2⟩ := hq
  have e2 : σ1.2.2 ≤ 0 + xN 8 + 20000 := e2
  rw [n8] at e2
  refine lj.one C (show tL_law.lookup 7 = some ((75, 1, 0), 1) by decide +kernel) rfl ?_
  refine lj_new C (show tL_law.lookup 8 = some ((187, 10, 0), 3) by decide +kernel) nL_10 (by omega) (by rw [n9]; omega) ?_
  refine lj.one C (show tL_law.lookup 11 = some ((89, 0, 0), 1) by decide +kernel) rfl ?_
  rw [e1]
  refine lj_callI (As := []) (rest := [rf G 87]) C (show tL_law.lookup 12 = some ((183, 12, 0), 3) by decide +kernel) rfl rfl kX9_init iX9_init lL_12 (cm_init (d := 0) (a := 87) (if_pos e1.symm) (by show σ1.2.1 + 1 = _; omega)) rfl rfl (by simp [Value.category]) (by omega) (fun v σ2 hq => ?_) (fun v σ2 hq => ?_)
  · obtain ⟨-, -, -, g1, g2⟩ := hq
    have g2 : σ2.2.2 ≤ σ1.2.2 + xN 9 + 180000 := g2
    rw [n9] at g2
    exact ⟨by omega, by omega⟩
  obtain ⟨rfl, hm, hk, g1, g2⟩ := hq
  have g2 : σ2.2.2 ≤ σ1.2.2 + xN 9 + 180000 := g2
  rw [n9] at g2
  refine lj.one C (show tL_law.lookup 15 = some ((75, 2, 0), 1) by decide +kernel) rfl ?_
  refine lj.one C (show tL_law.lookup 16 = some ((2, 0, 0), 1) by decide +kernel) rfl ?_
  refine lj.one C (show tL_law.lookup 17 = some ((59, 3, 0), 1) by decide +kernel) rfl ?_
  obtain ⟨own, hp⟩ := hw σ2 (fun q hq => by
    rw [hk q hq]
    exact if_neg (by omega)) (by omega)
  exact law_loop C 513 0 σ2 (by omega) ⟨own, 65, zNew, yNew.1, yNew.2, hp, hm, mR_new, okN_new, by omega, by omega⟩
end LN
theorem xin_key {own : String} {idx ci : Nat} {r : vw_C} (hn : xnl own idx ci) (h : vwCl[ci]? = some r) : Cond.instantiable r.1 r.2.2 ∈ xGw := by
  obtain ⟨r', h', -, w, -⟩ := hn
  rw [h] at h'
  cases h'
  exact w
theorem xin_ok {ci : Nat} {r : vw_C} (h : vwCl[ci]? = some r) : Cond.instantiable r.1 r.2.2 ∈ xGw := by
  match ci, h with
  | 0, h => exact xin_key nX8_32 h
  | 1, h => exact xin_key nX8_16 h
  | 2, h => exact xin_key nX8_9 h
  | 3, h => exact xin_key nX7_9 h
  | 4, h => exact xin_key nX8_60 h
  | 5, h => exact xin_key nX8_46 h
  | 6, h => exact xin_key nX8_39 h
  | 7, h => exact xin_key nX8_53 h
  | 8, h => exact xin_key nL_7 h
  | 9, h => exact xin_key nL_10 h
  | n + 10, h => simp [vwCl] at h
theorem xKn_all {s : State} {args : Array Value} (hts : ∀ w ∈ xGw, w.before args s = true) : ∃ (dC : Nat → ClassId) (dI : Nat → Nat → Nat), ∀ (k : Nat) (q : vw_C), vwCl[k]? = some q → u_Kn s q.1 q.2.1 q.2.2 (dC k) (dI k) := by
  have h : ∀ k : Nat, ∃ (z : ClassId × (Nat → Nat)), ∀ q : vw_C, vwCl[k]? = some q → u_Kn s q.1 q.2.1 q.2.2 z.1 z.2 := by
    intro k
    cases hq : vwCl[k]? with
    | none => exact ⟨((0 : Nat), fun _ => 0), fun q h => by cases h⟩
    | some q =>
      obtain ⟨cC, iS, hK⟩ := u_known (ws := xGw) (C := q.1) (T := q.2.1) (N := q.2.2) (n := q.2.2) hts (xus_ok hq) (hts _ (xin_ok hq))
      exact ⟨(cC, iS), fun q' h => by cases h; exact hK⟩
  exact ⟨fun k => (h k).choose.1, fun k => (h k).choose.2, fun k q hq => (h k).choose_spec q hq⟩
theorem xarP {s : State} {args : Array Value} {ty : FieldType} (h : (Cond.arrayClass ty).before args s = true) : ∃ c, ArrOfT s c ty ∧ s.vm.findClass ("[" ++ ty.toString) = some c := by
  obtain ⟨c, k, comp, h1, h2, h3⟩ := Cond.arrayClass_spec h
  exact ⟨c, fun n z => ⟨fun k h => (by cases h), k, h2, comp, h3⟩, h1⟩
theorem xarO {s : State} {C : String} (h : va_AO C s) : ∃ c, ArrOfT s c (.object C) ∧ va_RA s c (.object C) := by
  obtain ⟨comp, c, k, h1, h2, h3, h4, h5⟩ := Cond.arrayOver_spec h
  exact ⟨c, fun n z => ⟨fun k h => (by cases h), k, h3, comp, h4⟩, k, comp, h3, h4, h1, h5⟩
theorem xarA {s : State} (h : xOA s) : ∃ c, ArrOfT s c (.array .int) ∧ va_RA s c (.array .int) := by
  obtain ⟨comp, c, k, h1, h2, h3, h4, h5⟩ := arrayOverA_spec h
  exact ⟨c, fun n z => ⟨fun k h => (by cases h), k, h3, comp, h4⟩, h5⟩
set_option maxRecDepth 100000 in
theorem xK_all {s : State} {b : Nat} (l : Launch) (N0 : Nat) (hts : ∀ w ∈ lw_tbl, w.before #[Value.ref b] s = true) : ∃ (dC : Nat → ClassId) (dI : Nat → Nat → Nat), xK ((l, dC, dI, N0) : xG) s := by
  have htg : ∀ w ∈ xGw, w.before #[Value.ref b] s = true := fun w hw => hts w (List.mem_filter.mp hw).1
  obtain ⟨dC, dI, hKn⟩ := xKn_all htg
  have hAO : ∀ C ∈ ["PackPost$Book", "PackPost$ByteRow", "PackPost$Entry"], va_AO C s := by
    intro C hC
    simp only [List.mem_cons, List.not_mem_nil, or_false] at hC
    rcases hC with rfl | rfl | rfl
    · exact va_AO.of (hts (.arrayOver (.object "PackPost$Book")) (by decide +kernel))
    · exact va_AO.of (hts (.arrayOver (.object "PackPost$ByteRow")) (by decide +kernel))
    · exact va_AO.of (hts (.arrayOver (.object "PackPost$Entry")) (by decide +kernel))
  have hOA : xOA s := hts (.arrayOver (.array .int)) (by decide +kernel)
  have hNw : ∀ w ∈ xNw, va_Nw w s := by
    intro w hw
    have hm := List.mem_filter.mp hw
    have h := hts w hm.1
    have hx := hm.2
    cases w <;> first | exact h | exact absurd hx (by simp [xisN])
  obtain ⟨c10, t10, n10⟩ := xarP (htg _ a_10)
  obtain ⟨c11, t11, n11⟩ := xarP (htg _ a_11)
  obtain ⟨c12, t12, n12⟩ := xarP (htg _ a_12)
  obtain ⟨c13, t13, n13⟩ := xarO (hAO "PackPost$Book" (by simp))
  obtain ⟨c14, t14, n14⟩ := xarO (hAO "PackPost$ByteRow" (by simp))
  obtain ⟨c15, t15, n15⟩ := xarO (hAO "PackPost$Entry" (by simp))
  obtain ⟨c16, t16, n16⟩ := xarA hOA
  refine ⟨fun k => if k = 10 then c10 else if k = 11 then c11 else if k = 12 then c12 else if k = 13 then c13 else if k = 14 then c14 else if k = 15 then c15 else if k = 16 then c16 else dC k, dI, ⟨⟨fun k q hq => ?_, fun k q hq => ?_⟩, hNw, hAO, hOA⟩⟩
  · have hk : k < 10 := (List.getElem?_eq_some_iff.mp hq).1
    show u_Kn s q.1 q.2.1 q.2.2 (if k = 10 then c10 else if k = 11 then c11 else if k = 12 then c12 else if k = 13 then c13 else if k = 14 then c14 else if k = 15 then c15 else if k = 16 then c16 else dC k) (dI k)
    rw [if_neg (by omega), if_neg (by omega), if_neg (by omega), if_neg (by omega), if_neg (by omega), if_neg (by omega), if_neg (by omega)]
    exact hKn k q hq
  · match k, hq with
    | 0, hq => cases hq; exact ⟨t10, n10⟩
    | 1, hq => cases hq; exact ⟨t11, n11⟩
    | 2, hq => cases hq; exact ⟨t12, n12⟩
    | 3, hq => cases hq; exact ⟨t13, n13⟩
    | 4, hq => cases hq; exact ⟨t14, n14⟩
    | 5, hq => cases hq; exact ⟨t15, n15⟩
    | 6, hq => cases hq; exact ⟨t16, n16⟩
    | k + 7, hq => simp [xtys] at hq
theorem whole_start {p : Program} {e : Env} {s : State} {m : MethodId} {below : List Frame} {meth : Method} {c : Code} (l : Launch) {b L : Nat} {xs : Nat → Int32} (hL : L ≤ 3072) (C0 : lw_At p s m meth c b L xs) : W p l e room_1 s m #[Value.ref b] below meth c s.heap [] 0 0 (lw_Z below #[Value.ref b] s) (entryFrame m ([Value.ref b] : List Value).toArray 4) := by
  obtain ⟨hx, hb, hr, hml, hown, hts, hX, hbl, hlocks, hgv⟩ := C0
  have htg : ∀ w ∈ xGw, w.before #[Value.ref b] s = true := fun w hw => hts w (List.mem_filter.mp hw).1
  obtain ⟨dC, dI, hK⟩ := xK_all l s.heap.size hts
  have C : lC ((l, dC, dI, s.heap.size) : xG) (p, e, s, m, below, meth, c, b, L, xs) := ⟨hx, hb, hr, hml, hown, htg, hK, hX, hbl, hlocks, rfl, hL⟩
  rw [lg_entry_eq]
  exact law_start C s.heap [] _ ⟨rfl, fun k c h => by cases h⟩ ⟨fun q _ => rfl, fun l hl => absurd hl List.not_mem_nil⟩ (xlo_entry (As := [.ref b]) (n := 4) (by simp [Value.category]) (by simp))
