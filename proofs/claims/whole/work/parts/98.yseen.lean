/-! ===== what an entry sees ===== -/
theorem sbit_tb {s : Int32} {j : Nat} (h : j < 12) : sbit s j = s.toBitVec.getLsbD j := by
  unfold sbit
  have e : ((nI j).toUInt32 &&& Int32.toUInt32 31) = UInt32.ofNat j := by
    have : ∀ j, j < 12 → ((nI j).toUInt32 &&& Int32.toUInt32 31) = UInt32.ofNat j := by decide
    exact this j h
  rw [e]
  have h1 : ((s.toUInt32 >>> UInt32.ofNat j).toInt32 &&& 1).toBitVec = (s.toBitVec >>> j) &&& 1#32 := by
    simp [Nat.mod_eq_of_lt (show j < 4294967296 by omega), Nat.mod_eq_of_lt (show j < 32 by omega)]
  have h2 : (((s.toUInt32 >>> UInt32.ofNat j).toInt32 &&& 1) == 1) = ((s.toBitVec >>> j) &&& 1#32 == 1#32) := by
    rw [← h1]
    generalize (s.toUInt32 >>> UInt32.ofNat j).toInt32 &&& 1 = x
    rw [Bool.eq_iff_iff, beq_iff_eq, beq_iff_eq]
    exact ⟨fun h => by rw [h]; rfl, fun h => Int32.toBitVec_inj.mp h⟩
  rw [h2]
  rw [Bool.eq_iff_iff, beq_iff_eq]
  constructor
  · intro h
    have := congrArg (fun x => x.getLsbD 0) h
    simpa using this
  · intro h
    apply BitVec.eq_of_getLsbD_eq
    intro i hi
    simp only [BitVec.getLsbD_and, BitVec.getLsbD_ushiftRight]
    by_cases c : i = 0
    · subst c; simp [h]
    · have : (1#32).getLsbD i = false := by simp [BitVec.getLsbD_one, c]
      rw [this]; simp
theorem sbit_or {a b : Int32} {j : Nat} (h : j < 12) : sbit (a ||| b) j = (sbit a j || sbit b j) := by
  rw [sbit_tb h, sbit_tb h, sbit_tb h]
  simp
theorem sbit_one {m j : Nat} (h : j < 12) (hm : m < 12) : sbit ((1 : Int32) <<< (nI m &&& 31)) j = decide (j = m) := by
  have : ∀ j, j < 12 → ∀ m, m < 12 → sbit ((1 : Int32) <<< (nI m &&& 31)) j = decide (j = m) := by decide +kernel
  exact this j h m hm
theorem sbit_0 {j : Nat} (h : j < 12) : sbit 0 j = false := by
  have : ∀ j, j < 12 → sbit 0 j = false := by decide +kernel
  exact this j h
def smask (L : sL) (ms : List Int32) : Int32 := ms.foldl (fun s m => sadd L s m) 0
theorem seenI_smask (L : sL) (K : cV) : seenI L K = smask L (K.2.1.map (meetI L)) := by
  unfold seenI smask
  rw [List.foldl_map]
/-- what each entry of the shelf keeps of what it sees -/
def okM (L : sL) : Prop := ∀ (e : Nat) (x : Nat × Nat × eV), L[e]? = some x → x.2.2.2.2.1 = smask L x.2.2.2.1
def inL (L : sL) (ms : List Int32) : Prop := ∀ m ∈ ms, ∃ j, j < L.length ∧ m = nI j
theorem sadd_bit {L : sL} {s : Int32} {k j : Nat} {x : Nat × Nat × eV} (hk : k < 12) (hj : L[j]? = some x) (hL : L.length ≤ 12) : sbit (sadd L s (nI j)) k = (sbit s k || (decide (k = j) || sbit x.2.2.2.2.1 k)) := by
  have hjl := (List.getElem?_eq_some_iff.mp hj).1
  unfold sadd
  rw [sget_nI (by omega), hj]
  dsimp only
  rw [sbit_or hk, sbit_or hk, sbit_one hk (by omega)]
theorem sfold_bit {L : sL} {k : Nat} (hk : k < 12) (hL : L.length ≤ 12) : ∀ (ms : List Int32) (acc : Int32), inL L ms → (sbit (ms.foldl (fun s m => sadd L s m) acc) k = true ↔ sbit acc k = true ∨ ∃ (j : Nat) (x : Nat × Nat × eV), nI j ∈ ms ∧ L[j]? = some x ∧ (k = j ∨ sbit x.2.2.2.2.1 k = true))
  | [], acc, _ => by simp
  | m :: ms, acc, h => by
    obtain ⟨j, hj, rfl⟩ := h m (by simp)
    obtain ⟨x, hx⟩ := lt_get hj
    rw [List.foldl_cons, sfold_bit hk hL ms _ (fun m hm => h m (by simp [hm])), sadd_bit hk hx hL]
    simp only [Bool.or_eq_true, decide_eq_true_eq]
    constructor
    · rintro ((h1 | h1) | ⟨i, y, h1, h2, h3⟩)
      · exact Or.inl h1
      · exact Or.inr ⟨j, x, by simp, hx, h1⟩
      · exact Or.inr ⟨i, y, by simp [h1], h2, h3⟩
    · rintro (h1 | ⟨i, y, h1, h2, h3⟩)
      · exact Or.inl (Or.inl h1)
      · rcases List.mem_cons.mp h1 with h4 | h4
        · have hil := (List.getElem?_eq_some_iff.mp h2).1
          have : i = j := (nI_inj (by omega) (by omega)).mp h4
          subst this
          rw [hx] at h2
          cases h2
          exact Or.inl (Or.inr h3)
        · exact Or.inr ⟨i, y, h4, h2, h3⟩
theorem smask_bit {L : sL} {ms : List Int32} {k : Nat} (hk : k < 12) (hL : L.length ≤ 12) (h : inL L ms) : sbit (smask L ms) k = true ↔ ∃ (j : Nat) (x : Nat × Nat × eV), nI j ∈ ms ∧ L[j]? = some x ∧ (k = j ∨ sbit x.2.2.2.2.1 k = true) := by
  unfold smask
  rw [sfold_bit hk hL ms 0 h, sbit_0 hk]
  simp
theorem okS_in {L : sL} (h : okS L) {e : Nat} {x : Nat × Nat × eV} (hx : L[e]? = some x) : inL L x.2.2.2.1 ∧ ∀ m ∈ x.2.2.2.1, ∃ j, j < e ∧ m = nI j := by
  have h1 := (h.2 e x hx).2.2.2.1
  have hel := (List.getElem?_eq_some_iff.mp hx).1
  refine ⟨fun m hm => ?_, h1⟩
  obtain ⟨j, hj, e⟩ := h1 m hm
  exact ⟨j, by omega, e⟩
/-- what is seen is closed -/
theorem see_tr {L : sL} (h : okS L) (hM : okM L) {k m : Nat} {x : Nat × Nat × eV} (hk : k < 12) (hx : L[k]? = some x) (hm : nI m ∈ x.2.2.2.1) (hm12 : m < L.length) : ∀ (n j : Nat) (y : Nat × Nat × eV), j < n → L[j]? = some y → sbit y.2.2.2.2.1 k = true → sbit y.2.2.2.2.1 m = true
  | 0, _, _, h0, _, _ => absurd h0 (by omega)
  | n + 1, j, y, hj, hy, hb => by
    have hL := h.1
    have hi := okS_in h hy
    rw [hM j y hy, smask_bit hk hL hi.1] at hb
    rw [hM j y hy, smask_bit (by omega) hL hi.1]
    obtain ⟨i, z, i1, i2, i3⟩ := hb
    refine ⟨i, z, i1, i2, Or.inr ?_⟩
    rcases i3 with rfl | i3
    · rw [hx] at i2
      cases i2
      rw [hM k x hx, smask_bit (by omega) hL (okS_in h hx).1]
      obtain ⟨w, hw⟩ := lt_get hm12
      exact ⟨m, w, hm, hw, Or.inl rfl⟩
    · obtain ⟨i', e1, e2⟩ := hi.2 _ i1
      have hil := (List.getElem?_eq_some_iff.mp i2).1
      have hjl := (List.getElem?_eq_some_iff.mp hy).1
      have := (nI_inj (by omega) (by omega)).mp e2
      exact see_tr h hM hk hx hm hm12 n i z (by omega) i2 i3
theorem see_cl {L : sL} {ms : List Int32} (h : okS L) (hM : okM L) (hms : inL L ms) {k m : Nat} {x : Nat × Nat × eV} (hx : L[k]? = some x) (hm : nI m ∈ x.2.2.2.1) (hm12 : m < L.length) (hb : sbit (smask L ms) k = true) : sbit (smask L ms) m = true := by
  have hL := h.1
  have hkl := (List.getElem?_eq_some_iff.mp hx).1
  rw [smask_bit (by omega) hL hms] at hb ⊢
  obtain ⟨j, y, h1, h2, h3⟩ := hb
  refine ⟨j, y, h1, h2, Or.inr ?_⟩
  rcases h3 with rfl | h3
  · rw [hx] at h2
    cases h2
    rw [hM k x hx, smask_bit (by omega) hL (okS_in h hx).1]
    obtain ⟨w, hw⟩ := lt_get hm12
    exact ⟨m, w, hm, hw, Or.inl rfl⟩
  · exact see_tr h hM (by omega) hx hm hm12 (j + 1) j y (by omega) h2 h3
/-- what is closed and has all that is met has all that is seen -/
theorem see_sub {L : sL} (h : okS L) (hM : okM L) {M : Nat → Bool} (hcl : ∀ (j : Nat) (x : Nat × Nat × eV), L[j]? = some x → M j = true → ∀ m, nI m ∈ x.2.2.2.1 → m < L.length → M m = true) {i : Nat} (hi : i < 12) : ∀ (n j : Nat) (y : Nat × Nat × eV), j < n → L[j]? = some y → M j = true → sbit y.2.2.2.2.1 i = true → M i = true
  | 0, _, _, h0, _, _, _ => absurd h0 (by omega)
  | n + 1, j, y, hj, hy, hMj, hb => by
    have hL := h.1
    have hin := okS_in h hy
    rw [hM j y hy, smask_bit hi hL hin.1] at hb
    obtain ⟨k, z, i1, i2, i3⟩ := hb
    have hkl := (List.getElem?_eq_some_iff.mp i2).1
    have hMk := hcl j y hy hMj k i1 hkl
    rcases i3 with rfl | i3
    · exact hMk
    · obtain ⟨k', e1, e2⟩ := hin.2 _ i1
      have hjl := (List.getElem?_eq_some_iff.mp hy).1
      have := (nI_inj (by omega) (by omega)).mp e2
      exact see_sub h hM hcl hi n k z (by omega) i2 hMk i3
theorem see_all {L : sL} {ms : List Int32} (h : okS L) (hM : okM L) (hms : inL L ms) {M : Nat → Bool} (h1 : ∀ i, i < 12 → M i = true → sbit (smask L ms) i = true) (h2 : ∀ j, nI j ∈ ms → j < L.length → M j = true) (h3 : ∀ (j : Nat) (x : Nat × Nat × eV), L[j]? = some x → M j = true → ∀ m, nI m ∈ x.2.2.2.1 → m < L.length → M m = true) {i : Nat} (hi : i < 12) : M i = sbit (smask L ms) i := by
  rw [Bool.eq_iff_iff]
  refine ⟨h1 i hi, fun hb => ?_⟩
  rw [smask_bit hi h.1 hms] at hb
  obtain ⟨j, y, k1, k2, k3⟩ := hb
  have hjl := (List.getElem?_eq_some_iff.mp k2).1
  have hMj := h2 j k1 hjl
  rcases k3 with rfl | k3
  · exact hMj
  · exact see_sub h hM h3 hi (j + 1) j y (by omega) k2 hMj k3
def sn (A : Nat → List Int32) (M : Nat → Bool) : Prop := (A 51).length = 12 ∧ ∀ i, i < 12 → (A 51).getD i 0 = bI (M i)
theorem sn.put {A : Nat → List Int32} {M : Nat → Bool} {j : Nat} {b : Bool} (h : sn A M) (hj : j < 12) : sn (ya A 51 ((A 51).set j (bI b))) (fun i => if i = j then b else M i) := by
  refine ⟨by show ((A 51).set j _).length = 12; rw [List.length_set]; exact h.1, fun i hi => ?_⟩
  show ((A 51).set j (bI b)).getD i 0 = bI (if i = j then b else M i)
  rw [gset (by rw [h.1]; exact hj)]
  split
  · rfl
  · exact h.2 i hi
theorem mset_cl {M : Nat → Bool} {j : Nat} : (fun i => if i = j then true else M i) = fun i => M i || decide (i = j) := by
  funext i
  by_cases c : i = j
  · simp [c]
  · simp [c]
set_option maxRecDepth 100000 in
set_option maxHeartbeats 2000000 in
theorem l_fs1 {G : xG} {d a : Nat} {ez : Int} {x3 : Option yv} {f : Nat → Int} {A : Nat → List Int32} {Q : Option yv → yS → Prop} (hQ : ∀ A', fk1 51 A A' → sn A' (fun _ => false) → yw G d a mX9_findSeen 23 [some (.inr 0), some (.inl ez), some (.inl 0), x3] [] (f, A') Q) : ∀ (n k : Nat) (kz : Int) (A' : Nat → List Int32), k + n = 12 → kz = k → fk1 51 A A' → (A' 51).length = 12 → (∀ i, i < k → (A' 51).getD i 0 = 0) →
    yw G d a mX9_findSeen 2 [some (.inr 0), some (.inl ez), some (.inl kz), x3] [] (f, A') Q := by
  intro n
  induction n with
  | zero =>
    intro k kz A' hk hkz hf hl h0
    refine ygo 99999 90 rfl rfl (by first | exact trivial | (simp only [true_and, eq_self, or_true, true_or, and_true, yu, ya, reduceIte, Nat.reduceEqDiff, Int32.reduceToInt, Int.toNat_natCast, Int.reduceToNat]; omega) | decide | (simp; done) | (simp; omega)) ?_
    try simp only [List.map_cons, List.map_nil, List.length_cons, List.length_nil, ylr_s, ylr_0, Nat.reduceAdd, Nat.reduceSub, List.cons_append, List.nil_append, List.set_cons_zero, List.set_cons_succ, Option.toList_none, Option.toList_some, Int32.reduceToInt, yu, ya, reduceIte, Nat.reduceEqDiff, Int.toNat_natCast, Int.reduceToNat]
    refine yi_icmpge rfl (by refine ⟨?_, ?_⟩ <;> first | exact yr_t _ | exact yr_b _ | (unfold yr; omega)) (fun c => ?_) (fun c => ?_)
    · refine ygo 23 90 rfl rfl (by first | exact trivial | (simp only [true_and, eq_self, or_true, true_or, and_true, yu, ya, reduceIte, Nat.reduceEqDiff, Int32.reduceToInt, Int.toNat_natCast, Int.reduceToNat]; omega) | decide | (simp; done) | (simp; omega)) ?_
      try simp only [List.map_cons, List.map_nil, List.length_cons, List.length_nil, ylr_s, ylr_0, Nat.reduceAdd, Nat.reduceSub, List.cons_append, List.nil_append, List.set_cons_zero, List.set_cons_succ, Option.toList_none, Option.toList_some, Int32.reduceToInt, yu, ya, reduceIte, Nat.reduceEqDiff, Int.toNat_natCast, Int.reduceToNat]
      exact hQ A' hf ⟨hl, fun i hi => h0 i (by omega)⟩
    · omega
  | succ n ih =>
    intro k kz A' hk hkz hf hl h0
    have hkt : kz.toNat = k := by omega
    refine ygo 99999 90 rfl rfl (by first | exact trivial | (simp only [true_and, eq_self, or_true, true_or, and_true, yu, ya, reduceIte, Nat.reduceEqDiff, Int32.reduceToInt, Int.toNat_natCast, Int.reduceToNat]; omega) | decide | (simp; done) | (simp; omega)) ?_
    try simp only [List.map_cons, List.map_nil, List.length_cons, List.length_nil, ylr_s, ylr_0, Nat.reduceAdd, Nat.reduceSub, List.cons_append, List.nil_append, List.set_cons_zero, List.set_cons_succ, Option.toList_none, Option.toList_some, Int32.reduceToInt, yu, ya, reduceIte, Nat.reduceEqDiff, Int.toNat_natCast, Int.reduceToNat]
    refine yi_icmpge rfl (by refine ⟨?_, ?_⟩ <;> first | exact yr_t _ | exact yr_b _ | (unfold yr; omega)) (fun c => ?_) (fun c => ?_)
    · omega
    · refine ygo 2 90 rfl rfl (by first | exact trivial | (simp only [true_and, eq_self, or_true, true_or, and_true, yu, ya, reduceIte, Nat.reduceEqDiff, Int32.reduceToInt, Int.toNat_natCast, Int.reduceToNat]; omega) | decide | (simp; done) | (simp; omega)) ?_
      try simp only [List.map_cons, List.map_nil, List.length_cons, List.length_nil, ylr_s, ylr_0, Nat.reduceAdd, Nat.reduceSub, List.cons_append, List.nil_append, List.set_cons_zero, List.set_cons_succ, Option.toList_none, Option.toList_some, Int32.reduceToInt, yu, ya, reduceIte, Nat.reduceEqDiff, Int.toNat_natCast, Int.reduceToNat]
      refine ih (k + 1) _ _ (by omega) (by omega) hf.s (by show ((A' 51).set _ _).length = 12; rw [List.length_set]; exact hl) (fun i hi => ?_)
      show ((A' 51).set _ _).getD i 0 = 0
      rw [hkt, gset (by omega)]
      split
      · rfl
      · exact h0 i (by omega)
set_option maxRecDepth 100000 in
set_option maxHeartbeats 2000000 in
theorem l_fs2 {G : xG} {d a e : Nat} {ez : Int} {x3 : Option yv} {ms : List Int32} {f : Nat → Int} {A : Nat → List Int32} {Q : Option yv → yS → Prop} {L : sL} (hL : L.length ≤ 12) (hez : ez = e) (he : e < 12) (h40 : (A 40).getD e 0 = nI ms.length) (h41 : ∀ (i : Nat) (m : Int32), ms[i]? = some m → (A 41).getD (4 * e + i) 0 = m) (hm4 : ms.length ≤ 4) (hin : inL L ms) (hQ : ∀ A' M, fk1 51 A A' → sn A' M → (∀ i, M i = true ↔ nI i ∈ ms ∧ i < L.length) → yw G d a mX9_findSeen 58 [some (.inr 0), some (.inl ez), some (.inl 11), x3] [] (f, A') Q) : ∀ (n k : Nat) (kz : Int) (A' : Nat → List Int32) (M : Nat → Bool), k + n = ms.length → kz = k → fk1 51 A A' → sn A' M → (∀ i, M i = true ↔ nI i ∈ ms.take k ∧ i < L.length) →
    yw G d a mX9_findSeen 23 [some (.inr 0), some (.inl ez), some (.inl kz), x3] [] (f, A') Q := by
  have het : ez.toNat = e := by omega
  have hnz : (nI ms.length).toInt = ms.length := i_n (by omega)
  intro n
  induction n with
  | zero =>
    intro k kz A' M hk hkz hf hs hM
    have e40 : (A' 40).getD ez.toNat 0 = nI ms.length := by rw [hf 40 (by omega), het]; exact h40
    rw [show k = ms.length by omega, List.take_length] at hM
    refine ygo 99999 90 rfl rfl (by first | exact trivial | (simp only [true_and, eq_self, or_true, true_or, and_true, yu, ya, reduceIte, Nat.reduceEqDiff, Int32.reduceToInt, Int.toNat_natCast, Int.reduceToNat]; omega) | decide | (simp; done) | (simp; omega)) ?_
    try simp only [List.map_cons, List.map_nil, List.length_cons, List.length_nil, ylr_s, ylr_0, Nat.reduceAdd, Nat.reduceSub, List.cons_append, List.nil_append, List.set_cons_zero, List.set_cons_succ, Option.toList_none, Option.toList_some, Int32.reduceToInt, yu, ya, reduceIte, Nat.reduceEqDiff, Int.toNat_natCast, Int.reduceToNat]
    refine yi_icmpge rfl (by refine ⟨?_, ?_⟩ <;> first | exact yr_t _ | exact yr_b _ | (unfold yr; omega)) (fun c => ?_) (fun c => ?_)
    · refine ygo 58 90 rfl rfl (by first | exact trivial | (simp only [true_and, eq_self, or_true, true_or, and_true, yu, ya, reduceIte, Nat.reduceEqDiff, Int32.reduceToInt, Int.toNat_natCast, Int.reduceToNat]; omega) | decide | (simp; done) | (simp; omega)) ?_
      try simp only [List.map_cons, List.map_nil, List.length_cons, List.length_nil, ylr_s, ylr_0, Nat.reduceAdd, Nat.reduceSub, List.cons_append, List.nil_append, List.set_cons_zero, List.set_cons_succ, Option.toList_none, Option.toList_some, Int32.reduceToInt, yu, ya, reduceIte, Nat.reduceEqDiff, Int.toNat_natCast, Int.reduceToNat]
      exact hQ A' M hf hs hM
    · rw [e40] at c; omega
  | succ n ih =>
    intro k kz A' M hk hkz hf hs hM
    have e40 : (A' 40).getD ez.toNat 0 = nI ms.length := by rw [hf 40 (by omega), het]; exact h40
    obtain ⟨m, hm⟩ := lt_get (l := ms) (j := k) (by omega)
    obtain ⟨j, hj, hmj⟩ := hin m (List.mem_of_getElem? hm)
    have hi : (4 * ez + kz).toNat = 4 * e + k := by omega
    have e41 : (A' 41).getD (4 * ez + kz).toNat 0 = nI j := by rw [hf 41 (by omega), hi, h41 k m hm, hmj]
    have hjz : (nI j).toInt = j := i_n (by omega)
    have hjt : (nI j).toInt.toNat = j := by omega
    refine ygo 99999 90 rfl rfl (by first | exact trivial | (simp only [true_and, eq_self, or_true, true_or, and_true, yu, ya, reduceIte, Nat.reduceEqDiff, Int32.reduceToInt, Int.toNat_natCast, Int.reduceToNat]; omega) | decide | (simp; done) | (simp; omega)) ?_
    try simp only [List.map_cons, List.map_nil, List.length_cons, List.length_nil, ylr_s, ylr_0, Nat.reduceAdd, Nat.reduceSub, List.cons_append, List.nil_append, List.set_cons_zero, List.set_cons_succ, Option.toList_none, Option.toList_some, Int32.reduceToInt, yu, ya, reduceIte, Nat.reduceEqDiff, Int.toNat_natCast, Int.reduceToNat]
    refine yi_icmpge rfl (by refine ⟨?_, ?_⟩ <;> first | exact yr_t _ | exact yr_b _ | (unfold yr; omega)) (fun c => ?_) (fun c => ?_)
    · rw [e40] at c; omega
    · refine ygo 23 90 rfl rfl (by (simp only [true_and, and_true, eq_self, or_true, yu, ya, reduceIte, Nat.reduceEqDiff, Int32.reduceToInt, Int.toNat_natCast, Int.reduceToNat, e41]; omega)) ?_
      try simp only [List.map_cons, List.map_nil, List.length_cons, List.length_nil, ylr_s, ylr_0, Nat.reduceAdd, Nat.reduceSub, List.cons_append, List.nil_append, List.set_cons_zero, List.set_cons_succ, Option.toList_none, Option.toList_some, Int32.reduceToInt, yu, ya, reduceIte, Nat.reduceEqDiff, Int.toNat_natCast, Int.reduceToNat]
      rw [e41, hjt]
      have e1 : Int32.ofInt 1 = bI true := rfl
      rw [e1]
      refine ih (k + 1) _ _ _ (by omega) (by omega) hf.s (hs.put (by omega)) (fun i => ?_)
      rw [List.take_succ, hm]
      try dsimp only
      by_cases ci : i = j
      · subst ci
        simp [hmj, hj]
      · rw [if_neg ci, hM i]
        simp only [Option.toList_some, List.mem_append, List.mem_singleton]
        constructor
        · exact fun q => ⟨Or.inl q.1, q.2⟩
        · rintro ⟨q1 | q1, q2⟩
          · exact ⟨q1, q2⟩
          · rw [hmj] at q1
            exact absurd ((nI_inj (by omega) (by omega)).mp q1) ci
set_option maxRecDepth 100000 in
set_option maxHeartbeats 2000000 in
theorem l_fs3 {G : xG} {d a e : Nat} {ez jz : Int} {ms : List Int32} {f : Nat → Int} {A : Nat → List Int32} {Q : Option yv → yS → Prop} (hez : jz = e) (he : e < 12) (h40 : (A 40).getD e 0 = nI ms.length) (h41 : ∀ (i : Nat) (m : Int32), ms[i]? = some m → (A 41).getD (4 * e + i) 0 = m) (hm4 : ms.length ≤ 4) (hin : ∀ m ∈ ms, ∃ j, j < e ∧ m = nI j) (M0 : Nat → Bool) (hM0 : M0 e = true) (hQ : ∀ A' M, fk1 51 A A' → sn A' M → (∀ i, M i = true ↔ M0 i = true ∨ (nI i ∈ ms ∧ i < e)) → ∀ x3, yw G d a mX9_findSeen 105 [some (.inr 0), some (.inl ez), some (.inl jz), x3] [] (f, A') Q) : ∀ (n k : Nat) (kz : Int) (A' : Nat → List Int32) (M : Nat → Bool), k + n = ms.length → kz = k → fk1 51 A A' → sn A' M → (∀ i, M i = true ↔ M0 i = true ∨ (nI i ∈ ms.take k ∧ i < e)) →
    yw G d a mX9_findSeen 64 [some (.inr 0), some (.inl ez), some (.inl jz), some (.inl kz)] [] (f, A') Q := by
  have het : jz.toNat = e := by omega
  have hnz : (nI ms.length).toInt = ms.length := i_n (by omega)
  intro n
  have t1 : (bI true).toInt = 1 := rfl
  induction n with
  | zero =>
    intro k kz A' M hk hkz hf hs hM
    have e40 : (A' 40).getD jz.toNat 0 = nI ms.length := by rw [hf 40 (by omega), het]; exact h40
    have hMe : M e = true := (hM e).mpr (Or.inl hM0)
    have e51 : (A' 51).getD jz.toNat 0 = bI true := by rw [het, hs.2 e he, hMe]
    rw [show k = ms.length by omega, List.take_length] at hM
    refine ygo 99999 90 rfl rfl (by first | exact trivial | (simp only [true_and, eq_self, or_true, true_or, and_true, yu, ya, reduceIte, Nat.reduceEqDiff, Int32.reduceToInt, Int.toNat_natCast, Int.reduceToNat]; omega) | decide | (simp; done) | (simp; omega)) ?_
    try simp only [List.map_cons, List.map_nil, List.length_cons, List.length_nil, ylr_s, ylr_0, Nat.reduceAdd, Nat.reduceSub, List.cons_append, List.nil_append, List.set_cons_zero, List.set_cons_succ, Option.toList_none, Option.toList_some, Int32.reduceToInt, yu, ya, reduceIte, Nat.reduceEqDiff, Int.toNat_natCast, Int.reduceToNat]
    refine yi_ifeq rfl (by first | exact yr_t _ | exact yr_b _ | (unfold yr; omega)) (fun c1 => ?_) (fun c1 => ?_)
    · rw [e51] at c1; omega
    refine ygo 99999 90 rfl rfl (by first | exact trivial | (simp only [true_and, eq_self, or_true, true_or, and_true, yu, ya, reduceIte, Nat.reduceEqDiff, Int32.reduceToInt, Int.toNat_natCast, Int.reduceToNat]; omega) | decide | (simp; done) | (simp; omega)) ?_
    try simp only [List.map_cons, List.map_nil, List.length_cons, List.length_nil, ylr_s, ylr_0, Nat.reduceAdd, Nat.reduceSub, List.cons_append, List.nil_append, List.set_cons_zero, List.set_cons_succ, Option.toList_none, Option.toList_some, Int32.reduceToInt, yu, ya, reduceIte, Nat.reduceEqDiff, Int.toNat_natCast, Int.reduceToNat]
    refine yi_icmpge rfl (by refine ⟨?_, ?_⟩ <;> first | exact yr_t _ | exact yr_b _ | (unfold yr; omega)) (fun c => ?_) (fun c => ?_)
    · exact hQ A' M hf hs hM _
    · rw [e40] at c; omega
  | succ n ih =>
    intro k kz A' M hk hkz hf hs hM
    have e40 : (A' 40).getD jz.toNat 0 = nI ms.length := by rw [hf 40 (by omega), het]; exact h40
    have hMe : M e = true := (hM e).mpr (Or.inl hM0)
    have e51 : (A' 51).getD jz.toNat 0 = bI true := by rw [het, hs.2 e he, hMe]
    obtain ⟨m, hm⟩ := lt_get (l := ms) (j := k) (by omega)
    obtain ⟨j, hj, hmj⟩ := hin m (List.mem_of_getElem? hm)
    have hi : (4 * jz + kz).toNat = 4 * e + k := by omega
    have e41 : (A' 41).getD (4 * jz + kz).toNat 0 = nI j := by rw [hf 41 (by omega), hi, h41 k m hm, hmj]
    have hjz : (nI j).toInt = j := i_n (by omega)
    have hjt : (nI j).toInt.toNat = j := by omega
    refine ygo 99999 90 rfl rfl (by first | exact trivial | (simp only [true_and, eq_self, or_true, true_or, and_true, yu, ya, reduceIte, Nat.reduceEqDiff, Int32.reduceToInt, Int.toNat_natCast, Int.reduceToNat]; omega) | decide | (simp; done) | (simp; omega)) ?_
    try simp only [List.map_cons, List.map_nil, List.length_cons, List.length_nil, ylr_s, ylr_0, Nat.reduceAdd, Nat.reduceSub, List.cons_append, List.nil_append, List.set_cons_zero, List.set_cons_succ, Option.toList_none, Option.toList_some, Int32.reduceToInt, yu, ya, reduceIte, Nat.reduceEqDiff, Int.toNat_natCast, Int.reduceToNat]
    refine yi_ifeq rfl (by first | exact yr_t _ | exact yr_b _ | (unfold yr; omega)) (fun c1 => ?_) (fun c1 => ?_)
    · rw [e51] at c1; omega
    refine ygo 99999 90 rfl rfl (by first | exact trivial | (simp only [true_and, eq_self, or_true, true_or, and_true, yu, ya, reduceIte, Nat.reduceEqDiff, Int32.reduceToInt, Int.toNat_natCast, Int.reduceToNat]; omega) | decide | (simp; done) | (simp; omega)) ?_
    try simp only [List.map_cons, List.map_nil, List.length_cons, List.length_nil, ylr_s, ylr_0, Nat.reduceAdd, Nat.reduceSub, List.cons_append, List.nil_append, List.set_cons_zero, List.set_cons_succ, Option.toList_none, Option.toList_some, Int32.reduceToInt, yu, ya, reduceIte, Nat.reduceEqDiff, Int.toNat_natCast, Int.reduceToNat]
    refine yi_icmpge rfl (by refine ⟨?_, ?_⟩ <;> first | exact yr_t _ | exact yr_b _ | (unfold yr; omega)) (fun c => ?_) (fun c => ?_)
    · rw [e40] at c; omega
    · refine ygo 64 90 rfl rfl (by (simp only [true_and, and_true, eq_self, or_true, yu, ya, reduceIte, Nat.reduceEqDiff, Int32.reduceToInt, Int.toNat_natCast, Int.reduceToNat, e41]; omega)) ?_
      try simp only [List.map_cons, List.map_nil, List.length_cons, List.length_nil, ylr_s, ylr_0, Nat.reduceAdd, Nat.reduceSub, List.cons_append, List.nil_append, List.set_cons_zero, List.set_cons_succ, Option.toList_none, Option.toList_some, Int32.reduceToInt, yu, ya, reduceIte, Nat.reduceEqDiff, Int.toNat_natCast, Int.reduceToNat]
      rw [e41, hjt]
      have e1 : Int32.ofInt 1 = bI true := rfl
      rw [e1]
      refine ih (k + 1) _ _ _ (by omega) (by omega) hf.s (hs.put (by omega)) (fun i => ?_)
      rw [List.take_succ, hm]
      try dsimp only
      by_cases ci : i = j
      · subst ci
        simp [hmj, hj]
      · rw [if_neg ci, hM i]
        simp only [Option.toList_some, List.mem_append, List.mem_singleton]
        constructor
        · rintro (q | q)
          · exact Or.inl q
          · exact Or.inr ⟨Or.inl q.1, q.2⟩
        · rintro (q | ⟨q1 | q1, q2⟩)
          · exact Or.inl q
          · exact Or.inr ⟨q1, q2⟩
          · rw [hmj] at q1
            exact absurd ((nI_inj (by omega) (by omega)).mp q1) ci
set_option maxRecDepth 100000 in
set_option maxHeartbeats 2000000 in
theorem l_fs4 {G : xG} {d a : Nat} {ez : Int} {ms : List Int32} {f : Nat → Int} {A : Nat → List Int32} {L : sL} (h : mS L (f, A)) (hk : okS L) (hMk : okM L) (hin : inL L ms) : ∀ (n : Nat) (jz : Int) (x3 : Option yv) (A' : Nat → List Int32) (M : Nat → Bool), n ≤ 12 → jz = (n : Int) - 1 → fk1 51 A A' → sn A' M → (∀ i, i < 12 → M i = true → sbit (smask L ms) i = true) → (∀ i, i < 12 → M i = true → i < L.length) → (∀ j, nI j ∈ ms → j < L.length → M j = true) → (∀ (j : Nat) (x : Nat × Nat × eV), n ≤ j → L[j]? = some x → M j = true → ∀ m, nI m ∈ x.2.2.2.1 → m < L.length → M m = true) →
    yw G d a mX9_findSeen 58 [some (.inr 0), some (.inl ez), some (.inl jz), x3] [] (f, A') (fun w Y' => w = none ∧ Y'.1 = f ∧ fk1 51 A Y'.2 ∧ sn Y'.2 (sbit (smask L ms))) := by
  have hL := hk.1
  have t0 : (bI false).toInt = 0 := rfl
  have t1 : (bI true).toInt = 1 := rfl
  intro n
  induction n with
  | zero =>
    intro jz x3 A' M hn hjz hf hs m1 m2 m3 m4
    refine ygo 99999 90 rfl rfl (by first | exact trivial | (simp only [true_and, eq_self, or_true, true_or, and_true, yu, ya, reduceIte, Nat.reduceEqDiff, Int32.reduceToInt, Int.toNat_natCast, Int.reduceToNat]; omega) | decide | (simp; done) | (simp; omega)) ?_
    try simp only [List.map_cons, List.map_nil, List.length_cons, List.length_nil, ylr_s, ylr_0, Nat.reduceAdd, Nat.reduceSub, List.cons_append, List.nil_append, List.set_cons_zero, List.set_cons_succ, Option.toList_none, Option.toList_some, Int32.reduceToInt, yu, ya, reduceIte, Nat.reduceEqDiff, Int.toNat_natCast, Int.reduceToNat]
    refine yi_iflt rfl (by first | exact yr_t _ | exact yr_b _ | (unfold yr; omega)) (fun c => ?_) (fun c => ?_)
    · refine ygo 99999 90 rfl rfl (by first | exact trivial | (simp only [true_and, eq_self, or_true, true_or, and_true, yu, ya, reduceIte, Nat.reduceEqDiff, Int32.reduceToInt, Int.toNat_natCast, Int.reduceToNat]; omega) | decide | (simp; done) | (simp; omega)) ?_
      try simp only [List.map_cons, List.map_nil, List.length_cons, List.length_nil, ylr_s, ylr_0, Nat.reduceAdd, Nat.reduceSub, List.cons_append, List.nil_append, List.set_cons_zero, List.set_cons_succ, Option.toList_none, Option.toList_some, Int32.reduceToInt, yu, ya, reduceIte, Nat.reduceEqDiff, Int.toNat_natCast, Int.reduceToNat]
      refine yi_ret_v rfl rfl ⟨rfl, rfl, hf, hs.1, fun i hi => by rw [hs.2 i hi, see_all hk hMk hin m1 m3 (fun j x hx hMj m hm hml => m4 j x (by omega) hx hMj m hm hml) hi]⟩
    · omega
  | succ n ih =>
    intro jz x3 A' M hn hjz hf hs m1 m2 m3 m4
    have hjt : jz.toNat = n := by omega
    refine ygo 99999 90 rfl rfl (by first | exact trivial | (simp only [true_and, eq_self, or_true, true_or, and_true, yu, ya, reduceIte, Nat.reduceEqDiff, Int32.reduceToInt, Int.toNat_natCast, Int.reduceToNat]; omega) | decide | (simp; done) | (simp; omega)) ?_
    try simp only [List.map_cons, List.map_nil, List.length_cons, List.length_nil, ylr_s, ylr_0, Nat.reduceAdd, Nat.reduceSub, List.cons_append, List.nil_append, List.set_cons_zero, List.set_cons_succ, Option.toList_none, Option.toList_some, Int32.reduceToInt, yu, ya, reduceIte, Nat.reduceEqDiff, Int.toNat_natCast, Int.reduceToNat]
    refine yi_iflt rfl (by first | exact yr_t _ | exact yr_b _ | (unfold yr; omega)) (fun c => ?_) (fun c => ?_)
    · omega
    cases hMn : M n with
    | false =>
      have e51 : (A' 51).getD jz.toNat 0 = bI false := by rw [hjt, hs.2 n (by omega), hMn]
      refine ygo 99999 90 rfl rfl (by first | exact trivial | (simp only [true_and, eq_self, or_true, true_or, and_true, yu, ya, reduceIte, Nat.reduceEqDiff, Int32.reduceToInt, Int.toNat_natCast, Int.reduceToNat]; omega) | decide | (simp; done) | (simp; omega)) ?_
      try simp only [List.map_cons, List.map_nil, List.length_cons, List.length_nil, ylr_s, ylr_0, Nat.reduceAdd, Nat.reduceSub, List.cons_append, List.nil_append, List.set_cons_zero, List.set_cons_succ, Option.toList_none, Option.toList_some, Int32.reduceToInt, yu, ya, reduceIte, Nat.reduceEqDiff, Int.toNat_natCast, Int.reduceToNat]
      refine yi_ifeq rfl (by first | exact yr_t _ | exact yr_b _ | (unfold yr; omega)) (fun c1 => ?_) (fun c1 => ?_)
      · refine ygo 58 90 rfl rfl (by first | exact trivial | (simp only [true_and, eq_self, or_true, true_or, and_true, yu, ya, reduceIte, Nat.reduceEqDiff, Int32.reduceToInt, Int.toNat_natCast, Int.reduceToNat]; omega) | decide | (simp; done) | (simp; omega)) ?_
        try simp only [List.map_cons, List.map_nil, List.length_cons, List.length_nil, ylr_s, ylr_0, Nat.reduceAdd, Nat.reduceSub, List.cons_append, List.nil_append, List.set_cons_zero, List.set_cons_succ, Option.toList_none, Option.toList_some, Int32.reduceToInt, yu, ya, reduceIte, Nat.reduceEqDiff, Int.toNat_natCast, Int.reduceToNat]
        exact ih _ _ A' M (by omega) (by omega) hf hs m1 m2 m3 (fun j x hj hx hMj => by
          by_cases cj : j = n
          · subst cj; rw [hMn] at hMj; cases hMj
          · exact m4 j x (by omega) hx hMj)
      · rw [e51] at c1; omega
    | true =>
      have hnl := m2 n (by omega) hMn
      obtain ⟨x, hx⟩ := lt_get hnl
      have hE := h.2 n x hx
      have hV := hk.2 n x hx
      have hin2 := okS_in hk hx
      have hm4 : x.2.2.2.1.length ≤ 4 := by rw [hV.2.2.1]; exact hV.1.2.2.2.1
      refine ygo 64 90 rfl rfl (by first | exact trivial | (simp only [true_and, eq_self, or_true, true_or, and_true, yu, ya, reduceIte, Nat.reduceEqDiff, Int32.reduceToInt, Int.toNat_natCast, Int.reduceToNat]; omega) | decide | (simp; done) | (simp; omega)) ?_
      try simp only [List.map_cons, List.map_nil, List.length_cons, List.length_nil, ylr_s, ylr_0, Nat.reduceAdd, Nat.reduceSub, List.cons_append, List.nil_append, List.set_cons_zero, List.set_cons_succ, Option.toList_none, Option.toList_some, Int32.reduceToInt, yu, ya, reduceIte, Nat.reduceEqDiff, Int.toNat_natCast, Int.reduceToNat]
      refine l_fs3 (ms := x.2.2.2.1) (A := A) (by omega) (by omega) hE.2.2.2.2.1 hE.2.2.2.2.2.1 hm4 hin2.2 M hMn (fun A2 M2 hf2 hs2 hM2 y3 => ?_) x.2.2.2.1.length 0 0 A' M (by omega) rfl hf hs (fun i => by simp)
      refine ygo 58 90 rfl rfl (by first | exact trivial | (simp only [true_and, eq_self, or_true, true_or, and_true, yu, ya, reduceIte, Nat.reduceEqDiff, Int32.reduceToInt, Int.toNat_natCast, Int.reduceToNat]; omega) | decide | (simp; done) | (simp; omega)) ?_
      try simp only [List.map_cons, List.map_nil, List.length_cons, List.length_nil, ylr_s, ylr_0, Nat.reduceAdd, Nat.reduceSub, List.cons_append, List.nil_append, List.set_cons_zero, List.set_cons_succ, Option.toList_none, Option.toList_some, Int32.reduceToInt, yu, ya, reduceIte, Nat.reduceEqDiff, Int.toNat_natCast, Int.reduceToNat]
      refine ih _ _ A2 M2 (by omega) (by omega) hf2 hs2 (fun i hi hMi => ?_) (fun i hi hMi => ?_) (fun j hj hjl => (hM2 j).mpr (Or.inl (m3 j hj hjl))) (fun j y hj hy hMj m hm hml => ?_)
      · rcases (hM2 i).mp hMi with q | q
        · exact m1 i hi q
        · exact see_cl hk hMk hin hx q.1 (by omega) (m1 n (by omega) hMn)
      · rcases (hM2 i).mp hMi with q | q
        · exact m2 i hi q
        · omega
      · by_cases cj : j = n
        · subst cj
          rw [hx] at hy
          cases hy
          obtain ⟨m', e1, e2⟩ := hin2.2 _ hm
          have : m = m' := (nI_inj (by omega) (by omega)).mp e2
          exact (hM2 m).mpr (Or.inr ⟨hm, by omega⟩)
        · rcases (hM2 j).mp hMj with q | q
          · exact (hM2 m).mpr (Or.inl (m4 j y (by omega) hy q m hm hml))
          · omega
set_option maxRecDepth 100000 in
set_option maxHeartbeats 2000000 in
theorem cm_findSeen {G : xG} {d a : Nat} {ez : Int} {ms : List Int32} {f : Nat → Int} {A : Nat → List Int32} {L : sL} (h : mS L (f, A)) (hk : okS L) (hMk : okM L) (hl : L.length < 12) (hez : ez = L.length) (h40 : (A 40).getD L.length 0 = nI ms.length) (h41 : ∀ (i : Nat) (m : Int32), ms[i]? = some m → (A 41).getD (4 * L.length + i) 0 = m) (hm4 : ms.length ≤ 4) (hin : inL L ms) : ym G d a mX9_findSeen [.inr 0, .inl ez] (f, A) (fun w Y' => w = none ∧ Y'.1 = f ∧ fk1 51 A Y'.2 ∧ sn Y'.2 (sbit (smask L ms))) := by
  refine ym.len (fun hlen => ?_)
  refine ym_at 4 rfl (by decide) (Nat.le_of_ble_eq_true rfl) tX9_findSeen_ok ?_
  try simp only [List.map_cons, List.map_nil, List.length_cons, List.length_nil, ylr_s, ylr_0, Nat.reduceAdd, Nat.reduceSub, List.cons_append, List.nil_append, List.set_cons_zero, List.set_cons_succ, Option.toList_none, Option.toList_some, Int32.reduceToInt, yu, ya, reduceIte, Nat.reduceEqDiff, Int.toNat_natCast, Int.reduceToNat]
  refine ygo 2 90 rfl rfl (by first | exact trivial | (simp only [true_and, eq_self, or_true, true_or, and_true, yu, ya, reduceIte, Nat.reduceEqDiff, Int32.reduceToInt, Int.toNat_natCast, Int.reduceToNat]; omega) | decide | (simp; done) | (simp; omega)) ?_
  try simp only [List.map_cons, List.map_nil, List.length_cons, List.length_nil, ylr_s, ylr_0, Nat.reduceAdd, Nat.reduceSub, List.cons_append, List.nil_append, List.set_cons_zero, List.set_cons_succ, Option.toList_none, Option.toList_some, Int32.reduceToInt, yu, ya, reduceIte, Nat.reduceEqDiff, Int.toNat_natCast, Int.reduceToNat]
  refine l_fs1 (fun A1 f1 s1 => ?_) 12 0 0 A (by omega) rfl fk1.rf (hlen 51 _ rfl) (fun i hi => by omega)
  refine l_fs2 (A := A) (L := L) (by omega) hez (by omega) h40 h41 hm4 hin (fun A2 M2 f2 s2 hM2 => ?_) ms.length 0 0 A1 (fun _ => false) (by omega) rfl f1 s1 (fun i => by simp)
  refine l_fs4 h hk hMk hin 12 11 _ A2 M2 (by omega) (by omega) f2 s2 (fun i hi hMi => ?_) (fun i hi hMi => ((hM2 i).mp hMi).2) (fun j hj hjl => (hM2 j).mpr ⟨hj, hjl⟩) (fun j x hj hx => ?_)
  · obtain ⟨q1, q2⟩ := (hM2 i).mp hMi
    obtain ⟨x, hx⟩ := lt_get q2
    exact (smask_bit hi hk.1 hin).mpr ⟨i, x, q1, hx, Or.inl rfl⟩
  · have := (List.getElem?_eq_some_iff.mp hx).1
    omega
