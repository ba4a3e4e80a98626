/-! ===== PackWriter: what is written ===== -/
/-- pairs: how often, which byte -/
def prs : Nat → List Int32 → List Int32
  | _, [] => []
  | n, b :: t => if t.head? = some b then prs (n + 1) t else nI (n + 1) :: b :: prs 0 t
def lkp (P : List Int32) (k b j : Nat) : Bool := P.getD (k + j) (-1) == P.getD (k + j - b) (-1)
/-- how many bytes from k on are like those b back -/
def lik (P : List Int32) (k b : Nat) : Nat := ((List.range (P.length - k)).takeWhile (lkp P k b)).length
/-- the longest, the nearest of the first b backs -/
def bst (P : List Int32) (k : Nat) : Nat → Nat × Nat
  | 0 => (0, 0)
  | b + 1 => if (bst P k b).1 < lik P k (b + 1) then (lik P k (b + 1), b + 1) else bst P k b
def seg (P : List Int32) (i j : Nat) : List Int32 := if i < j then nI (j - i - 1) :: (P.drop i).take (j - i) else []
def opz (P : List Int32) : Nat → Nat → Nat → List Int32
  | 0, _, pf => seg P pf P.length
  | n + 1, k, pf => if k < P.length then (if (bst P k k).1 < 3 then opz P n (k + 1) pf else seg P pf k ++ nI ((bst P k k).1 + 125) :: nI (bst P k k).2 :: opz P n (k + (bst P k k).1) (k + (bst P k k).1)) else seg P pf P.length
def enc (e : Int32 × Int32 × List Int32) : List Int32 := if e.2.1 = 1 then prs 0 e.2.2 else if e.2.1 = 2 then opz e.2.2 e.2.2.length 0 0 else e.2.2
theorem prs_len : ∀ (P : List Int32) (n : Nat), (prs n P).length ≤ 2 * P.length
  | [], n => by simp [prs]
  | b :: t, n => by
    unfold prs
    have h1 := prs_len t (n + 1)
    have h2 := prs_len t 0
    split
    · rw [List.length_cons]; omega
    · simp only [List.length_cons]; omega
theorem takeWhile_range {p : Nat → Bool} {m n : Nat} (hn : n ≤ m) (h1 : ∀ j, j < n → p j = true) (h2 : n = m ∨ p n = false) : ((List.range m).takeWhile p).length = n := by
  induction m with
  | zero => simp; omega
  | succ m ih =>
    rw [List.range_succ]
    by_cases hm : n = m + 1
    · subst hm
      rw [List.takeWhile_append_of_pos (fun a ha => h1 a (by have := List.mem_range.mp ha; omega))]
      have := h1 m (by omega)
      simp [List.takeWhile, this]
    · have h3 : p n = false := by
        rcases h2 with h | h
        · exact absurd h hm
        · exact h
      have h4 := ih (by omega) (Or.inr h3)
      rw [List.takeWhile_append]
      split
      next hl =>
        rw [hl, List.length_range] at h4
        have : n = m := h4.symm
        subst this
        simp [List.takeWhile, h3]
      next => exact h4
theorem lik_is {P : List Int32} {k b n : Nat} (hn : n ≤ P.length - k) (h1 : ∀ j, j < n → lkp P k b j = true) (h2 : n = P.length - k ∨ lkp P k b n = false) : lik P k b = n := takeWhile_range hn h1 h2
theorem lik_le (P : List Int32) (k b : Nat) : lik P k b ≤ P.length - k := by
  unfold lik
  have := (List.takeWhile_sublist (lkp P k b) (l := List.range (P.length - k))).length_le
  rwa [List.length_range] at this
theorem bst_le (P : List Int32) (k : Nat) : ∀ b, (bst P k b).1 ≤ P.length - k ∧ (bst P k b).2 ≤ b
  | 0 => ⟨Nat.zero_le _, Nat.le_refl _⟩
  | b + 1 => by
    have h := bst_le P k b
    have h2 := lik_le P k (b + 1)
    unfold bst
    split
    · exact ⟨h2, Nat.le_refl _⟩
    · exact ⟨h.1, by omega⟩
theorem bst_full {P : List Int32} {k b : Nat} (h : P.length - k ≤ (bst P k b).1) : ∀ i, bst P k (b + i) = bst P k b
  | 0 => rfl
  | i + 1 => by
    have e : bst P k (b + i + 1) = if (bst P k (b + i)).1 < lik P k (b + i + 1) then (lik P k (b + i + 1), b + i + 1) else bst P k (b + i) := rfl
    rw [show b + (i + 1) = (b + i) + 1 by omega, e, bst_full h i, if_neg (by have := lik_le P k (b + i + 1); omega)]
theorem seg_len {P : List Int32} {i j : Nat} (hj : j ≤ P.length) : (seg P i j).length ≤ j - i + 1 := by
  unfold seg
  split
  · simp; omega
  · simp
theorem seg_nil {P : List Int32} {i j : Nat} (h : j ≤ i) : seg P i j = [] := by
  unfold seg
  rw [if_neg (by omega)]
theorem seg_cons {P : List Int32} {i j : Nat} (h : i < j) : seg P i j = nI (j - i - 1) :: (P.drop i).take (j - i) := by
  unfold seg
  rw [if_pos h]
theorem opz_len {P : List Int32} : ∀ (n k pf : Nat), pf ≤ k → k ≤ P.length → (opz P n k pf).length ≤ P.length - pf + 1
  | 0, k, pf, h1, h2 => seg_len (Nat.le_refl _)
  | n + 1, k, pf, h1, h2 => by
    unfold opz
    have hb := bst_le P k k
    split
    · split
      · exact opz_len n (k + 1) pf (by omega) (by omega)
      · have a := opz_len (P := P) n (k + (bst P k k).1) (k + (bst P k k).1) (Nat.le_refl _) (by omega)
        have b := seg_len (P := P) (i := pf) (j := k) h2
        simp only [List.length_append, List.length_cons]
        omega
    · exact seg_len (Nat.le_refl _)
theorem enc_len {e : Int32 × Int32 × List Int32} (h : e.2.2.length ≤ 120) : (enc e).length ≤ 240 := by
  have a := prs_len e.2.2 0
  have b := opz_len (P := e.2.2) e.2.2.length 0 0 (Nat.le_refl _) (Nat.zero_le _)
  unfold enc
  split
  · omega
  · split
    · omega
    · omega
/-- a PackWriter at w -/
def wrw (G : xG) (h : Nat → Option xC) (w : Nat) (bs sz : List Int32) (mb ml : Int32) : Prop := h w = some (6, [rf G (w + 1), rf G (w + 3), .int mb, .int ml]) ∧ brr G h (w + 1) 1920 bs ∧ h (w + 3) = some (11, vi sz) ∧ sz.length = 8
theorem wrw.keep {G : xG} {h h' : Nat → Option xC} {w b n : Nat} {bs sz : List Int32} {mb ml : Int32} (H : wrw G h w bs sz mb ml) (f : frz h h' b n) (hd : w + 4 ≤ b ∨ b + n ≤ w) : wrw G h' w bs sz mb ml := by
  obtain ⟨h1, h2, h3, h4⟩ := H
  exact ⟨by rw [f.at (by omega)]; exact h1, h2.keep f (by omega), by rw [f.at (by omega)]; exact h3, h4⟩
theorem wrw.body {G : xG} {h h' : Nat → Option xC} {w : Nat} {bs bs' sz : List Int32} {mb ml : Int32} (H : wrw G h w bs sz mb ml) (f : frz h h' (w + 1) 2) (hb : brr G h' (w + 1) 1920 bs') : wrw G h' w bs' sz mb ml := by
  obtain ⟨h1, h2, h3, h4⟩ := H
  exact ⟨by rw [f.at (by omega)]; exact h1, hb, by rw [f.at (by omega)]; exact h3, h4⟩
/-- what a method of the writer leaves behind -/
def wpost (G : xG) (σ : xS) (w : Nat) (bs sz : List Int32) (mb ml : Int32) : Option Value → xS → Prop := fun v σ' => v = none ∧ wrw G σ'.1 w bs sz mb ml ∧ frz σ.1 σ'.1 w 4 ∧ σ'.2 = σ.2
set_option maxRecDepth 100000 in
set_option maxHeartbeats 8000000 in
theorem c_WR_init {G : xG} {d w : Nat} {σ : xS} (h : σ.1 w = some (6, xdef 6)) (hx : σ.2.1 = w + 1) : xm G (d + 2) mX6_init [rf G w] σ (fun v σ' => v = none ∧ wrw G σ'.1 w [] (List.replicate 8 0) 0 0 ∧ (∀ q, (q < w ∨ w + 4 ≤ q) → σ'.1 q = σ.1 q) ∧ σ'.2.1 = w + 4 ∧ σ'.2.2 = σ.2.2 + 1930) := by
  have hxd : xdef 6 = [.null, .null, .int 0, .int 0] := rfl
  rw [hxd] at h
  have hN1 : xN 1 = 2 := rfl
  refine xm_at 1 rfl (by decide) (Nat.le_of_ble_eq_true rfl) (by simp [Value.category]) tX6_init_ok ?_
  try simp only [xlo0, List.map_cons, List.map_nil, List.length_cons, List.length_nil, xrs, xr0, Nat.reduceAdd, Nat.reduceSub, List.cons_append, List.nil_append, List.set_cons_zero, List.set_cons_succ, Option.toList_none, Option.toList_some, nI_1]
  refine xgo 80 rfl ?_
  try simp only [xlo0, List.map_cons, List.map_nil, List.length_cons, List.length_nil, xrs, xr0, Nat.reduceAdd, Nat.reduceSub, List.cons_append, List.nil_append, List.set_cons_zero, List.set_cons_succ, Option.toList_none, Option.toList_some, nI_1]
  refine xi_obj rfl oX6 (Nat.le_of_ble_eq_true rfl) ?_
  refine xgo 80 rfl ?_
  try simp only [xlo0, List.map_cons, List.map_nil, List.length_cons, List.length_nil, xrs, xr0, Nat.reduceAdd, Nat.reduceSub, List.cons_append, List.nil_append, List.set_cons_zero, List.set_cons_succ, Option.toList_none, Option.toList_some, nI_1]
  refine xnn (k := w + 1) (by omega) rfl nX6_9 (fun s1 n1 f1 g1 k1 => ?_)
  have h := (f1 _ (by omega)).trans h
  refine xgo 80 rfl ?_
  try simp only [xlo0, List.map_cons, List.map_nil, List.length_cons, List.length_nil, xrs, xr0, Nat.reduceAdd, Nat.reduceSub, List.cons_append, List.nil_append, List.set_cons_zero, List.set_cons_succ, Option.toList_none, Option.toList_some, nI_1]
  refine xcI 6 rfl rfl rfl (c_BR_init (a := w + 1) (fs := [.null]) (room := 1920) n1 (by decide) (by decide) (by omega)) rfl kX1_init iX1_init rfl rfl rfl rfl (Nat.le_of_ble_eq_true rfl) (fun v2 s2 q2 => ?_)
  obtain ⟨rfl, p1, p2, p3, p4, p5⟩ := q2
  rw [g1] at p1 p2 p3 p4
  have z0 : (1920 : Int32).toInt.toNat = 1920 := rfl
  rw [z0] at p2 p5
  have h := (p3 _ (by omega) (by omega)).trans h
  refine xgo 80 rfl ?_
  try simp only [xlo0, List.map_cons, List.map_nil, List.length_cons, List.length_nil, xrs, xr0, Nat.reduceAdd, Nat.reduceSub, List.cons_append, List.nil_append, List.set_cons_zero, List.set_cons_succ, Option.toList_none, Option.toList_some, nI_1]
  refine xpF rfl fX6_14F rfl h rfl rfl rfl (fun s3 n3 f3 e3 => ?_)
  have p1 := (f3 _ (by omega)).trans p1
  have p2 := (f3 _ (by omega)).trans p2
  have e31 : s3.2.1 = s2.2.1 := congrArg Prod.fst e3
  have e32 : s3.2.2 = s2.2.2 := congrArg Prod.snd e3
  refine xgo 80 rfl ?_
  try simp only [xlo0, List.map_cons, List.map_nil, List.length_cons, List.length_nil, xrs, xr0, Nat.reduceAdd, Nat.reduceSub, List.cons_append, List.nil_append, List.set_cons_zero, List.set_cons_succ, Option.toList_none, Option.toList_some, nI_1]
  refine xna (t := 11) (atype := .int) (N := 8) (show s3.2.1 = w + 3 by omega) rfl rfl (by decide) (by decide) rfl a_11 (by decide) rfl (by decide) (fun s4 n4 f4 g4 k4 => ?_)
  have n3 := (f4 _ (by omega)).trans n3
  have p1 := (f4 _ (by omega)).trans p1
  have p2 := (f4 _ (by omega)).trans p2
  refine xgo 80 rfl ?_
  try simp only [xlo0, List.map_cons, List.map_nil, List.length_cons, List.length_nil, xrs, xr0, Nat.reduceAdd, Nat.reduceSub, List.cons_append, List.nil_append, List.set_cons_zero, List.set_cons_succ, Option.toList_none, Option.toList_some, nI_1]
  refine xpF rfl fX6_20F rfl n3 rfl rfl rfl (fun s5 n5 f5 e5 => ?_)
  have n4 := (f5 _ (by omega)).trans n4
  have p1 := (f5 _ (by omega)).trans p1
  have p2 := (f5 _ (by omega)).trans p2
  have e51 : s5.2.1 = s4.2.1 := congrArg Prod.fst e5
  have e52 : s5.2.2 = s4.2.2 := congrArg Prod.snd e5
  refine xgo 80 rfl ?_
  try simp only [xlo0, List.map_cons, List.map_nil, List.length_cons, List.length_nil, xrs, xr0, Nat.reduceAdd, Nat.reduceSub, List.cons_append, List.nil_append, List.set_cons_zero, List.set_cons_succ, Option.toList_none, Option.toList_some, nI_1]
  refine xi_ret_v rfl rfl ⟨rfl, ⟨n5, ⟨List.replicate 1920 0, p1, by rw [p2]; simp [vi], by simp, by simp, by simp, by omega⟩, by rw [n4]; rfl, rfl⟩, fun q hq => by rw [f5 q (by omega), f4 q (by omega), f3 q (by omega), p3 q (by omega) (by omega), f1 q (by omega)], by omega, by omega⟩
theorem lo8 : ∀ n : Nat, n < 256 → ((nI n).toUInt32 >>> ((8 : Int32).toUInt32 &&& Int32.toUInt32 31)).toInt32 &&& 255 = 0 ∧ nI n &&& 255 = nI n := by decide +kernel
set_option maxRecDepth 100000 in
set_option maxHeartbeats 8000000 in
theorem c_WR_pushPair {G : xG} {d a cap n : Nat} {bs : List Int32} {σ : xS} (h1 : brr G σ.1 a cap bs) (hc : bs.length + 2 ≤ cap) (hn : n < 256) : xm G (d + 1) mX6_pushPair [rf G a, .int (nI n)] σ (fun v σ' => v = none ∧ brr G σ'.1 a cap (bs ++ [0, nI n]) ∧ frz σ.1 σ'.1 a 2 ∧ σ'.2 = σ.2) := by
  refine xm_at 2 rfl (by decide) (Nat.le_of_ble_eq_true rfl) (by simp [Value.category]) tX6_pushPair_ok ?_
  try simp only [xlo0, List.map_cons, List.map_nil, List.length_cons, List.length_nil, xrs, xr0, Nat.reduceAdd, Nat.reduceSub, List.cons_append, List.nil_append, List.set_cons_zero, List.set_cons_succ, Option.toList_none, Option.toList_some, nI_1]
  refine xgo 80 rfl ?_
  try simp only [xlo0, List.map_cons, List.map_nil, List.length_cons, List.length_nil, xrs, xr0, Nat.reduceAdd, Nat.reduceSub, List.cons_append, List.nil_append, List.set_cons_zero, List.set_cons_succ, Option.toList_none, Option.toList_some, nI_1]
  rw [(lo8 n hn).1]
  refine xgo 80 rfl ?_
  try simp only [xlo0, List.map_cons, List.map_nil, List.length_cons, List.length_nil, xrs, xr0, Nat.reduceAdd, Nat.reduceSub, List.cons_append, List.nil_append, List.set_cons_zero, List.set_cons_succ, Option.toList_none, Option.toList_some, nI_1]
  refine xcV 6 rfl rfl rfl (c_BR_push h1 (by omega)) rfl kX1_push iX1_push h1.obj ⟨_, rfl, rfl⟩ rfl rfl (Nat.le_of_ble_eq_true rfl) (fun v1 s1 q1 => ?_)
  obtain ⟨rfl, p1, p2, p3⟩ := q1
  refine xgo 80 rfl ?_
  try simp only [xlo0, List.map_cons, List.map_nil, List.length_cons, List.length_nil, xrs, xr0, Nat.reduceAdd, Nat.reduceSub, List.cons_append, List.nil_append, List.set_cons_zero, List.set_cons_succ, Option.toList_none, Option.toList_some, nI_1]
  rw [(lo8 n hn).2]
  refine xgo 80 rfl ?_
  try simp only [xlo0, List.map_cons, List.map_nil, List.length_cons, List.length_nil, xrs, xr0, Nat.reduceAdd, Nat.reduceSub, List.cons_append, List.nil_append, List.set_cons_zero, List.set_cons_succ, Option.toList_none, Option.toList_some, nI_1]
  refine xcV 6 rfl rfl rfl (c_BR_push p1 (by simp; omega)) rfl kX1_push iX1_push p1.obj ⟨_, rfl, rfl⟩ rfl rfl (Nat.le_of_ble_eq_true rfl) (fun v2 s2 q2 => ?_)
  obtain ⟨rfl, r1, r2, r3⟩ := q2
  refine xgo 80 rfl ?_
  try simp only [xlo0, List.map_cons, List.map_nil, List.length_cons, List.length_nil, xrs, xr0, Nat.reduceAdd, Nat.reduceSub, List.cons_append, List.nil_append, List.set_cons_zero, List.set_cons_succ, Option.toList_none, Option.toList_some, nI_1]
  refine xi_ret_v rfl rfl ⟨rfl, by simpa using r1, p2.tr r2, r3.trans p3⟩
set_option maxRecDepth 100000 in
set_option maxHeartbeats 8000000 in
theorem l_WR_writePlain {G : xG} {d w c r i e : Nat} {P bs sz : List Int32} {K : cV} {mb ml : Int32} {σ : xS} (hP : rby K.2.2.2 (nI r) = P) (hd : c + 17 ≤ w ∨ w + 4 ≤ c) (he : e ≤ P.length) (hPl : P.length ≤ 120) (hc : bs.length + (e - i) ≤ 1920) : ∀ (n j : Nat) (bs' : List Int32) (s : xS), j + n = e → i ≤ j → bs' = bs ++ (P.drop i).take (j - i) → wrw G s.1 w bs' sz mb ml → cont G s.1 c K → frz σ.1 s.1 w 4 → s.2 = σ.2 →
    xw G (d + 1) mX6_writePlain 3 [some (rf G w), some (rf G c), some (.int (nI r)), some (.int (nI i)), some (.int (nI e)), some (.int (nI j))] [] s (wpost G σ w (bs ++ (P.drop i).take (e - i)) sz mb ml) := by
  intro n
  induction n with
  | zero =>
    intro j bs' s hj hij hb h1 h2 hf h3
    have : j = e := by omega
    subst this
    refine xgo 80 rfl ?_
    try simp only [xlo0, List.map_cons, List.map_nil, List.length_cons, List.length_nil, xrs, xr0, Nat.reduceAdd, Nat.reduceSub, List.cons_append, List.nil_append, List.set_cons_zero, List.set_cons_succ, Option.toList_none, Option.toList_some, nI_1]
    refine xi_icmpge rfl (fun c => ?_) (fun c => ?_)
    · refine xgo 80 rfl ?_
      try simp only [xlo0, List.map_cons, List.map_nil, List.length_cons, List.length_nil, xrs, xr0, Nat.reduceAdd, Nat.reduceSub, List.cons_append, List.nil_append, List.set_cons_zero, List.set_cons_succ, Option.toList_none, Option.toList_some, nI_1]
      refine xi_ret_v rfl rfl ⟨rfl, by rw [← hb]; exact h1, hf, h3⟩
    · exact absurd (i_le.mpr (Int.le_refl _)) c
  | succ n ih =>
    intro j bs' s hj hij hb h1 h2 hf h3
    refine xgo 80 rfl ?_
    try simp only [xlo0, List.map_cons, List.map_nil, List.length_cons, List.length_nil, xrs, xr0, Nat.reduceAdd, Nat.reduceSub, List.cons_append, List.nil_append, List.set_cons_zero, List.set_cons_succ, Option.toList_none, Option.toList_some, nI_1]
    refine xi_icmpge rfl (fun c => ?_) (fun c => ?_)
    · exfalso
      rw [i_le, i_n (by omega), i_n (by omega)] at c
      omega
    · have hbl : bs'.length = bs.length + (j - i) := by rw [hb]; simp; omega
      refine xgo 80 rfl ?_
      try simp only [xlo0, List.map_cons, List.map_nil, List.length_cons, List.length_nil, xrs, xr0, Nat.reduceAdd, Nat.reduceSub, List.cons_append, List.nil_append, List.set_cons_zero, List.set_cons_succ, Option.toList_none, Option.toList_some, nI_1]
      refine xg 6 rfl rfl rfl h1.1 rfl ?_
      refine xgo 80 rfl ?_
      try simp only [xlo0, List.map_cons, List.map_nil, List.length_cons, List.length_nil, xrs, xr0, Nat.reduceAdd, Nat.reduceSub, List.cons_append, List.nil_append, List.set_cons_zero, List.set_cons_succ, Option.toList_none, Option.toList_some, nI_1]
      refine xcV 6 rfl rfl rfl (c_CT_byteAt h2) rfl kX2_byteAt iX2_byteAt h2.obj ⟨_, rfl, rfl⟩ rfl rfl (Nat.le_of_ble_eq_true rfl) (fun v1 s1 q1 => ?_)
      obtain ⟨rfl, rfl⟩ := q1
      rw [hP, bat_n (by omega)]
      refine xgo 80 rfl ?_
      try simp only [xlo0, List.map_cons, List.map_nil, List.length_cons, List.length_nil, xrs, xr0, Nat.reduceAdd, Nat.reduceSub, List.cons_append, List.nil_append, List.set_cons_zero, List.set_cons_succ, Option.toList_none, Option.toList_some, nI_1]
      refine xcV 6 rfl rfl rfl (c_BR_push h1.2.1 (by omega)) rfl kX1_push iX1_push h1.2.1.obj ⟨_, rfl, rfl⟩ rfl rfl (Nat.le_of_ble_eq_true rfl) (fun v2 s2 q2 => ?_)
      obtain ⟨rfl, p1, p2, p3⟩ := q2
      refine xto 3 80 rfl ?_
      try simp only [xlo0, List.map_cons, List.map_nil, List.length_cons, List.length_nil, xrs, xr0, Nat.reduceAdd, Nat.reduceSub, List.cons_append, List.nil_append, List.set_cons_zero, List.set_cons_succ, Option.toList_none, Option.toList_some, nI_1]
      have fw : frz s1.1 s2.1 w 4 := p2.wide (by omega) (by omega)
      refine ih (j + 1) _ _ (by omega) (by omega) ?_ (h1.body p2 p1) (h2.keep fw (by omega)) (hf.tr fw) (p3.trans h3)
      rw [hb, seg_snoc hij (by omega), List.append_assoc]
set_option maxRecDepth 100000 in
set_option maxHeartbeats 8000000 in
theorem c_WR_writePlain {G : xG} {d w c r i e : Nat} {P bs sz : List Int32} {K : cV} {mb ml : Int32} {σ : xS} (h : wrw G σ.1 w bs sz mb ml) (hK : cont G σ.1 c K) (hP : rby K.2.2.2 (nI r) = P) (hd : c + 17 ≤ w ∨ w + 4 ≤ c) (hi : i ≤ e) (he : e ≤ P.length) (hPl : P.length ≤ 120) (hc : bs.length + (e - i) ≤ 1920) : xm G (d + 1) mX6_writePlain [rf G w, rf G c, .int (nI r), .int (nI i), .int (nI e)] σ (wpost G σ w (bs ++ (P.drop i).take (e - i)) sz mb ml) := by
  refine xm_at 6 rfl (by decide) (Nat.le_of_ble_eq_true rfl) (by simp [Value.category]) tX6_writePlain_ok ?_
  try simp only [xlo0, List.map_cons, List.map_nil, List.length_cons, List.length_nil, xrs, xr0, Nat.reduceAdd, Nat.reduceSub, List.cons_append, List.nil_append, List.set_cons_zero, List.set_cons_succ, Option.toList_none, Option.toList_some, nI_1]
  refine xto 3 80 rfl ?_
  try simp only [xlo0, List.map_cons, List.map_nil, List.length_cons, List.length_nil, xrs, xr0, Nat.reduceAdd, Nat.reduceSub, List.cons_append, List.nil_append, List.set_cons_zero, List.set_cons_succ, Option.toList_none, Option.toList_some, nI_1]
  exact l_WR_writePlain hP hd he hPl hc (e - i) i bs σ (by omega) (Nat.le_refl _) (by simp) h hK frz.rf rfl
theorem prs_drop {P : List Int32} {i : Nat} (hi : i < P.length) (n : Nat) : prs n (P.drop i) = if P[i + 1]? = some (P.getD i (-1)) then prs (n + 1) (P.drop (i + 1)) else nI (n + 1) :: P.getD i (-1) :: prs 0 (P.drop (i + 1)) := by
  have e : ∀ (b : Int32) (t : List Int32), prs n (b :: t) = if t.head? = some b then prs (n + 1) t else nI (n + 1) :: b :: prs 0 t := fun b t => by rw [prs]
  rw [List.drop_eq_getElem_cons hi, e, List.head?_drop, List.getD_eq_getElem?_getD, List.getElem?_eq_getElem hi]
  rfl
set_option maxRecDepth 100000 in
set_option maxHeartbeats 8000000 in
theorem l_WR_writePairs {G : xG} {d w c r : Nat} {P F sz : List Int32} {K : cV} {mb ml : Int32} {σ : xS} (hP : rby K.2.2.2 (nI r) = P) (hN : ∀ x ∈ P, x ≠ -1) (hd : c + 17 ≤ w ∨ w + 4 ≤ c) (hPl : P.length ≤ 120) : ∀ (n j o : Nat) (bs' : List Int32) (s : xS) (y : Option Value), j + n = P.length → o ≤ j → bs' ++ prs o (P.drop j) = F → bs'.length + 2 * n ≤ 1920 → wrw G s.1 w bs' sz mb ml → cont G s.1 c K → frz σ.1 s.1 w 4 → s.2 = σ.2 →
    xw G (d + 1) mX6_writePairs 12 [some (rf G w), some (rf G c), some (.int (nI r)), some (.int (nI P.length)), some (.int (nI o)), some (.int (nI j)), y] [] s (wpost G σ w F sz mb ml) := by
  intro n
  induction n with
  | zero =>
    intro j o bs' s y hj hoj hb hl h1 h2 hf h3
    have : j = P.length := by omega
    subst this
    refine xgo 80 rfl ?_
    try simp only [xlo0, List.map_cons, List.map_nil, List.length_cons, List.length_nil, xrs, xr0, Nat.reduceAdd, Nat.reduceSub, List.cons_append, List.nil_append, List.set_cons_zero, List.set_cons_succ, Option.toList_none, Option.toList_some, nI_1]
    refine xi_icmpge rfl (fun c => ?_) (fun c => ?_)
    · refine xgo 80 rfl ?_
      try simp only [xlo0, List.map_cons, List.map_nil, List.length_cons, List.length_nil, xrs, xr0, Nat.reduceAdd, Nat.reduceSub, List.cons_append, List.nil_append, List.set_cons_zero, List.set_cons_succ, Option.toList_none, Option.toList_some, nI_1]
      refine xi_ret_v rfl rfl ⟨rfl, by rw [← hb, List.drop_length]; simpa [prs] using h1, hf, h3⟩
    · exact absurd (i_le.mpr (Int.le_refl _)) c
  | succ n ih =>
    intro j o bs' s y hj hoj hb hl h1 h2 hf h3
    rw [prs_drop (by omega)] at hb
    refine xgo 80 rfl ?_
    try simp only [xlo0, List.map_cons, List.map_nil, List.length_cons, List.length_nil, xrs, xr0, Nat.reduceAdd, Nat.reduceSub, List.cons_append, List.nil_append, List.set_cons_zero, List.set_cons_succ, Option.toList_none, Option.toList_some, nI_1]
    refine xi_icmpge rfl (fun c => ?_) (fun c => ?_)
    · exfalso
      rw [i_le, i_n (by omega), i_n (by omega)] at c
      omega
    · refine xgo 80 rfl ?_
      try simp only [xlo0, List.map_cons, List.map_nil, List.length_cons, List.length_nil, xrs, xr0, Nat.reduceAdd, Nat.reduceSub, List.cons_append, List.nil_append, List.set_cons_zero, List.set_cons_succ, Option.toList_none, Option.toList_some, nI_1]
      refine xcV 6 rfl rfl rfl (c_CT_byteAt h2) rfl kX2_byteAt iX2_byteAt h2.obj ⟨_, rfl, rfl⟩ rfl rfl (Nat.le_of_ble_eq_true rfl) (fun v1 s1 q1 => ?_)
      obtain ⟨rfl, rfl⟩ := q1
      rw [hP, bat_n (by omega)]
      have hg : P[j]? = some (P.getD j (-1)) := by rw [List.getD_eq_getElem?_getD, List.getElem?_eq_getElem (by omega)]; rfl
      generalize P.getD j (-1) = b at hb hg
      have hb1 : b ≠ -1 := hN b (List.mem_of_getElem? hg)
      refine xgo 80 rfl ?_
      try simp only [xlo0, List.map_cons, List.map_nil, List.length_cons, List.length_nil, xrs, xr0, Nat.reduceAdd, Nat.reduceSub, List.cons_append, List.nil_append, List.set_cons_zero, List.set_cons_succ, Option.toList_none, Option.toList_some, nI_1]
      refine xi_icmpeq rfl (fun c2 => ?_) (fun c2 => ?_)
      · exfalso
        rw [i_eq, i_n (by omega)] at c2
        have : (255 : Int32).toInt = 255 := rfl
        omega
      refine xgo 80 rfl ?_
      try simp only [xlo0, List.map_cons, List.map_nil, List.length_cons, List.length_nil, xrs, xr0, Nat.reduceAdd, Nat.reduceSub, List.cons_append, List.nil_append, List.set_cons_zero, List.set_cons_succ, Option.toList_none, Option.toList_some, nI_1]
      refine xcV 6 rfl rfl rfl (c_CT_byteAt h2) rfl kX2_byteAt iX2_byteAt h2.obj ⟨_, rfl, rfl⟩ rfl rfl (Nat.le_of_ble_eq_true rfl) (fun v2 s2 q2 => ?_)
      obtain ⟨rfl, rfl⟩ := q2
      rw [hP, bat_n (by omega)]
      refine xgo 80 rfl ?_
      try simp only [xlo0, List.map_cons, List.map_nil, List.length_cons, List.length_nil, xrs, xr0, Nat.reduceAdd, Nat.reduceSub, List.cons_append, List.nil_append, List.set_cons_zero, List.set_cons_succ, Option.toList_none, Option.toList_some, nI_1]
      refine xi_icmpeq rfl (fun c3 => ?_) (fun c3 => ?_)
      · have hn : P[j + 1]? = some b := by
          rw [List.getD_eq_getElem?_getD] at c3
          cases hx : P[j + 1]? with
          | none => rw [hx] at c3; exact absurd c3.symm hb1
          | some z => rw [hx] at c3; exact congrArg some c3
        rw [if_pos hn] at hb
        refine xto 12 80 rfl ?_
        try simp only [xlo0, List.map_cons, List.map_nil, List.length_cons, List.length_nil, xrs, xr0, Nat.reduceAdd, Nat.reduceSub, List.cons_append, List.nil_append, List.set_cons_zero, List.set_cons_succ, Option.toList_none, Option.toList_some, nI_1]
        exact ih (j + 1) (o + 1) bs' _ _ (by omega) (by omega) hb (by omega) h1 h2 hf h3
      · have hn : ¬ P[j + 1]? = some b := by
          intro hx
          rw [List.getD_eq_getElem?_getD, hx] at c3
          exact c3 rfl
        rw [if_neg hn] at hb
        refine xgo 80 rfl ?_
        try simp only [xlo0, List.map_cons, List.map_nil, List.length_cons, List.length_nil, xrs, xr0, Nat.reduceAdd, Nat.reduceSub, List.cons_append, List.nil_append, List.set_cons_zero, List.set_cons_succ, Option.toList_none, Option.toList_some, nI_1]
        refine xg 6 rfl rfl rfl h1.1 rfl ?_
        refine xgo 80 rfl ?_
        try simp only [xlo0, List.map_cons, List.map_nil, List.length_cons, List.length_nil, xrs, xr0, Nat.reduceAdd, Nat.reduceSub, List.cons_append, List.nil_append, List.set_cons_zero, List.set_cons_succ, Option.toList_none, Option.toList_some, nI_1]
        refine xcV 6 rfl rfl rfl (c_BR_push h1.2.1 (by omega)) rfl kX1_push iX1_push h1.2.1.obj ⟨_, rfl, rfl⟩ rfl rfl (Nat.le_of_ble_eq_true rfl) (fun v3 s3 q3 => ?_)
        obtain ⟨rfl, p1, p2, p3⟩ := q3
        have r1 := h1.body p2 p1
        refine xgo 80 rfl ?_
        try simp only [xlo0, List.map_cons, List.map_nil, List.length_cons, List.length_nil, xrs, xr0, Nat.reduceAdd, Nat.reduceSub, List.cons_append, List.nil_append, List.set_cons_zero, List.set_cons_succ, Option.toList_none, Option.toList_some, nI_1]
        refine xg 6 rfl rfl rfl r1.1 rfl ?_
        refine xgo 80 rfl ?_
        try simp only [xlo0, List.map_cons, List.map_nil, List.length_cons, List.length_nil, xrs, xr0, Nat.reduceAdd, Nat.reduceSub, List.cons_append, List.nil_append, List.set_cons_zero, List.set_cons_succ, Option.toList_none, Option.toList_some, nI_1]
        refine xcV 6 rfl rfl rfl (c_BR_push r1.2.1 (by simp; omega)) rfl kX1_push iX1_push r1.2.1.obj ⟨_, rfl, rfl⟩ rfl rfl (Nat.le_of_ble_eq_true rfl) (fun v4 s4 q4 => ?_)
        obtain ⟨rfl, t1, t2, t3⟩ := q4
        have u1 := r1.body t2 t1
        have fw := (p2.tr t2).wide (b := w) (k := 4) (by omega) (by omega)
        refine xto 12 80 rfl ?_
        try simp only [xlo0, List.map_cons, List.map_nil, List.length_cons, List.length_nil, xrs, xr0, Nat.reduceAdd, Nat.reduceSub, List.cons_append, List.nil_append, List.set_cons_zero, List.set_cons_succ, Option.toList_none, Option.toList_some, nI_1]
        exact ih (j + 1) 0 _ _ _ (by omega) (by omega) (by rw [← hb]; simp) (by simp; omega) u1 (h2.keep fw (by omega)) (hf.tr fw) (t3.trans (p3.trans h3))
set_option maxRecDepth 100000 in
set_option maxHeartbeats 8000000 in
theorem c_WR_writePairs {G : xG} {d w c r : Nat} {P bs sz : List Int32} {K : cV} {mb ml : Int32} {σ : xS} (h : wrw G σ.1 w bs sz mb ml) (hK : cont G σ.1 c K) (hP : rby K.2.2.2 (nI r) = P) (hN : ∀ x ∈ P, x ≠ -1) (hd : c + 17 ≤ w ∨ w + 4 ≤ c) (hPl : P.length ≤ 120) (hc : bs.length + 240 ≤ 1920) : xm G (d + 2) mX6_writePairs [rf G w, rf G c, .int (nI r)] σ (wpost G σ w (bs ++ prs 0 P) sz mb ml) := by
  refine xm_at 7 rfl (by decide) (Nat.le_of_ble_eq_true rfl) (by simp [Value.category]) tX6_writePairs_ok ?_
  try simp only [xlo0, List.map_cons, List.map_nil, List.length_cons, List.length_nil, xrs, xr0, Nat.reduceAdd, Nat.reduceSub, List.cons_append, List.nil_append, List.set_cons_zero, List.set_cons_succ, Option.toList_none, Option.toList_some, nI_1]
  refine xgo 80 rfl ?_
  try simp only [xlo0, List.map_cons, List.map_nil, List.length_cons, List.length_nil, xrs, xr0, Nat.reduceAdd, Nat.reduceSub, List.cons_append, List.nil_append, List.set_cons_zero, List.set_cons_succ, Option.toList_none, Option.toList_some, nI_1]
  refine xcV 6 rfl rfl rfl (c_CT_pageLength hK) rfl kX2_pageLength iX2_pageLength hK.obj ⟨_, rfl, rfl⟩ rfl rfl (Nat.le_of_ble_eq_true rfl) (fun v1 s1 q1 => ?_)
  obtain ⟨rfl, rfl⟩ := q1
  rw [hP]
  refine xto 12 80 rfl ?_
  try simp only [xlo0, List.map_cons, List.map_nil, List.length_cons, List.length_nil, xrs, xr0, Nat.reduceAdd, Nat.reduceSub, List.cons_append, List.nil_append, List.set_cons_zero, List.set_cons_succ, Option.toList_none, Option.toList_some, nI_1]
  exact l_WR_writePairs hP hN hd hPl P.length 0 0 bs s1 none (by omega) (Nat.le_refl _) rfl (by omega) h hK frz.rf rfl
