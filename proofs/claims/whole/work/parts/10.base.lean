/-! ===== heaps: blocks, frames; ints ===== -/
abbrev vi (xs : List Int32) : List Value := xs.map Value.int
theorem vi_get {xs : List Int32} {i : Nat} {x : Int32} (h : xs[i]? = some x) : (vi xs)[i]? = some (.int x) := by rw [List.getElem?_map, h]; rfl
theorem vi_len (xs : List Int32) : (vi xs).length = xs.length := List.length_map _
theorem vi_set (xs : List Int32) (i : Nat) (x : Int32) : (vi xs).set i (.int x) = vi (xs.set i x) := (List.map_set ..).symm
theorem i_lt {x y : Int32} : x < y ↔ x.toInt < y.toInt := Int32.lt_iff_toInt_lt
theorem i_le {x y : Int32} : x ≤ y ↔ x.toInt ≤ y.toInt := Int32.le_iff_toInt_le
theorem i_eq {x y : Int32} : x = y ↔ x.toInt = y.toInt := Int32.toInt_inj.symm
theorem i_cl (x : Int32) : x.toNatClampNeg = x.toInt.toNat := rfl
theorem i_n {n : Nat} (h : n < 2 ^ 31) : (nI n).toInt = n := nI_toInt h
theorem i_rng (x : Int32) : -2147483648 ≤ x.toInt ∧ x.toInt < 2147483648 := ⟨Int32.le_toInt x, Int32.toInt_lt x⟩
/-- nothing but the n cells from a on has changed -/
def frz (h h' : Nat → Option xC) (a n : Nat) : Prop := ∀ q, (q < a ∨ a + n ≤ q) → h' q = h q
theorem frz.rf {h : Nat → Option xC} {a n : Nat} : frz h h a n := fun _ _ => rfl
theorem frz.tr {h h1 h2 : Nat → Option xC} {a n : Nat} (f : frz h h1 a n) (g : frz h1 h2 a n) : frz h h2 a n := fun q hq => (g q hq).trans (f q hq)
theorem frz.wide {h h1 : Nat → Option xC} {a n b k : Nat} (f : frz h h1 a n) (h1' : b ≤ a) (h2 : a + n ≤ b + k) : frz h h1 b k := fun q hq => f q (by omega)
theorem frz.at {h h1 : Nat → Option xC} {a n q : Nat} (f : frz h h1 a n) (hq : q < a ∨ a + n ≤ q) : h1 q = h q := f q hq
theorem frz.one {h h1 : Nat → Option xC} {a n b : Nat} (f : ∀ q, q ≠ b → h1 q = h q) (h1' : a ≤ b) (h2 : b < a + n) : frz h h1 a n := fun q hq => f q (by omega)
/-- a row of bytes: the object at a, its cells at a + 1, room cap, the bytes bs -/
def brr (G : xG) (h : Nat → Option xC) (a cap : Nat) (bs : List Int32) : Prop := ∃ xs : List Int32, h a = some (1, [rf G (a + 1), .int (nI bs.length)]) ∧ h (a + 1) = some (11, vi xs) ∧ xs.length = cap ∧ bs.length ≤ cap ∧ xs.take bs.length = bs ∧ cap < 100000
theorem brr.keep {G : xG} {h h' : Nat → Option xC} {a cap b n : Nat} {bs : List Int32} (H : brr G h a cap bs) (f : frz h h' b n) (hd : a + 2 ≤ b ∨ b + n ≤ a) : brr G h' a cap bs := by
  obtain ⟨xs, h1, h2, h3⟩ := H
  exact ⟨xs, by rw [f.at (by omega)]; exact h1, by rw [f.at (by omega)]; exact h2, h3⟩
theorem brr.len {G : xG} {h : Nat → Option xC} {a cap : Nat} {bs : List Int32} (H : brr G h a cap bs) : bs.length ≤ cap ∧ cap < 100000 := by
  obtain ⟨xs, h1, h2, h3, h4, h5, h6⟩ := H
  exact ⟨h4, h6⟩
theorem brr.obj {G : xG} {h : Nat → Option xC} {a cap : Nat} {bs : List Int32} (H : brr G h a cap bs) : h a = some (1, [rf G (a + 1), .int (nI bs.length)]) := by
  obtain ⟨xs, h1, -⟩ := H
  exact h1
theorem take_get {xs bs : List Int32} (h : xs.take bs.length = bs) {i : Nat} (hi : i < bs.length) : xs[i]? = bs[i]? := by
  have := congrArg (fun l => l[i]?) h
  rw [← this]
  simp [List.getElem?_take, hi]
theorem take_snoc {xs bs : List Int32} (h : xs.take bs.length = bs) {b : Int32} (hl : bs.length < xs.length) : (xs.set bs.length b).take (bs ++ [b]).length = bs ++ [b] := by
  apply List.ext_getElem?
  intro i
  rw [List.getElem?_take, List.length_append, List.length_singleton]
  by_cases h1 : i < bs.length
  · rw [if_pos (by omega), List.getElem?_set_ne (by omega), take_get h h1, List.getElem?_append_left h1]
  · by_cases h2 : i = bs.length
    · subst h2
      rw [if_pos (by omega), List.getElem?_set_self hl, List.getElem?_append_right (by omega)]
      simp
    · rw [if_neg (by omega), List.getElem?_eq_none (by simp; omega)]
/-- a byte of a row, -1 where there is none -/
def bat (bs : List Int32) (i : Int32) : Int32 := if i.toInt < 0 then -1 else bs.getD i.toInt.toNat (-1)
theorem bat_n {bs : List Int32} {j : Nat} (h : j < 2 ^ 31) : bat bs (nI j) = bs.getD j (-1) := by
  unfold bat
  rw [i_n h, if_neg (by omega)]
  rfl
theorem bat_out {bs : List Int32} {i : Int32} (h : i.toInt < 0 ∨ (bs.length : Int) ≤ i.toInt) : bat bs i = -1 := by
  unfold bat
  split
  · rfl
  · rw [List.getD_eq_getElem?_getD, List.getElem?_eq_none (by omega)]
    rfl
def bin (n : Nat) (i : Int32) : Bool := decide (0 ≤ i.toInt ∧ i.toInt < n)
/-- one byte into a sum -/
def sgo (s b : Int32) : Int32 := (((s ^^^ b) <<< ((11 : Int32) &&& 31)) ||| ((s ^^^ b).toUInt32 >>> ((21 : Int32).toUInt32 &&& Int32.toUInt32 31)).toInt32) * 16777619
def ssum (s : Int32) (bs : List Int32) : Int32 := bs.foldl sgo s
def bsh (n : Int32) (k : Int32) : Int32 := (n.toUInt32 >>> (k.toUInt32 &&& Int32.toUInt32 31)).toInt32 &&& 255
def four (n : Int32) : List Int32 := [bsh n 24, bsh n 16, bsh n 8, bsh n 0]
