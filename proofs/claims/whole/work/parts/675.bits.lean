/-! ===== four bytes and a number ===== -/
theorem i32_nat (S : Int32) : S = Int32.ofNat S.toBitVec.toNat := by
  apply Int32.toBitVec_inj.mp
  apply BitVec.eq_of_toNat_eq
  simp
theorem and255 (n : Nat) : n &&& 255 = n % 256 := Nat.and_two_pow_sub_one_eq_mod n 8
theorem bsh_24 {N : Nat} (h : N < 4294967296) : bsh (Int32.ofNat N) 24 = nI (N / 16777216) := by
  unfold bsh nI
  apply Int32.toBitVec_inj.mp
  apply BitVec.eq_of_toNat_eq
  have e : ((24 : Int32).toUInt32 &&& Int32.toUInt32 31) = 24 := by decide
  rw [e]
  simp [Nat.shiftRight_eq_div_pow, and255]
  omega
theorem bsh_16 {N : Nat} (h : N < 4294967296) : bsh (Int32.ofNat N) 16 = nI (N / 65536 % 256) := by
  unfold bsh nI
  apply Int32.toBitVec_inj.mp
  apply BitVec.eq_of_toNat_eq
  have e : ((16 : Int32).toUInt32 &&& Int32.toUInt32 31) = 16 := by decide
  rw [e]
  simp [Nat.shiftRight_eq_div_pow, and255]
  omega
theorem bsh_8 {N : Nat} (h : N < 4294967296) : bsh (Int32.ofNat N) 8 = nI (N / 256 % 256) := by
  unfold bsh nI
  apply Int32.toBitVec_inj.mp
  apply BitVec.eq_of_toNat_eq
  have e : ((8 : Int32).toUInt32 &&& Int32.toUInt32 31) = 8 := by decide
  rw [e]
  simp [Nat.shiftRight_eq_div_pow, and255]
  omega
theorem bsh_0 {N : Nat} (h : N < 4294967296) : bsh (Int32.ofNat N) 0 = nI (N % 256) := by
  unfold bsh nI
  apply Int32.toBitVec_inj.mp
  apply BitVec.eq_of_toNat_eq
  have e : ((0 : Int32).toUInt32 &&& Int32.toUInt32 31) = 0 := by decide
  rw [e]
  simp [Nat.shiftRight_eq_div_pow, and255]
  omega
theorem shor {X b : Nat} (hX : X < 16777216) (hb : b < 256) : (Int32.ofNat X <<< ((8 : Int32) &&& 31)) ||| (nI b &&& 255) = Int32.ofNat (X * 256 + b) := by
  unfold nI
  apply Int32.toBitVec_inj.mp
  apply BitVec.eq_of_toNat_eq
  have e : ((8 : Int32) &&& 31) = 8 := by decide
  rw [e]
  have h1 : X <<< 8 ||| b = X <<< 8 + b := (Nat.shiftLeft_add_eq_or_of_lt (i := 8) hb X).symm
  simp [and255, Nat.shiftLeft_eq] at h1 ⊢
  rw [Nat.mod_eq_of_lt (show X * 256 < 4294967296 by omega), Nat.mod_eq_of_lt hb, h1, Nat.mod_eq_of_lt (by omega)]
theorem blw_n {b : Int32} (h : blw b 256) : ∃ n : Nat, n < 256 ∧ b = nI n := ⟨b.toInt.toNat, by omega, toN h.1⟩
theorem nI_inj {a b : Nat} (ha : a < 2 ^ 31) (hb : b < 2 ^ 31) : nI a = nI b ↔ a = b := by
  rw [i_eq, i_n ha, i_n hb]
  omega
theorem ofNat_inj {a b : Nat} (ha : a < 4294967296) (hb : b < 4294967296) : Int32.ofNat a = Int32.ofNat b ↔ a = b := by
  constructor
  · intro h
    have := congrArg (fun x : Int32 => x.toBitVec.toNat) h
    simp at this
    omega
  · intro h; rw [h]
/-- the number of four bytes is S if they are S's bytes -/
theorem num_four {b0 b1 b2 b3 S : Int32} (h0 : blw b0 256) (h1 : blw b1 256) (h2 : blw b2 256) (h3 : blw b3 256) : ((((((((0 : Int32) <<< ((8 : Int32) &&& 31)) ||| (b0 &&& 255)) <<< ((8 : Int32) &&& 31)) ||| (b1 &&& 255)) <<< ((8 : Int32) &&& 31)) ||| (b2 &&& 255)) <<< ((8 : Int32) &&& 31)) ||| (b3 &&& 255) = S ↔ b0 = bsh S 24 ∧ b1 = bsh S 16 ∧ b2 = bsh S 8 ∧ b3 = bsh S 0 := by
  obtain ⟨n0, l0, rfl⟩ := blw_n h0
  obtain ⟨n1, l1, rfl⟩ := blw_n h1
  obtain ⟨n2, l2, rfl⟩ := blw_n h2
  obtain ⟨n3, l3, rfl⟩ := blw_n h3
  have hS : S.toBitVec.toNat < 4294967296 := S.toBitVec.isLt
  have e0 : (0 : Int32) = Int32.ofNat 0 := rfl
  rw [i32_nat S]
  generalize S.toBitVec.toNat = N at hS
  rw [bsh_24 hS, bsh_16 hS, bsh_8 hS, bsh_0 hS, e0, shor (by omega) l0, shor (by omega) l1, shor (by omega) l2, shor (by omega) l3, ofNat_inj (by omega) hS, nI_inj (by omega) (by omega), nI_inj (by omega) (by omega), nI_inj (by omega) (by omega), nI_inj (by omega) (by omega)]
  omega
theorem bsh_blw (S k : Int32) : blw (bsh S k) 256 := by
  unfold bsh
  generalize (S.toUInt32 >>> (k.toUInt32 &&& Int32.toUInt32 31)).toInt32 = T
  have h : (T &&& 255).toBitVec.toNat < 256 := by
    simp [and255]
    omega
  have e := i32_nat (T &&& 255)
  generalize (T &&& 255).toBitVec.toNat = n at h e
  rw [e]
  have : (Int32.ofNat n).toInt = n := i_n (by omega)
  unfold blw
  omega
