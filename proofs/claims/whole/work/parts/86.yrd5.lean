def fkh (Y Y' : yS) : Prop := Y'.2 = Y.2 ∧ ∀ k, (k < 22 ∨ k = 23 ∨ 28 < k) → Y'.1 k = Y.1 k
theorem fkp.h {Y Y' : yS} (h : fkp Y Y') : fkh Y Y' := ⟨h.1, fun k hk => h.2 k (by omega) (by omega)⟩
theorem fkh.tr {Y Y1 Y2 : yS} (h : fkh Y Y1) (g : fkh Y1 Y2) : fkh Y Y2 := ⟨g.1.trans h.1, fun k a => (g.2 k a).trans (h.2 k a)⟩
theorem fkh.u {f : Nat → Int} {A : Nat → List Int32} {z : Int} {k0 : Nat} (h : 22 ≤ k0 ∧ k0 ≤ 28 ∧ k0 ≠ 23) : fkh (f, A) (yu f k0 z, A) := ⟨rfl, fun k hk => if_neg (by omega)⟩
/-- the title by its bytes -/
def hdT (bs : List Int32) (T : Int32 × Int32 × Int32 × Int32) : Prop := bs[2]? = some T.1 ∧ bs[3]? = some T.2.1 ∧ ∃ m, bs[4]? = some m ∧ 0 ≤ m.toInt ∧ m.toInt ≤ 3 ∧ T.2.2.1 = m - m / 2 * 2 ∧ T.2.2.2 = if m < 2 then 0 else 1
/-- a head that is fine, by its bytes -/
def HD (bs : List Int32) (s : pS) (f : Nat → Int) : Prop := hdT bs s.2.2.1.1 ∧ hdN bs 6 s.2.2.1.2.1 ∧ f 25 = s.2.2.1.2.1.length ∧ s.2.2.1.2.1.length ≤ 4 ∧ hdS bs (7 + s.2.2.1.2.1.length * 3) s.2.2.1.2.2.1 ∧ f 26 = s.2.2.1.2.2.1.length ∧ s.2.2.1.2.2.1.length ≤ 4 ∧ hdR bs (8 + s.2.2.1.2.1.length * 3 + s.2.2.1.2.2.1.length) s.2.2.1.2.2.2 s.2.2.2.1 s.2.2.2.2 ∧ f 27 = s.2.2.1.2.2.2.length ∧ s.2.2.1.2.2.2.length ≤ 8 ∧ f 28 = 8 + s.2.2.1.2.1.length * 3 + s.2.2.1.2.2.1.length ∧ s.1 = 8 + s.2.2.1.2.1.length * 3 + s.2.2.1.2.2.1.length + s.2.2.1.2.2.2.length * 6
theorem hTitle_f {bs : List Int32} {s : pS} (h : (hTitle bs s).2.1 = none) (h0 : s.1 = 0) : s.2.1 = none ∧ (hTitle bs s).1 = 5 ∧ hdT bs (hTitle bs s).2.2.1.1 := by
  unfold hTitle at h ⊢
  dsimp only at h ⊢
  have a1 := nxt_get h
  have a2 := nxt_get a1.1
  have a3 := nxt_get a2.1
  have a4 := nxt_get a3.1
  have a5 := nxt_get a4.1
  rw [a5.2.2.1] at a4 a3 a2 a1 ⊢
  rw [a4.2.2.1] at a3 a2 a1 ⊢
  rw [a3.2.2.1] at a2 a1 ⊢
  rw [a2.2.2.1] at a1 ⊢
  rw [a1.2.2.1]
  dsimp only at a1 a2 a3 a4 a5 ⊢
  rw [h0] at a1 a2 a3 ⊢
  have z0 : (0 : Int32).toInt = 0 := rfl
  have z3 : (3 : Int32).toInt = 3 := rfl
  have hr := a1.2.2.2
  rw [i_le, i_le] at hr
  exact ⟨a5.1, rfl, a3.2.1, a2.2.1, _, a1.2.1, by omega, by omega, rfl, rfl⟩
theorem hTitle_mRd {Z : pZ} {pk : Nat} {bs : List Int32} {s : pS} {Y : yS} (h : mRd Z pk bs (nxt bs 0 3 (nxt bs 0 99 (nxt bs 0 63 (nxt bs 75 75 (nxt bs 80 80 s).2).2).2).2).2 Y) : mRd Z pk bs (hTitle bs s) Y := h.say rfl rfl
/-- a count that was heard -/
theorem wv_cnt {bs : List Int32} {most : Nat} {s : pS} (hm : most < 1000) : ∃ m : Nat, m ≤ most ∧ (nxt bs 0 (nI most) s).1 = nI m ∧ ((nxt bs 0 (nI most) s).2.2.1 = none → wv (nxt bs 0 (nI most) s) = m) ∧ ((nxt bs 0 (nI most) s).2.2.1.isSome = true → wv (nxt bs 0 (nI most) s) = -1) := by
  obtain ⟨m, h1, h2⟩ := nxt_nI (bs := bs) (s := s) hm
  refine ⟨m, h1, h2, fun h => ?_, fun h => ?_⟩
  · unfold wv
    rw [h, h2]
    exact i_n (by omega)
  · unfold wv
    rw [if_pos h]
