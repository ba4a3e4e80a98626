/-! ===== the reference's own machine: whole numbers, its fields, its rows ===== -/
abbrev yv : Type := Int ⊕ Nat
abbrev yL : Type := List (Option yv)
abbrev yS : Type := (Nat → Int) × (Nat → List Int32)
/-- its rows: field, place, kind, length -/
def yarr : List (Nat × Nat × Nat × Nat) := [(5, 0, 11, 4), (6, 1, 11, 4), (7, 2, 11, 4), (9, 3, 11, 4), (11, 4, 11, 8), (12, 5, 11, 8), (13, 6, 11, 8), (14, 7, 11, 960), (15, 8, 11, 2400), (17, 9, 11, 480), (20, 10, 11, 11200), (21, 11, 11, 16), (29, 12, 11, 108), (31, 13, 10, 140800), (32, 14, 11, 1408), (33, 15, 11, 16), (34, 16, 11, 16), (36, 17, 11, 12), (37, 18, 11, 12), (38, 19, 11, 12), (39, 20, 12, 12), (40, 21, 11, 12), (41, 22, 11, 48), (42, 23, 11, 12), (43, 24, 11, 48), (44, 25, 11, 12), (45, 26, 11, 96), (46, 27, 11, 96), (47, 28, 11, 11520), (48, 29, 11, 12), (49, 30, 11, 48), (51, 31, 12, 12), (52, 32, 12, 12), (53, 33, 11, 13), (54, 34, 11, 13), (55, 35, 11, 12)]
def yu (f : Nat → Int) (k : Nat) (v : Int) (q : Nat) : Int := if q = k then v else f q
def ya (A : Nat → List Int32) (k : Nat) (v : List Int32) (q : Nat) : List Int32 := if q = k then v else A q
def yra (a : Nat) (k : Nat) : Nat := match k with
  | 0 => a
  | k + 1 => match yarr.lookup k with
    | some q => a + 1 + q.1
    | none => a
def yva (G : xG) (a : Nat) (v : yv) : Value := match v with
  | .inl z => .int (Int32.ofInt z)
  | .inr k => rf G (yra a k)
def yfv (G : xG) (a : Nat) (f : Nat → Int) (k : Nat) : Value := match yarr.lookup k with
  | some q => rf G (a + 1 + q.1)
  | none => .int (Int32.ofInt (f k))
def mdl (G : xG) (h : Nat → Option xC) (a : Nat) (Y : yS) : Prop := h a = some (9, (List.range 57).map (yfv G a Y.1)) ∧ ∀ (k : Nat) (q : Nat × Nat × Nat), yarr.lookup k = some q → h (a + 1 + q.1) = some (q.2.1, vi (Y.2 k)) ∧ (Y.2 k).length = q.2.2
def yQ (G : xG) (a : Nat) (σ : xS) (Q : Option yv → yS → Prop) : Option Value → xS → Prop := fun v σ' => ∃ v' Y', v = v'.map (yva G a) ∧ mdl G σ'.1 a Y' ∧ frz σ.1 σ'.1 a 37 ∧ σ'.2 = σ.2 ∧ Q v' Y'
def yw (G : xG) (d a : Nat) (M : xM) (pc : Nat) (lo : yL) (st : List yv) (Y : yS) (Q : Option yv → yS → Prop) : Prop := ∀ σ : xS, mdl G σ.1 a Y → xw G d M pc (lo.map (Option.map (yva G a))) (st.map (yva G a)) σ (yQ G a σ Q)
def ym (G : xG) (d a : Nat) (M : xM) (As : List yv) (Y : yS) (Q : Option yv → yS → Prop) : Prop := ∀ σ : xS, mdl G σ.1 a Y → xm G d M (As.map (yva G a)) σ (yQ G a σ Q)
theorem yQ.of {G : xG} {a : Nat} {σ σ1 σ' : xS} {Q : Option yv → yS → Prop} {v : Option Value} (f : frz σ.1 σ1.1 a 37) (e : σ1.2 = σ.2) (h : yQ G a σ1 Q v σ') : yQ G a σ Q v σ' := by
  obtain ⟨v', Y', h1, h2, h3, h4, h5⟩ := h
  exact ⟨v', Y', h1, h2, f.tr h3, h4.trans e, h5⟩
theorem ym.mono {G : xG} {d a : Nat} {M : xM} {As : List yv} {Y : yS} {Q Q' : Option yv → yS → Prop} (h : ym G d a M As Y Q) (hq : ∀ v Y', Q v Y' → Q' v Y') : ym G d a M As Y Q' := fun σ hm => (h σ hm).mono (fun v σ' h => by
  obtain ⟨v', Y', h1, h2, h3, h4, h5⟩ := h
  exact ⟨v', Y', h1, h2, h3, h4, hq _ _ h5⟩)
theorem yw.mono {G : xG} {d a pc : Nat} {M : xM} {lo : yL} {st : List yv} {Y : yS} {Q Q' : Option yv → yS → Prop} (h : yw G d a M pc lo st Y Q) (hq : ∀ v Y', Q v Y' → Q' v Y') : yw G d a M pc lo st Y Q' := fun σ hm => (h σ hm).mono (fun v σ' h => by
  obtain ⟨v', Y', h1, h2, h3, h4, h5⟩ := h
  exact ⟨v', Y', h1, h2, h3, h4, hq _ _ h5⟩)
def y1 (e : xE) (pc : Nat) (lo : yL) (st : List yv) : Option (Nat × yL × List yv) := match e with
  | ((2, _, v), 1) => some (pc + 1, lo, .inl v.toInt :: st)
  | ((16, _, v), 2) => some (pc + 2, lo, .inl v.toInt :: st)
  | ((17, _, v), 3) => some (pc + 3, lo, .inl v.toInt :: st)
  | ((21, a, _), 2) => match lo[a]? with
    | some (some (.inl x)) => some (pc + 2, lo, .inl x :: st)
    | _ => none
  | ((26, a, _), 1) => match lo[a]? with
    | some (some (.inl x)) => some (pc + 1, lo, .inl x :: st)
    | _ => none
  | ((42, a, _), 1) => match lo[a]? with
    | some (some (.inr x)) => some (pc + 1, lo, .inr x :: st)
    | _ => none
  | ((54, a, _), 2) => match st, lo[a]? with
    | .inl x :: r, some _ => some (pc + 2, lo.set a (some (.inl x)), r)
    | _, _ => none
  | ((59, a, _), 1) => match st, lo[a]? with
    | .inl x :: r, some _ => some (pc + 1, lo.set a (some (.inl x)), r)
    | _, _ => none
  | ((87, _, _), 1) => match st with
    | .inl _ :: r => some (pc + 1, lo, r)
    | _ => none
  | ((89, _, _), 1) => match st with
    | .inl x :: r => some (pc + 1, lo, .inl x :: .inl x :: r)
    | .inr x :: r => some (pc + 1, lo, .inr x :: .inr x :: r)
    | _ => none
  | ((92, _, _), 1) => match st with
    | .inl x :: .inr y :: r => some (pc + 1, lo, .inl x :: .inr y :: .inl x :: .inr y :: r)
    | _ => none
  | ((96, _, _), 1) => match st with
    | .inl y :: .inl x :: r => some (pc + 1, lo, .inl (x + y) :: r)
    | _ => none
  | ((100, _, _), 1) => match st with
    | .inl y :: .inl x :: r => some (pc + 1, lo, .inl (x - y) :: r)
    | _ => none
  | ((104, _, _), 1) => match st with
    | .inl y :: .inl x :: r => some (pc + 1, lo, .inl (x * y) :: r)
    | _ => none
  | ((120, _, _), 1) => match st with
    | .inl y :: .inl x :: r => some (pc + 1, lo, .inl (Int32.ofInt x <<< (Int32.ofInt y &&& 31)).toInt :: r)
    | _ => none
  | ((122, _, _), 1) => match st with
    | .inl y :: .inl x :: r => some (pc + 1, lo, .inl (Int32.ofInt x >>> (Int32.ofInt y &&& 31)).toInt :: r)
    | _ => none
  | ((124, _, _), 1) => match st with
    | .inl y :: .inl x :: r => some (pc + 1, lo, .inl ((Int32.ofInt x).toUInt32 >>> ((Int32.ofInt y).toUInt32 &&& Int32.toUInt32 31)).toInt32.toInt :: r)
    | _ => none
  | ((126, _, _), 1) => match st with
    | .inl y :: .inl x :: r => some (pc + 1, lo, .inl (Int32.ofInt x &&& Int32.ofInt y).toInt :: r)
    | _ => none
  | ((128, _, _), 1) => match st with
    | .inl y :: .inl x :: r => some (pc + 1, lo, .inl (Int32.ofInt x ||| Int32.ofInt y).toInt :: r)
    | _ => none
  | ((130, _, _), 1) => match st with
    | .inl y :: .inl x :: r => some (pc + 1, lo, .inl (Int32.ofInt x ^^^ Int32.ofInt y).toInt :: r)
    | _ => none
  | ((132, a, v), 3) => match lo[a]? with
    | some (some (.inl x)) => some (pc + 3, lo.set a (some (.inl (x + v.toInt))), st)
    | _ => none
  | ((145, _, _), 1) => match st with
    | .inl x :: r => some (pc + 1, lo, .inl (Int32.ofInt x).toInt8.toInt32.toInt :: r)
    | _ => none
  | ((167, a, _), 3) => some (a, lo, st)
  | _ => none
theorem ymap {G : xG} {a i : Nat} {lo : yL} {o : Option yv} (h : lo[i]? = some o) : (lo.map (Option.map (yva G a)))[i]? = some (o.map (yva G a)) := by rw [List.getElem?_map, h]; rfl
set_option maxHeartbeats 4000000 in
theorem y1_x1 {G : xG} {a : Nat} {e : xE} {pc pc' : Nat} {lo lo' : yL} {st st' : List yv} (h : y1 e pc lo st = some (pc', lo', st')) : x1 e pc (lo.map (Option.map (yva G a))) (st.map (yva G a)) = some (pc', lo'.map (Option.map (yva G a)), st'.map (yva G a)) := by
  unfold y1 at h
  split at h
  · cases h; simp [x1, yva]
  · cases h; simp [x1, yva]
  · cases h; simp [x1, yva]
  · split at h
    next x hlo => cases h; simp [x1, ymap hlo, yva, -List.getElem?_map]
    next => cases h
  · split at h
    next x hlo => cases h; simp [x1, ymap hlo, yva, -List.getElem?_map]
    next => cases h
  · split at h
    next x hlo => cases h; simp [x1, ymap hlo, yva, -List.getElem?_map]
    next => cases h
  · split at h
    next x r o hlo => cases h; simp [x1, ymap hlo, yva, List.map_set, -List.getElem?_map]
    next => cases h
  · split at h
    next x r o hlo => cases h; simp [x1, ymap hlo, yva, List.map_set, -List.getElem?_map]
    next => cases h
  · split at h
    next => cases h; simp [x1, yva]
    next => cases h
  · split at h
    next => cases h; simp [x1, yva]
    next => cases h; simp [x1, yva]
    next => cases h
  · split at h
    next => cases h; simp [x1, yva]
    next => cases h
  · split at h
    next => cases h; simp [x1, yva]
    next => cases h
  · split at h
    next => cases h; simp [x1, yva]
    next => cases h
  · split at h
    next => cases h; simp [x1, yva]
    next => cases h
  · split at h
    next => cases h; simp [x1, yva]
    next => cases h
  · split at h
    next => cases h; simp [x1, yva]
    next => cases h
  · split at h
    next => cases h; simp [x1, yva]
    next => cases h
  · split at h
    next => cases h; simp [x1, yva]
    next => cases h
  · split at h
    next => cases h; simp [x1, yva]
    next => cases h
  · split at h
    next => cases h; simp [x1, yva]
    next => cases h
  · split at h
    next x hlo => cases h; simp [x1, ymap hlo, yva, List.map_set, -List.getElem?_map]
    next => cases h
  · split at h
    next => cases h; simp only [x1, yva, List.map_cons, Int32.ofInt_toInt]
    next => cases h
  · cases h; simp [x1]
  · cases h
def y2 (e : xE) (pc : Nat) (lo : yL) (st : List yv) (Y : yS) : Option (Nat × yL × List yv × yS) := match e with
  | ((180, idx, 0), 3) => match st with
    | .inr 0 :: r => match (xfls 9).lookup idx with
      | some (9, k) => match yarr.lookup k with
        | some _ => some (pc + 3, lo, .inr (k + 1) :: r, Y)
        | none => some (pc + 3, lo, .inl (Y.1 k) :: r, Y)
      | _ => none
    | _ => none
  | ((181, idx, 0), 3) => match st with
    | .inl z :: .inr 0 :: r => match (xfls 9).lookup idx with
      | some (9, k + 1) => match yarr.lookup (k + 1) with
        | some _ => none
        | none => some (pc + 3, lo, r, (yu Y.1 (k + 1) z, Y.2))
      | _ => none
    | _ => none
  | _ => none
def y3 (e : xE) (pc : Nat) (lo : yL) (st : List yv) (Y : yS) : Option (Prop × Nat × yL × List yv × yS) := match e with
  | ((181, idx, 0), 3) => match st with
    | .inl z :: .inr 0 :: r => match (xfls 9).lookup idx with
      | some (9, 0) => some (z = 0 ∨ z = 1, pc + 3, lo, r, (yu Y.1 0 z, Y.2))
      | _ => none
    | _ => none
  | ((46, 0, 0), 1) => match st with
    | .inl i :: .inr (k + 1) :: r => match yarr.lookup k with
      | some (_, 11, n) => some (0 ≤ i ∧ i < (n : Int), pc + 1, lo, .inl ((Y.2 k).getD i.toNat 0).toInt :: r, Y)
      | _ => none
    | _ => none
  | ((51, 0, 0), 1) => match st with
    | .inl i :: .inr (k + 1) :: r => match yarr.lookup k with
      | some (_, 10, n) => some (0 ≤ i ∧ i < (n : Int), pc + 1, lo, .inl ((Y.2 k).getD i.toNat 0).toInt :: r, Y)
      | some (_, 12, n) => some (0 ≤ i ∧ i < (n : Int), pc + 1, lo, .inl ((Y.2 k).getD i.toNat 0).toInt :: r, Y)
      | _ => none
    | _ => none
  | ((79, 0, 0), 1) => match st with
    | .inl v :: .inl i :: .inr (k + 1) :: r => match yarr.lookup k with
      | some (_, 11, n) => some (0 ≤ i ∧ i < (n : Int), pc + 1, lo, r, (Y.1, ya Y.2 k ((Y.2 k).set i.toNat (Int32.ofInt v))))
      | _ => none
    | _ => none
  | ((84, 0, 0), 1) => match st with
    | .inl v :: .inl i :: .inr (k + 1) :: r => match yarr.lookup k with
      | some (_, 10, n) => some (0 ≤ i ∧ i < (n : Int), pc + 1, lo, r, (Y.1, ya Y.2 k ((Y.2 k).set i.toNat (Int32.ofInt v).toInt8.toInt32)))
      | some (_, 12, n) => some ((0 ≤ i ∧ i < (n : Int)) ∧ (v = 0 ∨ v = 1), pc + 1, lo, r, (Y.1, ya Y.2 k ((Y.2 k).set i.toNat (Int32.ofInt v))))
      | _ => none
    | _ => none
  | ((108, 0, 0), 1) => match st with
    | .inl y :: .inl x :: r => some (0 ≤ x ∧ x < 2147483648 ∧ 0 < y ∧ y < 2147483648, pc + 1, lo, .inl (x / y) :: r, Y)
    | _ => none
  | ((112, 0, 0), 1) => match st with
    | .inl y :: .inl x :: r => some (0 ≤ x ∧ x < 2147483648 ∧ 0 < y ∧ y < 2147483648, pc + 1, lo, .inl (x % y) :: r, Y)
    | _ => none
  | _ => none
theorem yof {z : Int} (h : -2147483648 ≤ z ∧ z < 2147483648) : (Int32.ofInt z).toInt = z := Int32.toInt_ofInt_of_le h.1 h.2
theorem yclamp {z : Int} {n : Nat} (h : 0 ≤ z ∧ z < (n : Int)) (hn : n ≤ 1000000) : (Int32.ofInt z).toNatClampNeg = z.toNat ∧ ¬ Int32.ofInt z < 0 := by
  have e := yof (z := z) (by omega)
  exact ⟨by rw [i_cl, e], by rw [i_lt, e]; have : (0 : Int32).toInt = 0 := rfl; omega⟩
theorem ytab : ∀ k, k < 57 → ∀ q, yarr.lookup k = some q → q.1 < 36 ∧ 10 ≤ q.2.1 ∧ q.2.1 ≤ 12 ∧ q.2.2 ≤ 1000000 := by
  intro k hk
  have h : ∀ p ∈ yarr, p.2.1 < 36 ∧ 10 ≤ p.2.2.1 ∧ p.2.2.1 ≤ 12 ∧ p.2.2.2 ≤ 1000000 := by decide
  intro q hq
  exact h _ (xlook hq)
theorem yinj : ∀ p ∈ yarr, ∀ q ∈ yarr, p.2.1 = q.2.1 → p = q := by decide
theorem yall : ∀ p ∈ yarr, p.1 < 57 ∧ p.2.1 < 36 ∧ 10 ≤ p.2.2.1 ∧ p.2.2.1 ≤ 12 ∧ p.2.2.2 ≤ 1000000 := by decide
theorem yint : ∀ k, k < 57 → yarr.lookup k = none → xFin 9 k = false ∧ (k = 0 ∨ xTy 9 k = .int) := by decide +kernel
theorem yrange {α : Type} {g : Nat → α} {k n : Nat} (h : k < n) : ((List.range n).map g)[k]? = some (g k) := by simp [h]
theorem yset {G : xG} {a : Nat} {f : Nat → Int} {k : Nat} {z : Int} (hn : yarr.lookup k = none) : ((List.range 57).map (yfv G a f)).set k (.int (Int32.ofInt z)) = (List.range 57).map (yfv G a (yu f k z)) := by
  apply List.ext_getElem?
  intro i
  rw [List.getElem?_set]
  simp only [List.getElem?_map, List.length_map, List.length_range]
  by_cases hi : i < 57
  · rw [List.getElem?_range hi]
    by_cases e : k = i
    · subst e
      simp [yfv, hn, yu, hi]
    · rw [if_neg e]
      simp only [Option.map_some]
      have : yu f k z i = f i := if_neg (fun h => e h.symm)
      simp only [yfv, this]
  · rw [List.getElem?_eq_none (by simp; omega)]
    split
    · rw [if_neg (by omega)]; rfl
    · rfl
theorem mdl.f {G : xG} {h h' : Nat → Option xC} {a : Nat} {f f' : Nat → Int} {A : Nat → List Int32} (H : mdl G h a (f, A)) (g : ∀ q, q ≠ a → h' q = h q) (h0 : h' a = some (9, (List.range 57).map (yfv G a f'))) : mdl G h' a (f', A) :=
  ⟨h0, fun k q hq => by rw [g _ (by omega)]; exact H.2 k q hq⟩
theorem mdl.a {G : xG} {h h' : Nat → Option xC} {a k : Nat} {q : Nat × Nat × Nat} {f : Nat → Int} {A : Nat → List Int32} {xs : List Int32} (H : mdl G h a (f, A)) (hq : yarr.lookup k = some q) (g : ∀ p, p ≠ a + 1 + q.1 → h' p = h p) (h0 : h' (a + 1 + q.1) = some (q.2.1, vi xs)) (hl : xs.length = q.2.2) : mdl G h' a (f, ya A k xs) := by
  refine ⟨(g _ (by omega)).trans H.1, fun j p hp => ?_⟩
  by_cases e : j = k
  · subst e
    rw [hq] at hp
    cases hp
    simp only [ya, if_true]
    exact ⟨h0, hl⟩
  · have hne : p.1 ≠ q.1 := by
      intro he
      have := yinj _ (xlook hp) _ (xlook hq) he
      exact e (congrArg Prod.fst this)
    simp only [ya, if_neg e]
    rw [g _ (by omega)]
    exact H.2 j p hp
section Y1
variable {G : xG} {d a : Nat} {M : xM} {pc pc' : Nat} {lo lo' : yL} {st st' : List yv} {Y Y' : yS} {Q : Option yv → yS → Prop}
theorem yw.one {e : xE} (hd : M.2.2.2.2.lookup pc = some e) (h : y1 e pc lo st = some (pc', lo', st')) (k : yw G d a M pc' lo' st' Y Q) : yw G d a M pc lo st Y Q := fun σ hm => xw.of_step (x1_step hd (y1_x1 h)) (k σ hm)
theorem yget {f : Nat → Int} {A : Nat → List Int32} {idx k : Nat} {v : yv} {r : List yv} (hM : RX9 = M.1.cls) (hd : M.2.2.2.2.lookup pc = some ((180, idx, 0), 3)) (hf : (xfls 9).lookup idx = some (9, k)) (hv : yfv G a f k = yva G a v) (kk : yw G d a M (pc + 3) lo (v :: r) (f, A) Q) : yw G d a M pc lo (.inr 0 :: r) (f, A) Q := by
  intro σ hm
  have hx : xfl RX9 idx 9 k := xfls_ok hf
  have hk : k < 57 := by
    obtain ⟨rr, h1, h2, -⟩ := hx
    cases h1
    exact h2
  refine xi_get (a := a) hd (by rw [← hM]; exact hx) hm.1 (v := yva G a v) ?_ (kk σ hm)
  rw [yrange hk, hv]
theorem yput {f : Nat → Int} {A : Nat → List Int32} {idx k : Nat} {z : Int} {r : List yv} (hM : RX9 = M.1.cls) (hd : M.2.2.2.2.lookup pc = some ((181, idx, 0), 3)) (hf : (xfls 9).lookup idx = some (9, k)) (hn : yarr.lookup k = none) (hz : k = 0 → z = 0 ∨ z = 1) (kk : yw G d a M (pc + 3) lo r (yu f k z, A) Q) : yw G d a M pc lo (.inl z :: .inr 0 :: r) (f, A) Q := by
  intro σ hm
  have hx : xfl RX9 idx 9 k := xfls_ok hf
  have hk : k < 57 := by
    obtain ⟨rr, h1, h2, -⟩ := hx
    cases h1
    exact h2
  obtain ⟨h1, h2⟩ := yint k hk hn
  have h0 : xTy 9 0 = .boolean := by decide +kernel
  have h3 : narrow (xTy 9 k) (.int (Int32.ofInt z)) = .int (Int32.ofInt z) ∧ fits (xTy 9 k) (.int (Int32.ofInt z)) = true := by
    rcases h2 with e | e
    · subst e
      rw [h0]
      rcases hz rfl with e | e <;> subst e <;> exact ⟨by decide, by decide⟩
    · rw [e]
      exact ⟨rfl, rfl⟩
  refine xi_put (a := a) hd (by rw [← hM]; exact hx) hm.1 h1 h3.1 h3.2 ?_
  refine (kk _ (hm.f (h' := (xu σ a (9, ((List.range 57).map (yfv G a f)).set k (.int (Int32.ofInt z)))).1) (fun q hq => if_neg hq) ((if_pos rfl).trans (by rw [yset hn])))).mono (fun v σ' h => yQ.of (σ1 := xu σ a (9, ((List.range 57).map (yfv G a f)).set k (.int (Int32.ofInt z)))) (frz.one (fun q hq => if_neg hq) (Nat.le_refl _) (by omega)) rfl h)
theorem ygetA {xs : List Int32} {i : Int} {n : Nat} (hl : xs.length = n) (hi : 0 ≤ i ∧ i < (n : Int)) (hn : n ≤ 1000000) : (vi xs)[(Int32.ofInt i).toNatClampNeg]? = some (.int (xs.getD i.toNat 0)) := by
  rw [(yclamp hi hn).1]
  apply vi_get
  rw [List.getD_eq_getElem?_getD, List.getElem?_eq_getElem (by omega)]
  rfl
theorem yw.two {e : xE} (hM : RX9 = M.1.cls) (hd : M.2.2.2.2.lookup pc = some e) (h : y2 e pc lo st Y = some (pc', lo', st', Y')) (k : yw G d a M pc' lo' st' Y' Q) : yw G d a M pc lo st Y Q := by
  obtain ⟨f, A⟩ := Y
  unfold y2 at h
  split at h
  · split at h
    · split at h
      next k2 hf =>
        split at h
        next q hq => cases h; exact yget hM hd hf (by simp [yfv, yva, yra, hq]) k
        next hq => cases h; exact yget hM hd hf (by simp [yfv, yva, hq]) k
      next => cases h
    · cases h
  · split at h
    · split at h
      next k2 hf =>
        split at h
        next q hq => cases h
        next hq => cases h; exact yput hM hd hf hq (fun e => absurd e (by omega)) k
      next => cases h
    · cases h
  · cases h
theorem yarrOk {k : Nat} {q : Nat × Nat × Nat} (h : yarr.lookup k = some q) : q.1 < 36 ∧ 10 ≤ q.2.1 ∧ q.2.1 ≤ 12 ∧ q.2.2 ≤ 1000000 := (yall _ (xlook h)).2
theorem yra_s {a k : Nat} {q : Nat × Nat × Nat} (h : yarr.lookup k = some q) : yra a (k + 1) = a + 1 + q.1 := by simp [yra, h]
theorem yfrA {σ : xS} {a p : Nat} {c : xC} (h : p < 36) : frz σ.1 (xu σ (a + 1 + p) c).1 a 37 := frz.one (fun q hq => if_neg hq) (by omega) (by omega)
set_option maxHeartbeats 4000000 in
theorem yw.three {e : xE} {C : Prop} (hM : RX9 = M.1.cls) (hd : M.2.2.2.2.lookup pc = some e) (h : y3 e pc lo st Y = some (C, pc', lo', st', Y')) (hC : C) (k : yw G d a M pc' lo' st' Y' Q) : yw G d a M pc lo st Y Q := by
  obtain ⟨f, A⟩ := Y
  unfold y3 at h
  split at h
  · split at h
    · split at h
      next hf => cases h; exact yput hM hd hf (by decide) (fun _ => hC) k
      next => cases h
    · cases h
  · split at h
    · split at h
      next kk p n hq =>
        cases h
        intro σ hm
        have hq' := yarrOk hq
        simp only [List.map_cons, yva]
        rw [yra_s hq]
        have := k σ hm
        simp only [List.map_cons, yva, Int32.ofInt_toInt] at this
        exact xi_iald hd (hm.2 _ _ hq).1 (yclamp hC hq'.2.2.2).2 (ygetA (hm.2 _ _ hq).2 hC hq'.2.2.2) this
      next => cases h
    · cases h
  · split at h
    · split at h
      next kk p n hq =>
        cases h
        intro σ hm
        have hq' := yarrOk hq
        simp only [List.map_cons, yva]
        rw [yra_s hq]
        have := k σ hm
        simp only [List.map_cons, yva, Int32.ofInt_toInt] at this
        exact xi_bald hd (hm.2 _ _ hq).1 (yclamp hC hq'.2.2.2).2 (ygetA (hm.2 _ _ hq).2 hC hq'.2.2.2) this
      next kk p n hq =>
        cases h
        intro σ hm
        have hq' := yarrOk hq
        simp only [List.map_cons, yva]
        rw [yra_s hq]
        have := k σ hm
        simp only [List.map_cons, yva, Int32.ofInt_toInt] at this
        exact xi_zald hd (hm.2 _ _ hq).1 (yclamp hC hq'.2.2.2).2 (ygetA (hm.2 _ _ hq).2 hC hq'.2.2.2) this
      next => cases h
    · cases h
  · split at h
    · split at h
      next v i kk r p n hq =>
        cases h
        intro σ hm
        have hq' := yarrOk hq
        have hc := yclamp hC hq'.2.2.2
        have hl := (hm.2 _ _ hq).2
        simp only [List.map_cons, yva]
        rw [yra_s hq]
        refine xi_iast hd (hm.2 _ _ hq).1 hc.2 (by rw [hc.1, vi_len, hl]; simp only; omega) ?_
        rw [hc.1, vi_set]
        exact (k _ (hm.a hq (fun q hq => if_neg hq) (if_pos rfl) (by rw [List.length_set]; exact hl))).mono (fun v σ' h => yQ.of (yfrA hq'.1) rfl h)
      next => cases h
    · cases h
  · split at h
    · split at h
      next v i kk r p n hq =>
        cases h
        intro σ hm
        have hq' := yarrOk hq
        have hc := yclamp hC hq'.2.2.2
        have hl := (hm.2 _ _ hq).2
        simp only [List.map_cons, yva]
        rw [yra_s hq]
        refine xi_bast hd (hm.2 _ _ hq).1 hc.2 (by rw [hc.1, vi_len, hl]; simp only; omega) ?_
        rw [hc.1, vi_set]
        exact (k _ (hm.a hq (fun q hq => if_neg hq) (if_pos rfl) (by rw [List.length_set]; exact hl))).mono (fun v σ' h => yQ.of (yfrA hq'.1) rfl h)
      next v i kk r p n hq =>
        cases h
        intro σ hm
        obtain ⟨hC, hz⟩ := hC
        have hq' := yarrOk hq
        have hc := yclamp hC hq'.2.2.2
        have hl := (hm.2 _ _ hq).2
        simp only [List.map_cons, yva]
        rw [yra_s hq]
        refine xi_zast hd (hm.2 _ _ hq).1 hc.2 (by rw [hc.1, vi_len, hl]; simp only; omega) (by rcases hz with e | e <;> subst e <;> decide) ?_
        rw [hc.1, vi_set]
        exact (k _ (hm.a hq (fun q hq => if_neg hq) (if_pos rfl) (by rw [List.length_set]; exact hl))).mono (fun v σ' h => yQ.of (yfrA hq'.1) rfl h)
      next => cases h
    · cases h
  · split at h
    · cases h
      intro σ hm
      have := k σ hm
      simp only [List.map_cons, yva] at this ⊢
      refine xi_idiv hd ?_ ?_
      · rw [i_eq, yof (by omega)]; have : (0 : Int32).toInt = 0 := rfl; omega
      · rwa [← Int.tdiv_eq_ediv_of_nonneg (by omega), Int32.ofInt_tdiv (by have : Int32.minValue.toInt = -2147483648 := rfl; omega) (by have : Int32.maxValue.toInt = 2147483647 := rfl; omega) (by have : Int32.minValue.toInt = -2147483648 := rfl; omega) (by have : Int32.maxValue.toInt = 2147483647 := rfl; omega)] at this
    · cases h
  · split at h
    next y x r =>
      cases h
      intro σ hm
      have := k σ hm
      simp only [List.map_cons, yva] at this ⊢
      refine xi_irem hd ?_ ?_
      · rw [i_eq, yof (by omega)]; have : (0 : Int32).toInt = 0 := rfl; omega
      · have e : Int32.ofInt (x % y) = Int32.ofInt x - Int32.ofInt x / Int32.ofInt y * Int32.ofInt y := by
          rw [← Int32.ofInt_tdiv (by have : Int32.minValue.toInt = -2147483648 := rfl; omega) (by have : Int32.maxValue.toInt = 2147483647 := rfl; omega) (by have : Int32.minValue.toInt = -2147483648 := rfl; omega) (by have : Int32.maxValue.toInt = 2147483647 := rfl; omega), Int.tdiv_eq_ediv_of_nonneg (by omega), ← Int32.ofInt_mul, ← Int32.ofInt_sub]
          congr 1
          have := Int.emod_add_mul_ediv x y
          rw [Int.mul_comm] at this
          omega
        rwa [e] at this
    next => cases h
  · cases h
/-- as many instructions as come, up to stop, at most n -/
def yrun (tb : List (Nat × xE)) (stop : Nat) : Nat → Nat → yL → List yv → yS → Prop → Prop × Nat × yL × List yv × yS
  | 0, pc, lo, st, Y, C => (C, pc, lo, st, Y)
  | n + 1, pc, lo, st, Y, C => match tb.lookup pc with
    | none => (C, pc, lo, st, Y)
    | some e => match y1 e pc lo st with
      | some (pc', lo', st') => if pc' = stop then (C, pc', lo', st', Y) else yrun tb stop n pc' lo' st' Y C
      | none => match y2 e pc lo st Y with
        | some (pc', lo', st', Y') => yrun tb stop n pc' lo' st' Y' C
        | none => match y3 e pc lo st Y with
          | some (D, pc', lo', st', Y') => yrun tb stop n pc' lo' st' Y' (C ∧ D)
          | none => (C, pc, lo, st, Y)
theorem yrun_ok (hM : RX9 = M.1.cls) (stop : Nat) : ∀ (n pc : Nat) (lo : yL) (st : List yv) (Y : yS) (C0 C : Prop), yrun M.2.2.2.2 stop n pc lo st Y C0 = (C, pc', lo', st', Y') → C → C0 ∧ (yw G d a M pc' lo' st' Y' Q → yw G d a M pc lo st Y Q)
  | 0, pc, lo, st, Y, C0, C, h, hC => by cases h; exact ⟨hC, id⟩
  | n + 1, pc, lo, st, Y, C0, C, h, hC => by
    unfold yrun at h
    split at h
    next => cases h; exact ⟨hC, id⟩
    next e he =>
      split at h
      next q1 q2 q3 h1 =>
        split at h
        next => cases h; exact ⟨hC, fun k => yw.one he h1 k⟩
        next =>
          have := yrun_ok hM stop n _ _ _ _ _ _ h hC
          exact ⟨this.1, fun k => yw.one he h1 (this.2 k)⟩
      next =>
        split at h
        next q1 q2 q3 q4 h1 =>
          have := yrun_ok hM stop n _ _ _ _ _ _ h hC
          exact ⟨this.1, fun k => yw.two hM he h1 (this.2 k)⟩
        next =>
          split at h
          next D q1 q2 q3 q4 h1 =>
            have := yrun_ok hM stop n _ _ _ _ _ _ h hC
            exact ⟨this.1.1, fun k => yw.three hM he h1 this.1.2 (this.2 k)⟩
          next => cases h; exact ⟨hC, id⟩
theorem ygo (stop n : Nat) {C : Prop} (hM : RX9 = M.1.cls) (h : yrun M.2.2.2.2 stop n pc lo st Y True = (C, pc', lo', st', Y')) (hC : C) (k : yw G d a M pc' lo' st' Y' Q) : yw G d a M pc lo st Y Q := (yrun_ok hM stop n _ _ _ _ _ _ h hC).2 k
end Y1
