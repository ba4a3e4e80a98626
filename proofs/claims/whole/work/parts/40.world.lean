/-! ===== PackPost: the world of the class ===== -/
theorem brr.keepQ {G : xG} {h h' : Nat → Option xC} {a cap : Nat} {bs : List Int32} (H : brr G h a cap bs) (f : ∀ q, a ≤ q → q < a + 2 → h' q = h q) : brr G h' a cap bs := by
  obtain ⟨xs, h1, h2, h3⟩ := H
  exact ⟨xs, (f _ (by omega) (by omega)).trans h1, (f _ (by omega) (by omega)).trans h2, h3⟩
theorem cont.keepQ {G : xG} {h h' : Nat → Option xC} {c : Nat} {K : cV} (H : cont G h c K) (f : ∀ q, c ≤ q → q < c + 17 → h' q = h q) : cont G h' c K := by
  obtain ⟨nn, ne, nx, sa, ks, ps, ln, pg, b0, b1, b2, b3, b4, b5, b6, b7, b8, hp, r⟩ := H
  exact ⟨nn, ne, nx, sa, ks, ps, ln, pg, (f _ (by omega) (by omega)).trans b0, (f _ (by omega) (by omega)).trans b1, (f _ (by omega) (by omega)).trans b2, (f _ (by omega) (by omega)).trans b3, (f _ (by omega) (by omega)).trans b4, (f _ (by omega) (by omega)).trans b5, (f _ (by omega) (by omega)).trans b6, (f _ (by omega) (by omega)).trans b7, (f _ (by omega) (by omega)).trans b8, fun r hr => (f _ (by omega) (by omega)).trans (hp r hr), r⟩
theorem wrw.keepQ {G : xG} {h h' : Nat → Option xC} {w : Nat} {bs sz : List Int32} {mb ml : Int32} (H : wrw G h w bs sz mb ml) (f : ∀ q, w ≤ q → q < w + 4 → h' q = h q) : wrw G h' w bs sz mb ml :=
  ⟨(f _ (by omega) (by omega)).trans H.1, H.2.1.keepQ (fun q h1 h2 => f q (by omega) (by omega)), (f _ (by omega) (by omega)).trans H.2.2.1, H.2.2.2⟩
theorem fnd.keepQ {G : xG} {h h' : Nat → Option xC} {a : Nat} {st : fS} (H : fnd G h a st) (f : ∀ q, a ≤ q → q < a + 3 → h' q = h q) : fnd G h' a st := by
  obtain ⟨ts, h1, h2, h3, h4, h5⟩ := H
  exact ⟨ts, (f _ (by omega) (by omega)).trans h1, (f _ (by omega) (by omega)).trans h2, h3, (f _ (by omega) (by omega)).trans h4, h5⟩
theorem rd0.keepQ {G : xG} {h h' : Nat → Option xC} {r c : Nat} {K : cV} {ln sz : List Int32} (H : rd0 G h r c K ln sz) (f : ∀ q, (r ≤ q ∧ q < r + 3) ∨ (c ≤ q ∧ q < c + 17) → h' q = h q) : rd0 G h' r c K ln sz := by
  obtain ⟨⟨v, p, w, h1⟩, h2, h3, h4, h5, h6⟩ := H
  exact ⟨⟨v, p, w, (f _ (by omega)).trans h1⟩, (f _ (by omega)).trans h2, (f _ (by omega)).trans h3, h4, h5, h6.keepQ (fun q a b => f q (by omega))⟩
theorem rdw.rd0 {G : xG} {h : Nat → Option xC} {r b c cap : Nat} {bs : List Int32} {s : pS} (H : rdw G h r b c cap bs s) : rd0 G h r c s.2.2.1 s.2.2.2.1 s.2.2.2.2 := ⟨⟨_, _, _, H.1⟩, H.2.1, H.2.2.1, H.2.2.2.1, H.2.2.2.2.1, H.say⟩
theorem shf.keepQ {G : xG} {h h' : Nat → Option xC} {s : Nat} {L : sL} (H : shf G h s L) (f1 : h' s = h s) (f2 : h' (s + 1) = h (s + 1)) (f : ∀ (i : Nat) (x : Nat × Nat × eV), L[i]? = some x → ∀ q, ((x.1 ≤ q ∧ q < x.1 + 3) ∨ (x.2.1 ≤ q ∧ q < x.2.1 + 17)) → h' q = h q) : shf G h' s L := by
  obtain ⟨h1, h2, ⟨ar, h3, h4, h5⟩, h6⟩ := H
  exact ⟨h1, f1.trans h2, ⟨ar, f2.trans h3, h4, h5⟩, fun i x hx => (h6 i x hx).keepQ (f i x hx)⟩
abbrev pP : Type := Nat × Nat × List Int32
abbrev bB : Type := (Int32 × Int32 × Int32) × List (Option Nat) × List (Option (List Int32))
abbrev pZ : Type := cV × Bool × List pP × List Int32 × (Nat → bB) × sL × Int32
def pobj (G : xG) (Z : pZ) : xC := (8, [rf G 1, .int (bI Z.2.1), rf G 18, .int (nI Z.2.2.1.length), rf G 19, rf G 21, rf G 23, rf G 56, rf G 60, rf G 82, rf G 84, .int Z.2.2.2.2.2.2])
def wPk (G : xG) (h : Nat → Option xC) (own : Nat → Nat) (P : List pP) : Prop := P.length ≤ 16 ∧ ∃ ar : List Value, h 18 = some (14, ar) ∧ ar.length = 16 ∧ ∀ (i : Nat) (x : pP), P[i]? = some x → ar[i]? = some (rf G x.1) ∧ brr G h x.1 x.2.1 x.2.2 ∧ own x.1 = 100 + i ∧ own (x.1 + 1) = 100 + i
def wBk (G : xG) (h : Nat → Option xC) (own : Nat → Nat) (B : Nat → bB) : Prop := h 23 = some (13, (List.range 16).map (fun i => rf G (24 + 2 * i))) ∧ ∀ b, b < 16 → bk G h (24 + 2 * b) (B b).1.1 (B b).1.2.1 (B b).1.2.2 (B b).2.1 (B b).2.2 ∧ ∀ (i k : Nat), (B b).2.1[i]? = some (some k) → own k = 1000 + 100 * b + i ∧ own (k + 1) = 1000 + 100 * b + i
def wSh (G : xG) (h : Nat → Option xC) (own : Nat → Nat) (L : sL) : Prop := shf G h 82 L ∧ ∀ (i : Nat) (x : Nat × Nat × eV), L[i]? = some x → (∀ q, x.1 ≤ q → q < x.1 + 3 → own q = 200 + i) ∧ (∀ q, x.2.1 ≤ q → q < x.2.1 + 17 → own q = 300 + i) ∧ 124 ≤ x.1
def wRd (G : xG) (h : Nat → Option xC) (own : Nat → Nat) (rc : Nat) : Prop := (∃ K ln sz, rd0 G h 60 rc K ln sz) ∧ ∀ q, rc ≤ q → q < rc + 17 → own q = 400
def wOwn (own : Nat → Nat) (n : Nat) : Prop := 124 ≤ n ∧ ∀ q, own q ≠ 0 → ((65 ≤ q ∧ q < 82) ∨ 124 ≤ q) ∧ q < n
def pw (G : xG) (σ : xS) (own : Nat → Nat) (rc : Nat) (Z : pZ) : Prop := σ.1 0 = some (pobj G Z) ∧ cont G σ.1 1 Z.1 ∧ wPk G σ.1 own Z.2.2.1 ∧ (∃ bs, brr G σ.1 19 2020 bs) ∧ brr G σ.1 21 108 Z.2.2.2.1 ∧ wBk G σ.1 own Z.2.2.2.2.1 ∧ (∃ bw sz mb ml, wrw G σ.1 56 bw sz mb ml) ∧ wRd G σ.1 own rc ∧ wSh G σ.1 own Z.2.2.2.2.2.1 ∧ (∃ st, fnd G σ.1 84 st) ∧ wOwn own σ.2.1
theorem wPk.keep {G : xG} {h h' : Nat → Option xC} {own own' : Nat → Nat} {P : List pP} (H : wPk G h own P) (e : ∀ q, own q ≠ 0 → own' q = own q) (f : ∀ q, (q = 18 ∨ (100 ≤ own q ∧ own q < 200)) → h' q = h q) : wPk G h' own' P := by
  obtain ⟨h0, ar, h1, h2, h3⟩ := H
  refine ⟨h0, ar, (f _ (Or.inl rfl)).trans h1, h2, fun i x hx => ?_⟩
  obtain ⟨a1, a2, a3, a4⟩ := h3 i x hx
  have hi : i < P.length := (List.getElem?_eq_some_iff.mp hx).1
  refine ⟨a1, a2.keepQ (fun q b1 b2 => f q ?_), (e _ (by omega)).trans a3, (e _ (by omega)).trans a4⟩
  rcases (show q = x.1 ∨ q = x.1 + 1 by omega) with rfl | rfl
  · omega
  · omega
theorem wBk.keep {G : xG} {h h' : Nat → Option xC} {own own' : Nat → Nat} {B : Nat → bB} (H : wBk G h own B) (e : ∀ q, own q ≠ 0 → own' q = own q) (f : ∀ q, ((23 ≤ q ∧ q < 56) ∨ 1000 ≤ own q) → h' q = h q) : wBk G h' own' B := by
  obtain ⟨h1, h2⟩ := H
  refine ⟨(f _ (by omega)).trans h1, fun b hb => ?_⟩
  obtain ⟨⟨a1, a2, a3⟩, a4⟩ := h2 b hb
  refine ⟨⟨(f _ (by omega)).trans a1, (f _ (by omega)).trans a2, a3.keep (fun k hk => ?_)⟩, fun i k hk => ?_⟩
  · obtain ⟨i, hi⟩ := List.getElem?_of_mem hk
    have := a4 i k hi
    exact ⟨f _ (by omega), f _ (by omega)⟩
  · have := a4 i k hk
    exact ⟨(e _ (by omega)).trans this.1, (e _ (by omega)).trans this.2⟩
theorem wSh.keep {G : xG} {h h' : Nat → Option xC} {own own' : Nat → Nat} {L : sL} (H : wSh G h own L) (e : ∀ q, own q ≠ 0 → own' q = own q) (f : ∀ q, ((82 ≤ q ∧ q < 84) ∨ (200 ≤ own q ∧ own q < 400)) → h' q = h q) : wSh G h' own' L := by
  obtain ⟨h1, h2⟩ := H
  have hl := h1.1
  refine ⟨h1.keepQ (f _ (by omega)) (f _ (by omega)) (fun i x hx q hq => f q ?_), fun i x hx => ?_⟩
  · obtain ⟨a1, a2, -⟩ := h2 i x hx
    have hi : i < L.length := (List.getElem?_eq_some_iff.mp hx).1
    rcases hq with hq | hq
    · have := a1 q hq.1 hq.2
      omega
    · have := a2 q hq.1 hq.2
      omega
  · obtain ⟨a1, a2, a3⟩ := h2 i x hx
    exact ⟨fun q b1 b2 => (e q (by rw [a1 q b1 b2]; omega)).trans (a1 q b1 b2), fun q b1 b2 => (e q (by rw [a2 q b1 b2]; omega)).trans (a2 q b1 b2), a3⟩
theorem wRd.keep {G : xG} {h h' : Nat → Option xC} {own own' : Nat → Nat} {rc : Nat} (H : wRd G h own rc) (e : ∀ q, own q ≠ 0 → own' q = own q) (f : ∀ q, ((60 ≤ q ∧ q < 63) ∨ own q = 400) → h' q = h q) : wRd G h' own' rc := by
  obtain ⟨⟨K, ln, sz, h1⟩, h2⟩ := H
  refine ⟨⟨K, ln, sz, h1.keepQ (fun q hq => f q ?_)⟩, fun q b1 b2 => (e q (by rw [h2 q b1 b2]; omega)).trans (h2 q b1 b2)⟩
  rcases hq with hq | hq
  · exact Or.inl hq
  · exact Or.inr (h2 q hq.1 hq.2)
/-- what a call of the class leaves -/
def mk (σ σ' : xS) : Prop := (∀ q, 87 ≤ q → q < 124 → σ'.1 q = σ.1 q) ∧ σ.2.1 ≤ σ'.2.1 ∧ σ'.2.1 ≤ σ.2.1 + 25 ∧ σ'.2.2 ≤ σ.2.2 + 2000
def ppost (G : xG) (σ : xS) (F : Int32 × pZ) : Option Value → xS → Prop := fun v σ' => v = some (.int F.1) ∧ (∃ own rc, pw G σ' own rc F.2) ∧ mk σ σ'
theorem mk.rf {σ : xS} : mk σ σ := ⟨fun _ _ _ => rfl, by omega, by omega, by omega⟩
theorem ppost.same {G : xG} {σ : xS} {own : Nat → Nat} {rc : Nat} {Z : pZ} {z : Int32} {F : Int32 × pZ} (h : pw G σ own rc Z) (e : F = (z, Z)) : ppost G σ F (some (.int z)) σ := by
  subst e
  exact ⟨rfl, ⟨own, rc, h⟩, mk.rf⟩
/-- the sheet and the object itself change -/
theorem pw.sheet {G : xG} {σ σ' : xS} {own : Nat → Nat} {rc : Nat} {Z Z' : pZ} (H : pw G σ own rc Z) (f : ∀ q, 18 ≤ q → σ'.1 q = σ.1 q) (e : σ'.2 = σ.2) (h0 : σ'.1 0 = some (pobj G Z')) (h1 : cont G σ'.1 1 Z'.1) (hZ : Z'.2.2.1 = Z.2.2.1 ∧ Z'.2.2.2.1 = Z.2.2.2.1 ∧ Z'.2.2.2.2.1 = Z.2.2.2.2.1 ∧ Z'.2.2.2.2.2.1 = Z.2.2.2.2.2.1) : pw G σ' own rc Z' := by
  obtain ⟨a0, a1, a2, ⟨bs, a3⟩, a4, a5, ⟨bw, sz, mb, ml, a6⟩, a7, a8, ⟨st, a9⟩, a10⟩ := H
  obtain ⟨e1, e2, e3, e4⟩ := hZ
  have ho : ∀ q, own q ≠ 0 → 18 ≤ q := fun q hq => by have := a10.2 q hq; omega
  refine ⟨h0, h1, ?_, ⟨bs, a3.keepQ (fun q _ _ => f q (by omega))⟩, ?_, ?_, ⟨bw, sz, mb, ml, a6.keepQ (fun q _ _ => f q (by omega))⟩, a7.keep (fun _ _ => rfl) (fun q hq => f q ?_), ?_, ⟨st, a9.keepQ (fun q _ _ => f q (by omega))⟩, by rw [e]; exact a10⟩
  · rw [e1]; exact a2.keep (fun _ _ => rfl) (fun q hq => f q (by have := ho q; omega))
  · rw [e2]; exact a4.keepQ (fun q _ _ => f q (by omega))
  · rw [e3]; exact a5.keep (fun _ _ => rfl) (fun q hq => f q (by have := ho q; omega))
  · have := ho q; omega
  · rw [e4]; exact a8.keep (fun _ _ => rfl) (fun q hq => f q (by have := ho q; omega))
theorem one_z {p : Prop} [Decidable p] : (if p then (1 : Int32) else 0) = 0 ↔ ¬ p := by
  by_cases h : p
  · rw [if_pos h]; exact ⟨fun h' => absurd h' (by decide), fun h' => absurd h h'⟩
  · rw [if_neg h]; exact ⟨fun _ => h, fun _ => rfl⟩
theorem bI_z {b : Bool} : bI b = 0 ↔ b = false := by cases b <;> decide
theorem pw.obj {G : xG} {σ : xS} {own : Nat → Nat} {rc : Nat} {Z : pZ} (H : pw G σ own rc Z) : σ.1 0 = some (8, [rf G 1, .int (bI Z.2.1), rf G 18, .int (nI Z.2.2.1.length), rf G 19, rf G 21, rf G 23, rf G 56, rf G 60, rf G 82, rf G 84, .int Z.2.2.2.2.2.2]) := H.1
abbrev blw (x : Int32) (n : Int) : Prop := 0 ≤ x.toInt ∧ x.toInt < n
def F_draft (x y m : Int32) (Z : pZ) : Int32 × pZ := if blw x 64 ∧ blw y 100 ∧ blw m 2 then (1, ((x, y, m, 0), [], [], []), true, Z.2.2) else (-1, Z)
set_option maxRecDepth 100000 in
set_option maxHeartbeats 8000000 in
theorem c_PP_draft {G : xG} {d rc : Nat} {own : Nat → Nat} {x y m : Int32} {Z : pZ} {σ : xS} (h : pw G σ own rc Z) : xm G (d + 20) mX8_draft [rf G 0, .int x, .int y, .int m] σ (ppost G σ (F_draft x y m Z)) := by
  refine xm_at 4 rfl (by decide) (Nat.le_of_ble_eq_true rfl) (by simp [Value.category]) tX8_draft_ok ?_
  try simp only [xlo0, List.map_cons, List.map_nil, List.length_cons, List.length_nil, xrs, xr0, Nat.reduceAdd, Nat.reduceSub, List.cons_append, List.nil_append, List.set_cons_zero, List.set_cons_succ, Option.toList_none, Option.toList_some, nI_1]
  refine xgo 80 rfl ?_
  try simp only [xlo0, List.map_cons, List.map_nil, List.length_cons, List.length_nil, xrs, xr0, Nat.reduceAdd, Nat.reduceSub, List.cons_append, List.nil_append, List.set_cons_zero, List.set_cons_succ, Option.toList_none, Option.toList_some, nI_1]
  refine xcS 8 rfl rfl rfl c_isBelow rfl kX8_isBelow iX8_isBelow rfl rfl (Nat.le_of_ble_eq_true rfl) (fun v1 s1 q1 => ?_)
  obtain ⟨rfl, rfl⟩ := q1
  refine xgo 80 rfl ?_
  try simp only [xlo0, List.map_cons, List.map_nil, List.length_cons, List.length_nil, xrs, xr0, Nat.reduceAdd, Nat.reduceSub, List.cons_append, List.nil_append, List.set_cons_zero, List.set_cons_succ, Option.toList_none, Option.toList_some, nI_1]
  refine xi_ifeq rfl (fun c1 => ?_) (fun c1 => ?_)
  · simp only [one_z, Int32.reduceToInt] at c1
    refine xgo 80 rfl ?_
    try simp only [xlo0, List.map_cons, List.map_nil, List.length_cons, List.length_nil, xrs, xr0, Nat.reduceAdd, Nat.reduceSub, List.cons_append, List.nil_append, List.set_cons_zero, List.set_cons_succ, Option.toList_none, Option.toList_some, nI_1]
    refine xi_ret_i rfl rfl rfl (ppost.same h (if_neg (fun hc => c1 hc.1)))
  simp only [one_z, Int32.reduceToInt, Classical.not_not] at c1
  refine xgo 80 rfl ?_
  try simp only [xlo0, List.map_cons, List.map_nil, List.length_cons, List.length_nil, xrs, xr0, Nat.reduceAdd, Nat.reduceSub, List.cons_append, List.nil_append, List.set_cons_zero, List.set_cons_succ, Option.toList_none, Option.toList_some, nI_1]
  refine xcS 8 rfl rfl rfl c_isBelow rfl kX8_isBelow iX8_isBelow rfl rfl (Nat.le_of_ble_eq_true rfl) (fun v2 s2 q2 => ?_)
  obtain ⟨rfl, rfl⟩ := q2
  refine xgo 80 rfl ?_
  try simp only [xlo0, List.map_cons, List.map_nil, List.length_cons, List.length_nil, xrs, xr0, Nat.reduceAdd, Nat.reduceSub, List.cons_append, List.nil_append, List.set_cons_zero, List.set_cons_succ, Option.toList_none, Option.toList_some, nI_1]
  refine xi_ifeq rfl (fun c2 => ?_) (fun c2 => ?_)
  · simp only [one_z, Int32.reduceToInt] at c2
    refine xgo 80 rfl ?_
    try simp only [xlo0, List.map_cons, List.map_nil, List.length_cons, List.length_nil, xrs, xr0, Nat.reduceAdd, Nat.reduceSub, List.cons_append, List.nil_append, List.set_cons_zero, List.set_cons_succ, Option.toList_none, Option.toList_some, nI_1]
    refine xi_ret_i rfl rfl rfl (ppost.same h (if_neg (fun hc => c2 hc.2.1)))
  simp only [one_z, Int32.reduceToInt, Classical.not_not] at c2
  refine xgo 80 rfl ?_
  try simp only [xlo0, List.map_cons, List.map_nil, List.length_cons, List.length_nil, xrs, xr0, Nat.reduceAdd, Nat.reduceSub, List.cons_append, List.nil_append, List.set_cons_zero, List.set_cons_succ, Option.toList_none, Option.toList_some, nI_1]
  refine xcS 8 rfl rfl rfl c_isBelow rfl kX8_isBelow iX8_isBelow rfl rfl (Nat.le_of_ble_eq_true rfl) (fun v3 s3 q3 => ?_)
  obtain ⟨rfl, rfl⟩ := q3
  refine xgo 80 rfl ?_
  try simp only [xlo0, List.map_cons, List.map_nil, List.length_cons, List.length_nil, xrs, xr0, Nat.reduceAdd, Nat.reduceSub, List.cons_append, List.nil_append, List.set_cons_zero, List.set_cons_succ, Option.toList_none, Option.toList_some, nI_1]
  refine xi_ifne rfl (fun c3 => ?_) (fun c3 => ?_)
  · simp only [one_z, Int32.reduceToInt, Classical.not_not] at c3
    refine xgo 80 rfl ?_
    try simp only [xlo0, List.map_cons, List.map_nil, List.length_cons, List.length_nil, xrs, xr0, Nat.reduceAdd, Nat.reduceSub, List.cons_append, List.nil_append, List.set_cons_zero, List.set_cons_succ, Option.toList_none, Option.toList_some, nI_1]
    refine xg 8 rfl rfl rfl h.obj rfl ?_
    refine xgo 80 rfl ?_
    try simp only [xlo0, List.map_cons, List.map_nil, List.length_cons, List.length_nil, xrs, xr0, Nat.reduceAdd, Nat.reduceSub, List.cons_append, List.nil_append, List.set_cons_zero, List.set_cons_succ, Option.toList_none, Option.toList_some, nI_1]
    refine xcV 8 rfl rfl rfl (c_CT_begin h.2.1) rfl kX2_begin iX2_begin h.2.1.obj ⟨_, rfl, rfl⟩ rfl rfl (Nat.le_of_ble_eq_true rfl) (fun v4 s4 q4 => ?_)
    obtain ⟨rfl, p1, p2, p3⟩ := q4
    have h0 := (p2 0 (by omega)).trans h.obj
    refine xgo 80 rfl ?_
    try simp only [xlo0, List.map_cons, List.map_nil, List.length_cons, List.length_nil, xrs, xr0, Nat.reduceAdd, Nat.reduceSub, List.cons_append, List.nil_append, List.set_cons_zero, List.set_cons_succ, Option.toList_none, Option.toList_some, nI_1]
    refine xg 8 rfl rfl rfl h0 rfl ?_
    refine xgo 80 rfl ?_
    try simp only [xlo0, List.map_cons, List.map_nil, List.length_cons, List.length_nil, xrs, xr0, Nat.reduceAdd, Nat.reduceSub, List.cons_append, List.nil_append, List.set_cons_zero, List.set_cons_succ, Option.toList_none, Option.toList_some, nI_1]
    refine xcV 8 rfl rfl rfl (c_CT_title p1) rfl kX2_title iX2_title p1.obj ⟨_, rfl, rfl⟩ rfl rfl (Nat.le_of_ble_eq_true rfl) (fun v5 s5 q5 => ?_)
    obtain ⟨rfl, r1, r2, r3⟩ := q5
    have h0 := (r2 0 (by omega)).trans h0
    refine xgo 80 rfl ?_
    try simp only [xlo0, List.map_cons, List.map_nil, List.length_cons, List.length_nil, xrs, xr0, Nat.reduceAdd, Nat.reduceSub, List.cons_append, List.nil_append, List.set_cons_zero, List.set_cons_succ, Option.toList_none, Option.toList_some, nI_1]
    refine xp 8 rfl rfl rfl h0 rfl (by decide) (by decide) (fun s6 n6 f6 e6 => ?_)
    have hF : F_draft x y m Z = (1, ((x, y, m, 0), [], [], []), true, Z.2.2) := if_pos ⟨c1, c2, c3⟩
    rw [hF]
    refine xgo 80 rfl ?_
    try simp only [xlo0, List.map_cons, List.map_nil, List.length_cons, List.length_nil, xrs, xr0, Nat.reduceAdd, Nat.reduceSub, List.cons_append, List.nil_append, List.set_cons_zero, List.set_cons_succ, Option.toList_none, Option.toList_some, nI_1]
    refine xi_ret_i rfl rfl rfl ⟨rfl, ⟨own, rc, h.sheet (fun q hq => by rw [f6 q (by omega), r2 q (by omega), p2 q (by omega)]) (e6.trans (r3.trans p3)) n6 (r1.keepQ (fun q _ _ => f6 q (by omega))) ⟨rfl, rfl, rfl, rfl⟩⟩, fun q _ _ => by rw [f6 q (by omega), r2 q (by omega), p2 q (by omega)], by rw [e6, r3, p3]; omega, by rw [e6, r3, p3]; omega, by rw [e6, r3, p3]; omega⟩
  · simp only [one_z, Int32.reduceToInt] at c3
    refine xgo 80 rfl ?_
    try simp only [xlo0, List.map_cons, List.map_nil, List.length_cons, List.length_nil, xrs, xr0, Nat.reduceAdd, Nat.reduceSub, List.cons_append, List.nil_append, List.set_cons_zero, List.set_cons_succ, Option.toList_none, Option.toList_some, nI_1]
    refine xi_ret_i rfl rfl rfl (ppost.same h (if_neg (fun hc => c3 hc.2.2)))
