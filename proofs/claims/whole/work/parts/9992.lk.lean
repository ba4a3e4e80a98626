/-! ===== one call of both ===== -/
def LI (G : xG) (j : Nat) (σ : xS) : Prop := ∃ (own : Nat → Nat) (rc : Nat) (Z : pZ) (f : Nat → Int) (A : Nat → List Int32), pw G σ own rc Z ∧ mdl G σ.1 87 (f, A) ∧ mR Z (f, A) ∧ OK Z ∧ σ.2.1 ≤ 124 + 25 * j ∧ σ.2.2 ≤ 210000 + 2000 * j
abbrev lo4 (G : xG) (E : lE) (i : Nat) : xL := [some (.ref E.2.2.2.2.2.2.2.1), some (rf G 0), some (rf G 87), some (.int (nI i))]
def lck (pc k : Nat) : Bool := decide (tL_law.lookup pc = some ((42, 0, 0), 1)) && (decide (tL_law.lookup (pc + 1) = some ((26, 3, 0), 1)) && (decide (tL_law.lookup (pc + 2) = some ((2, 0, nI k), 1)) && (decide (tL_law.lookup (pc + 3) = some ((96, 0, 0), 1)) && decide (tL_law.lookup (pc + 4) = some ((46, 0, 0), 1)))))
def lcks : Nat → Nat → Nat → Bool
  | 0, _, _ => true
  | n + 1, k, pc => lck pc k && lcks n (k + 1) (pc + 5)
def las (xs : Nat → Int32) (i : Nat) : Nat → Nat → List Int32
  | 0, _ => []
  | n + 1, k => xs (i + k) :: las xs i n (k + 1)
theorem las_len (xs : Nat → Int32) (i : Nat) : ∀ n k, (las xs i n k).length = n
  | 0, _ => rfl
  | n + 1, k => by
    show (las xs i n (k + 1)).length + 1 = n + 1
    rw [las_len xs i n (k + 1)]
section LK
variable {G : xG} {E : lE} {pc i : Nat} {σ : xS}
theorem lj_arg {k : Nat} {st : List Value} (C : lC G E) (h : lck pc k = true) (hk : i + k < E.2.2.2.2.2.2.2.2.1) (kk : lj G E (pc + 5) (lo4 G E i) (.int (E.2.2.2.2.2.2.2.2.2 (i + k)) :: st) σ) : lj G E pc (lo4 G E i) st σ := by
  unfold lck at h
  simp only [Bool.and_eq_true, decide_eq_true_eq] at h
  obtain ⟨h0, h1, h2, h3, h4⟩ := h
  refine lj.one C h0 rfl ?_
  refine lj.one C h1 rfl ?_
  refine lj.one C h2 rfl ?_
  refine lj.one C h3 rfl ?_
  rw [nI_addN]
  exact lj_sld C h4 hk kk
theorem lj_args (C : lC G E) : ∀ (n k pc : Nat) (st : List Value), lcks n k pc = true → i + k + n ≤ E.2.2.2.2.2.2.2.2.1 → lj G E (pc + 5 * n) (lo4 G E i) (((las E.2.2.2.2.2.2.2.2.2 i n k).map Value.int).reverse ++ st) σ → lj G E pc (lo4 G E i) st σ
  | 0, _, _, _, _, _, kk => kk
  | n + 1, k, pc, st, h, hL, kk => by
    have h' : (lck pc k && lcks n (k + 1) (pc + 5)) = true := h
    rw [Bool.and_eq_true] at h'
    refine lj_arg C h'.1 (by omega) ?_
    refine lj_args C n (k + 1) (pc + 5) _ h'.2 (by omega) ?_
    have e : pc + 5 * (n + 1) = pc + 5 + 5 * n := by omega
    rw [e] at kk
    have e2 : ((las E.2.2.2.2.2.2.2.2.2 i (n + 1) k).map Value.int).reverse ++ st = ((las E.2.2.2.2.2.2.2.2.2 i n (k + 1)).map Value.int).reverse ++ (Value.int (E.2.2.2.2.2.2.2.2.2 (i + k)) :: st) := by
      show ((E.2.2.2.2.2.2.2.2.2 (i + k) :: las E.2.2.2.2.2.2.2.2.2 i n (k + 1)).map Value.int).reverse ++ st = _
      rw [List.map_cons, List.reverse_cons, List.append_assoc]
      rfl
    rw [e2] at kk
    exact kk
theorem lj_c1 {idx n rc : Nat} {own : Nat → Nat} {lo : xL} {M1 : xM} {As : List Int32} {Z : pZ} {P : Int32 × pZ → Prop} (C : lC G E) (hd : tL_law.lookup pc = some ((182, idx, 0), 3)) (k1 : xml M1 n) (i1 : ∀ w ∈ [Cond.instanceMethod M1.1, Cond.selects M1.1.cls M1.1 M1.1], w ∈ xGw) (l1 : xlk RL idx M1) (hc : ∃ r : vw_C, vwCl[8]? = some r ∧ r.1 = M1.1.cls) (hn : As.length = n) (hp : pw G σ own rc Z)
    (h1 : xm G 20 M1 (rf G 0 :: As.map Value.int) σ (fun v σ' => ∃ F, P F ∧ ppost G σ F v σ')) (hs1 : σ.2.1 + 25 ≤ 600000) (hs2 : σ.2.2 + 2000 ≤ 7302249)
    (kk : ∀ (F : Int32 × pZ) (own' : Nat → Nat) (rc' : Nat) (σ' : xS), P F → pw G σ' own' rc' F.2 → mk σ σ' → lj G E (pc + 3) lo [.int F.1] σ') : lj G E pc lo ((As.map Value.int).reverse ++ [rf G 0]) σ := by
  refine lj_callV (rest := []) C hd k1 i1 l1 h1 hp.obj hc (by rw [List.length_map]; exact hn) rfl (by simp) (by omega) (fun v σ' hq => ?_) (fun v σ' hq => ?_)
  · obtain ⟨F, -, -, -, hm⟩ := hq
    have a := hm.2.2.1
    have b := hm.2.2.2
    exact ⟨by omega, by omega⟩
  · obtain ⟨F, hF, rfl, ⟨own', rc', hp'⟩, hm⟩ := hq
    exact kk F own' rc' σ' hF hp' hm
theorem yva_args (G : xG) (As : List Int32) : (((.inr 0 : yv) :: As.map (fun x => Sum.inl x.toInt)).map (yva G 87)) = rf G 87 :: As.map Value.int := by
  rw [List.map_cons, List.map_map]
  congr 1
  apply List.map_congr_left
  intro x _
  show Value.int (Int32.ofInt x.toInt) = Value.int x
  rw [iof]
theorem lj_c2 {idx n : Nat} {lo : xL} {M2 : xM} {As : List Int32} {F : Int32 × pZ} {Y : yS} (C : lC G E) (hd : tL_law.lookup pc = some ((182, idx, 0), 3)) (k2 : xml M2 n) (i2 : ∀ w ∈ [Cond.instanceMethod M2.1, Cond.selects M2.1.cls M2.1 M2.1], w ∈ xGw) (l2 : xlk RL idx M2) (hc : ∃ r : vw_C, vwCl[9]? = some r ∧ r.1 = M2.1.cls) (hn : As.length = n) (hm : mdl G σ.1 87 Y)
    (h2 : ym G 20 87 M2 (.inr 0 :: As.map (fun x => Sum.inl x.toInt)) Y (fun w Y' => ypost F w Y' ∧ OK F.2)) (hs1 : σ.2.1 ≤ 600000) (hs2 : σ.2.2 ≤ 7302249)
    (kk : ∀ (σ' : xS) (Y' : yS), mdl G σ'.1 87 Y' → frz σ.1 σ'.1 87 37 → σ'.2 = σ.2 → mR F.2 Y' → OK F.2 → lj G E (pc + 3) lo [.int F.1, .int F.1] σ') : lj G E pc lo ((As.map Value.int).reverse ++ [rf G 87, .int F.1]) σ := by
  have h3 := h2 σ hm
  rw [yva_args] at h3
  refine lj_callV (rest := [.int F.1]) C hd k2 i2 l2 h3 hm.1 hc (by rw [List.length_map]; exact hn) rfl (by simp [Value.category]) (by omega) (fun v σ' hq => ?_) (fun v σ' hq => ?_)
  · obtain ⟨v', Y', -, -, -, e, -⟩ := hq
    rw [e]
    exact ⟨hs1, hs2⟩
  · obtain ⟨v', Y', hv, hm', hz, e, ⟨rfl, hR⟩, hO⟩ := hq
    have hv2 : v = some (.int F.1) := by
      rw [hv]
      show some (Value.int (Int32.ofInt F.1.toInt)) = _
      rw [iof]
    subst hv2
    exact kk σ' Y' hm' hz e hR hO
theorem lj_back {j : Nat} (C : lC G E) (kk : lj G E 18 (lo4 G E (6 * (j + 1))) [] σ) : lj G E 1218 (lo4 G E (6 * j)) [] σ := by
  refine lj.one C (show tL_law.lookup 1218 = some ((132, 3, 6), 3) by decide +kernel) rfl ?_
  refine lj.one C (show tL_law.lookup 1221 = some ((167, 18, 0), 3) by decide +kernel) rfl ?_
  have e : nI (6 * j) + 6 = nI (6 * (j + 1)) := by
    have := nI_addN (6 * j) 6
    rw [show 6 * (j + 1) = 6 * j + 6 by omega]
    exact this
  have h : lj G E 18 [some (.ref E.2.2.2.2.2.2.2.1), some (rf G 0), some (rf G 87), some (.int (nI (6 * j) + 6))] [] σ := by
    rw [e]
    exact kk
  exact h
set_option maxRecDepth 100000 in
/-- behind the first call's arguments -/
theorem lj_mid {j n idx1 pc2 idx2 : Nat} {M1 M2 : xM} {As : List Int32} {P : pZ → Int32 × pZ → Prop} (C : lC G E) (hI : LI G j σ) (hj : j < 512)
    (d1 : tL_law.lookup pc = some ((182, idx1, 0), 3)) (d2 : tL_law.lookup (pc + 3) = some ((42, 2, 0), 1)) (d3 : tL_law.lookup pc2 = some ((182, idx2, 0), 3)) (d4 : tL_law.lookup (pc2 + 3) = some ((159, 1218, 0), 3))
    (ar : ∀ (st : List Value) (σ' : xS), lj G E pc2 (lo4 G E (6 * j)) ((As.map Value.int).reverse ++ st) σ' → lj G E (pc + 4) (lo4 G E (6 * j)) st σ') (hn : As.length = n)
    (k1 : xml M1 n) (i1 : ∀ w ∈ [Cond.instanceMethod M1.1, Cond.selects M1.1.cls M1.1 M1.1], w ∈ xGw) (l1 : xlk RL idx1 M1) (c1 : ∃ r : vw_C, vwCl[8]? = some r ∧ r.1 = M1.1.cls)
    (k2 : xml M2 n) (i2 : ∀ w ∈ [Cond.instanceMethod M2.1, Cond.selects M2.1.cls M2.1 M2.1], w ∈ xGw) (l2 : xlk RL idx2 M2) (c2 : ∃ r : vw_C, vwCl[9]? = some r ∧ r.1 = M2.1.cls)
    (h1 : ∀ (own : Nat → Nat) (rc : Nat) (Z : pZ), pw G σ own rc Z → OK Z → xm G 20 M1 (rf G 0 :: As.map Value.int) σ (fun v σ' => ∃ F, P Z F ∧ ppost G σ F v σ'))
    (h2 : ∀ (Z : pZ) (f : Nat → Int) (A : Nat → List Int32) (F : Int32 × pZ), mR Z (f, A) → OK Z → P Z F → ym G 20 87 M2 (.inr 0 :: As.map (fun x => Sum.inl x.toInt)) (f, A) (fun w Y' => ypost F w Y' ∧ OK F.2))
    (next : ∀ σ', LI G (j + 1) σ' → lj G E 18 (lo4 G E (6 * (j + 1))) [] σ') : lj G E pc (lo4 G E (6 * j)) ((As.map Value.int).reverse ++ [rf G 0]) σ := by
  obtain ⟨own, rc, Z, f, A, hp, hm, hR, hO, b1, b2⟩ := hI
  refine lj_c1 (P := P Z) C d1 k1 i1 l1 c1 hn hp (h1 own rc Z hp hO) (by omega) (by omega) (fun F own1 rc1 σ1 hF hp1 hm1 => ?_)
  refine lj.one C d2 rfl ?_
  refine ar _ _ ?_
  refine lj_c2 (F := F) C d3 k2 i2 l2 c2 hn (hm.keep hm1.1) (h2 Z f A F hR hO hF) (by have := hm1.2.2.1; omega) (by have := hm1.2.2.2; omega) (fun σ2 Y2 hm2 hz e hR2 hO2 => ?_)
  refine lj_icmpeq C d4 ?_
  refine lj_back C (next σ2 ?_)
  obtain ⟨f2, A2⟩ := Y2
  refine ⟨own1, rc1, F.2, f2, A2, hp1.model hz e, hm2, hR2, hO2, ?_, ?_⟩
  · rw [e]; have := hm1.2.2.1; omega
  · rw [e]; have := hm1.2.2.2; omega
theorem lj_do {j n idx1 idx2 : Nat} {M1 M2 : xM} {P : pZ → Int32 × pZ → Prop} (C : lC G E) (hI : LI G j σ) (hj : 6 * j + 6 ≤ E.2.2.2.2.2.2.2.2.1) (hn5 : n ≤ 5)
    (d0 : tL_law.lookup pc = some ((42, 1, 0), 1)) (a1 : lcks n 1 (pc + 1) = true) (d1 : tL_law.lookup (pc + 1 + 5 * n) = some ((182, idx1, 0), 3)) (d2 : tL_law.lookup (pc + 1 + 5 * n + 3) = some ((42, 2, 0), 1)) (a2 : lcks n 1 (pc + 1 + 5 * n + 4) = true) (d3 : tL_law.lookup (pc + 1 + 5 * n + 4 + 5 * n) = some ((182, idx2, 0), 3)) (d4 : tL_law.lookup (pc + 1 + 5 * n + 4 + 5 * n + 3) = some ((159, 1218, 0), 3))
    (k1 : xml M1 n) (i1 : ∀ w ∈ [Cond.instanceMethod M1.1, Cond.selects M1.1.cls M1.1 M1.1], w ∈ xGw) (l1 : xlk RL idx1 M1) (c1 : ∃ r : vw_C, vwCl[8]? = some r ∧ r.1 = M1.1.cls)
    (k2 : xml M2 n) (i2 : ∀ w ∈ [Cond.instanceMethod M2.1, Cond.selects M2.1.cls M2.1 M2.1], w ∈ xGw) (l2 : xlk RL idx2 M2) (c2 : ∃ r : vw_C, vwCl[9]? = some r ∧ r.1 = M2.1.cls)
    (h1 : ∀ (own : Nat → Nat) (rc : Nat) (Z : pZ), pw G σ own rc Z → OK Z → xm G 20 M1 (rf G 0 :: (las E.2.2.2.2.2.2.2.2.2 (6 * j) n 1).map Value.int) σ (fun v σ' => ∃ F, P Z F ∧ ppost G σ F v σ'))
    (h2 : ∀ (Z : pZ) (f : Nat → Int) (A : Nat → List Int32) (F : Int32 × pZ), mR Z (f, A) → OK Z → P Z F → ym G 20 87 M2 (.inr 0 :: (las E.2.2.2.2.2.2.2.2.2 (6 * j) n 1).map (fun x => Sum.inl x.toInt)) (f, A) (fun w Y' => ypost F w Y' ∧ OK F.2))
    (next : ∀ σ', LI G (j + 1) σ' → lj G E 18 (lo4 G E (6 * (j + 1))) [] σ') : lj G E pc (lo4 G E (6 * j)) [] σ := by
  have hL := C.2.2.2.2.2.2.2.2.2.2.2
  refine lj.one C d0 rfl ?_
  refine lj_args C n 1 (pc + 1) _ a1 (by omega) ?_
  exact lj_mid (P := P) C hI (by omega) d1 d2 d3 d4 (fun st σ' kk => lj_args C n 1 _ st a2 (by omega) kk) (las_len _ _ _ _) k1 i1 l1 c1 k2 i2 l2 c2 h1 h2 next
/-- a flag out of a number -/
theorem lj_flag {x : Int32} {st : List Value} {lo : xL} (C : lC G E) (d0 : tL_law.lookup pc = some ((153, pc + 7, 0), 3)) (d1 : tL_law.lookup (pc + 3) = some ((2, 0, 1), 1)) (d2 : tL_law.lookup (pc + 4) = some ((167, pc + 8, 0), 3)) (d3 : tL_law.lookup (pc + 7) = some ((2, 0, 0), 1)) (kk : lj G E (pc + 8) lo (.int (if x = 0 then 0 else 1) :: st) σ) : lj G E pc lo (.int x :: st) σ := by
  refine lj_ifeq C d0 (fun c => ?_) (fun c => ?_)
  · rw [if_pos c] at kk
    exact lj.one C d3 rfl kk
  · rw [if_neg c] at kk
    refine lj.one C d1 rfl ?_
    exact lj.one C d2 rfl kk
end LK
