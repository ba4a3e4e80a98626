/-! ===== new int[n][k] ===== -/
def xmulti (G : xG) (σ : xS) (N K : Nat) : xS := (fun q => if q = σ.2.1 then some (16, (List.range N).map (fun r => rf G (σ.2.1 + 1 + r))) else if σ.2.1 < q ∧ q < σ.2.1 + 1 + N then some (11, List.replicate K (.int 0)) else σ.1 q, σ.2.1 + 1 + N, σ.2.2 + N + N * K)
theorem xouter (c : ClassId) (N h0 : Nat) : ∀ i : Nat, Jvm.Free.Multi.outerC c N h0 i = arrV c N (fun j => if j < i then .ref (h0 + 1 + j) else .null)
  | 0 => by
    show ({ cls := c, slots := Array.replicate N .null, vm := .none } : Cell) = _
    rw [arrV_new]
    refine congrArg (arrV c N) (funext fun j => ?_)
    simp
  | i + 1 => by
    show (Jvm.Free.Multi.outerC c N h0 i).setSlot i (.ref (h0 + 1 + i)) = _
    rw [xouter c N h0 i, arrV_store]
    refine congrArg (arrV c N) (funext fun j => ?_)
    by_cases e : j = i
    · subst e
      simp [updV]
    · by_cases h : j < i
      · simp [updV, e, h, Nat.lt_succ_of_lt h]
      · simp [updV, e, h, show ¬ j < i + 1 by omega]
theorem arrV_congr {c : ClassId} {N : Nat} {f g : Nat → Value} (h : ∀ j, j < N → f j = g j) : arrV c N f = arrV c N g := by
  unfold arrV
  congr 1
  apply Array.ext
  · simp
  · intro i h1 h2
    simp only [Array.getElem_ofFn]
    exact h i (by simpa using h1)
theorem xi_multi {G : xG} {d : Nat} {M : xM} {pc : Nat} {lo : xL} {st : List Value} {σ : xS} {Q : Option Value → xS → Prop} {idx : Nat} {n k : Int32} {N K : Nat} (hd : M.2.2.2.2.lookup pc = some ((197, idx, 0), 4)) (hw : Cond.classLink M.1.cls idx "[[I" ∈ xGw) (hn : ¬ n < 0) (hk : ¬ k < 0) (hN : n.toNatClampNeg = N) (hKk : k.toNatClampNeg = K) (hb1 : N ≤ 1000000) (hb2 : K ≤ 1000000)
    (kk : xw G d M (pc + 4) lo (rf G σ.2.1 :: st) (xmulti G σ N K) Q) : xw G d M pc lo (.int k :: .int n :: st) σ Q := by
  obtain ⟨v, σ', hq, h1, h2, kc⟩ := kk
  have h1' : σ.2.1 + 1 + N ≤ σ'.2.1 := h1
  have h2' : σ.2.2 + N + N * K ≤ σ'.2.2 := h2
  subst hN
  subst hKk
  refine ⟨v, σ', hq, by omega, by omega, fun n0 s0 p e R s m args below meth c H locs ls C a1 a2 hr hf hl => ?_⟩
  obtain ⟨hx, hb, hmL, hre, hlks, ho, hnm, hts, hK, hR1, hR2, hRc, hRs, ht, hN0⟩ := id C
  intro T hT X
  obtain ⟨vm₁, cA, comp, -, fA, fC, -, -, X', step⟩ := X.multianewarray2F hx (ty := .int) ho (hts _ hw) hK.2.2.2 (hts _ a_11) (g := F0 m pc ls (.int k :: .int n :: st)) rfl (by rw [hb]; exact (ht _ (xlook hd)).1) rfl hn hk (by omega) (by show _ * 4 ≤ _; omega) (by omega) rfl rfl (by omega) (by omega)
  have hA := (hK.1.2 6 (G.2.1 16, xtag 16) rfl).2
  have hI := (hK.1.2 1 (G.2.1 11, xtag 11) rfl).2
  have ecA : cA = G.2.1 16 := Option.some.inj (fA.symm.trans hA)
  have ecI : comp = G.2.1 11 := Option.some.inj (fC.symm.trans hI)
  subst ecA
  subst ecI
  generalize hF : Jvm.Free.Multi.fill (T.setVm vm₁) (G.2.1 16) (G.2.1 11) n.toNatClampNeg k.toNatClampNeg (defaultValue .int) n.toNatClampNeg = F at X' step
  have hTh : (T.setVm vm₁).heap = H := hT
  obtain ⟨f1, f2, -, -⟩ := Jvm.Free.Multi.fill_facts (T.setVm vm₁) (G.2.1 16) (G.2.1 11) n.toNatClampNeg k.toNatClampNeg (defaultValue .int) n.toNatClampNeg
  rw [hF, hTh] at f1 f2
  have hold : ∀ x : Nat, x < H.size → F.heap[x]? = H[x]? := fun x hx => by
    have := Jvm.Free.Multi.fill_old (T.setVm vm₁) (G.2.1 16) (G.2.1 11) n.toNatClampNeg k.toNatClampNeg (defaultValue .int) (a := x) (by rw [hTh]; exact hx) n.toNatClampNeg
    rw [hF, hTh] at this
    exact this
  have hrow : ∀ j : Nat, j < n.toNatClampNeg → F.heap[H.size + 1 + j]? = some (xar G 11 (List.replicate k.toNatClampNeg (.int 0))) := fun j hj => by
    have := Jvm.Free.Multi.fill_inner (T.setVm vm₁) (G.2.1 16) (G.2.1 11) n.toNatClampNeg k.toNatClampNeg (defaultValue .int) n.toNatClampNeg j hj
    rw [hF, hTh] at this
    rw [this]
    simp [Jvm.Free.Multi.innerC, xar, defaultValue]
  have hsz := hr.1
  have hout : F.heap[G.2.2.2 + σ.2.1]? = some (xar G 16 ((List.range n.toNatClampNeg).map (fun r => rf G (σ.2.1 + 1 + r)))) := by
    rw [← hsz, f2, xouter, xar_arrV, List.length_map, List.length_range]
    refine congrArg some (arrV_congr fun j hj => ?_)
    rw [if_pos hj]
    simp only [vp_V, List.getD_eq_getElem?_getD, List.getElem?_map, List.getElem?_range hj]
    show Value.ref (H.size + 1 + j) = Value.ref (G.2.2.2 + (σ.2.1 + 1 + j))
    have e9 : H.size + 1 + j = G.2.2.2 + (σ.2.1 + 1 + j) := by omega
    rw [e9]
  have hrel : xrel G (xmulti G σ n.toNatClampNeg k.toNatClampNeg) F.heap := by
    refine ⟨by rw [f1, hsz]; show _ = G.2.2.2 + (σ.2.1 + 1 + _); omega, fun q c' hc' => ?_⟩
    have hc2 : (if q = σ.2.1 then some (16, (List.range n.toNatClampNeg).map (fun r => rf G (σ.2.1 + 1 + r))) else if σ.2.1 < q ∧ q < σ.2.1 + 1 + n.toNatClampNeg then some (11, List.replicate k.toNatClampNeg (.int 0)) else σ.1 q) = some c' := hc'
    by_cases e1 : q = σ.2.1
    · rw [if_pos e1] at hc2
      cases hc2
      rw [e1]
      exact Or.inr ⟨by show 10 ≤ 16; omega, by show 16 ≤ 16; omega, hout⟩
    · rw [if_neg e1] at hc2
      by_cases e2 : σ.2.1 < q ∧ q < σ.2.1 + 1 + n.toNatClampNeg
      · rw [if_pos e2] at hc2
        cases hc2
        refine Or.inr ⟨by show 10 ≤ 11; omega, by show 11 ≤ 16; omega, ?_⟩
        have := hrow (q - σ.2.1 - 1) (by omega)
        rw [hsz, show G.2.2.2 + σ.2.1 + 1 + (q - σ.2.1 - 1) = G.2.2.2 + q by omega] at this
        exact this
      · rw [if_neg e2] at hc2
        exact (hr.2 q c' hc2).kept (hold _ (hr.2 q c' hc2).lt)
  have hfr : xfr G s F.heap locs := ⟨fun q hq => (hold q (by rw [hsz]; omega)).trans (hf.1 q hq), hf.2⟩
  obtain ⟨t, b1, b2⟩ := kc n0 s0 p e R s m args below meth c F.heap locs ls C (show n0 ≤ σ.2.1 + 1 + _ by omega) (show s0 ≤ σ.2.2 + _ + _ by omega) hrel hfr hl F rfl (by
    have e1 : (xmulti G σ n.toNatClampNeg k.toNatClampNeg).2.1 - n0 = σ.2.1 - n0 + 1 + n.toNatClampNeg := by show σ.2.1 + 1 + _ - n0 = _; omega
    have e2 : (xmulti G σ n.toNatClampNeg k.toNatClampNeg).2.2 - s0 = σ.2.2 - s0 + n.toNatClampNeg + n.toNatClampNeg * k.toNatClampNeg := by show σ.2.2 + _ + _ - s0 = _; omega
    rw [e1, e2]
    exact X')
  refine ⟨t, step t ?_, b2⟩
  have e : T.heap.size = G.2.2.2 + σ.2.1 := by rw [hT, hsz]
  rw [e]
  exact b1
section X10
variable {G : xG} {d : Nat} {M : xM} {pc : Nat} {lo : xL} {st : List Value} {σ : xS} {Q : Option Value → xS → Prop}
theorem xna {k t ta : Nat} {n : Int32} {N : Nat} {atype : ArrayType} (hk : σ.2.1 = k) (hd : M.2.2.2.2.lookup pc = some ((188, ta, 0), 2)) (hins : xins pc (188, ta, 0) = .newarray atype) (h1 : 10 ≤ t) (h2 : t ≤ 12) (hty : newarray.typeOf atype = xtag t) (hw : Cond.arrayClass (xtag t) ∈ xGw) (hn : ¬ n < 0) (hN : n.toNatClampNeg = N) (hb1 : N ≤ 1000000)
    (kk : ∀ σ1 : xS, σ1.1 k = some (t, List.replicate N (.int 0)) → (∀ q, q ≠ k → σ1.1 q = σ.1 q) → σ1.2.1 = k + 1 → σ1.2.2 = σ.2.2 + N → xw G d M (pc + 2) lo (rf G k :: st) σ1 Q) : xw G d M pc lo (.int n :: st) σ Q := by
  subst hk
  exact xi_newa hd hins h1 h2 hty hw hn hN hb1 (kk _ (if_pos rfl) (fun q hq => if_neg hq) rfl rfl)
theorem xnb {k t idx : Nat} {n : Int32} {N : Nat} {C : String} (hk : σ.2.1 = k) (hd : M.2.2.2.2.lookup pc = some ((189, idx, 0), 3)) (h1 : 13 ≤ t) (h2 : t ≤ 15) (hty : xtag t = .object C) (hC : C ∈ ["PackPost$Book", "PackPost$ByteRow", "PackPost$Entry"]) (hw : Cond.classLink M.1.cls idx C ∈ xGw) (hn : ¬ n < 0) (hN : n.toNatClampNeg = N) (hb1 : N ≤ 1000000)
    (kk : ∀ σ1 : xS, σ1.1 k = some (t, List.replicate N .null) → (∀ q, q ≠ k → σ1.1 q = σ.1 q) → σ1.2.1 = k + 1 → σ1.2.2 = σ.2.2 + N → xw G d M (pc + 3) lo (rf G k :: st) σ1 Q) : xw G d M pc lo (.int n :: st) σ Q := by
  subst hk
  exact xi_anewa hd h1 h2 hty hC hw hn hN hb1 (kk _ (if_pos rfl) (fun q hq => if_neg hq) rfl rfl)
theorem xnn {k idx ci : Nat} (hk : σ.2.1 = k) (hd : M.2.2.2.2.lookup pc = some ((187, idx, 0), 3)) (hf : xnl M.1.cls idx ci)
    (kk : ∀ σ1 : xS, σ1.1 k = some (ci, xdef ci) → (∀ q, q ≠ k → σ1.1 q = σ.1 q) → σ1.2.1 = k + 1 → σ1.2.2 = σ.2.2 + xN ci → xw G d M (pc + 3) lo (rf G k :: st) σ1 Q) : xw G d M pc lo st σ Q := by
  subst hk
  exact xi_new hd hf (kk _ (if_pos rfl) (fun q hq => if_neg hq) rfl rfl)
theorem xnm {c idx : Nat} {n k : Int32} {N K : Nat} (hc : σ.2.1 = c) (hd : M.2.2.2.2.lookup pc = some ((197, idx, 0), 4)) (hw : Cond.classLink M.1.cls idx "[[I" ∈ xGw) (hn : ¬ n < 0) (hk : ¬ k < 0) (hN : n.toNatClampNeg = N) (hKk : k.toNatClampNeg = K) (hb1 : N ≤ 1000000) (hb2 : K ≤ 1000000)
    (kk : ∀ σ1 : xS, σ1.1 c = some (16, (List.range N).map (fun r => rf G (c + 1 + r))) → (∀ r, r < N → σ1.1 (c + 1 + r) = some (11, List.replicate K (.int 0))) → (∀ q, (q < c ∨ c + 1 + N ≤ q) → σ1.1 q = σ.1 q) → σ1.2.1 = c + 1 + N → σ1.2.2 = σ.2.2 + N + N * K → xw G d M (pc + 4) lo (rf G c :: st) σ1 Q) : xw G d M pc lo (.int k :: .int n :: st) σ Q := by
  subst hc
  refine xi_multi hd hw hn hk hN hKk hb1 hb2 (kk _ (if_pos rfl) (fun r hr => ?_) (fun q hq => ?_) rfl rfl)
  · exact (if_neg (by omega)).trans (if_pos (by omega))
  · exact (if_neg (by omega)).trans (if_neg (by omega))
end X10
/-- a new Content -/
def cnew : cV := ((0, 0, 0, 0), [], [], [])
set_option maxRecDepth 100000 in
set_option maxHeartbeats 8000000 in
theorem c_CT_init {G : xG} {d c : Nat} {σ : xS} (h : σ.1 c = some (2, xdef 2)) (hc : σ.2.1 = c + 1) : xm G (d + 1) mX2_init [rf G c] σ (fun v σ' => v = none ∧ cont G σ'.1 c cnew ∧ (∀ q, (q < c ∨ c + 17 ≤ q) → σ'.1 q = σ.1 q) ∧ σ'.2.1 = c + 17 ∧ σ'.2.2 = σ.2.2 + 1008) := by
  refine xm_at 1 rfl (by decide) (Nat.le_of_ble_eq_true rfl) (by simp [Value.category]) tX2_init_ok ?_
  try simp only [xlo0, List.map_cons, List.map_nil, List.length_cons, List.length_nil, xrs, xr0, Nat.reduceAdd, Nat.reduceSub, List.cons_append, List.nil_append, List.set_cons_zero, List.set_cons_succ, Option.toList_none, Option.toList_some, nI_1]
  refine xgo 80 rfl ?_
  try simp only [xlo0, List.map_cons, List.map_nil, List.length_cons, List.length_nil, xrs, xr0, Nat.reduceAdd, Nat.reduceSub, List.cons_append, List.nil_append, List.set_cons_zero, List.set_cons_succ, Option.toList_none, Option.toList_some, nI_1]
  refine xi_obj rfl oX2 (Nat.le_of_ble_eq_true rfl) ?_
  have hxd : xdef 2 = [.int 0, .int 0, .int 0, .int 0, .null, .null, .null, .int 0, .null, .int 0, .null, .null, .null, .null, .int 0] := rfl
  rw [hxd] at h
  refine xgo 80 rfl ?_
  try simp only [xlo0, List.map_cons, List.map_nil, List.length_cons, List.length_nil, xrs, xr0, Nat.reduceAdd, Nat.reduceSub, List.cons_append, List.nil_append, List.set_cons_zero, List.set_cons_succ, Option.toList_none, Option.toList_some, nI_1]
  refine xna (t := 11) (atype := .int) (N := 4) hc rfl rfl (by decide) (by decide) rfl a_11 (by decide) rfl (by decide) (fun s1 n1 f1 g1 k1 => ?_)
  have h := (f1 _ (by omega)).trans h
  refine xgo 80 rfl ?_
  try simp only [xlo0, List.map_cons, List.map_nil, List.length_cons, List.length_nil, xrs, xr0, Nat.reduceAdd, Nat.reduceSub, List.cons_append, List.nil_append, List.set_cons_zero, List.set_cons_succ, Option.toList_none, Option.toList_some, nI_1]
  refine xpF rfl fX2_9F rfl h rfl rfl rfl (fun s2 n2 f2 e2 => ?_)
  have n1 := (f2 _ (by omega)).trans n1
  refine xgo 80 rfl ?_
  try simp only [xlo0, List.map_cons, List.map_nil, List.length_cons, List.length_nil, xrs, xr0, Nat.reduceAdd, Nat.reduceSub, List.cons_append, List.nil_append, List.set_cons_zero, List.set_cons_succ, Option.toList_none, Option.toList_some, nI_1]
  refine xna (t := 11) (atype := .int) (N := 4) ((congrArg Prod.fst e2).trans g1) rfl rfl (by decide) (by decide) rfl a_11 (by decide) rfl (by decide) (fun s3 n3 f3 g3 k3 => ?_)
  have n1 := (f3 _ (by omega)).trans n1
  have n2 := (f3 _ (by omega)).trans n2
  refine xgo 80 rfl ?_
  try simp only [xlo0, List.map_cons, List.map_nil, List.length_cons, List.length_nil, xrs, xr0, Nat.reduceAdd, Nat.reduceSub, List.cons_append, List.nil_append, List.set_cons_zero, List.set_cons_succ, Option.toList_none, Option.toList_some, nI_1]
  refine xpF rfl fX2_15F rfl n2 rfl rfl rfl (fun s4 n4 f4 e4 => ?_)
  have n1 := (f4 _ (by omega)).trans n1
  have n3 := (f4 _ (by omega)).trans n3
  refine xgo 80 rfl ?_
  try simp only [xlo0, List.map_cons, List.map_nil, List.length_cons, List.length_nil, xrs, xr0, Nat.reduceAdd, Nat.reduceSub, List.cons_append, List.nil_append, List.set_cons_zero, List.set_cons_succ, Option.toList_none, Option.toList_some, nI_1]
  refine xna (t := 12) (atype := .boolean) (N := 4) ((congrArg Prod.fst e4).trans g3) rfl rfl (by decide) (by decide) rfl a_12 (by decide) rfl (by decide) (fun s5 n5 f5 g5 k5 => ?_)
  have n1 := (f5 _ (by omega)).trans n1
  have n3 := (f5 _ (by omega)).trans n3
  have n4 := (f5 _ (by omega)).trans n4
  refine xgo 80 rfl ?_
  try simp only [xlo0, List.map_cons, List.map_nil, List.length_cons, List.length_nil, xrs, xr0, Nat.reduceAdd, Nat.reduceSub, List.cons_append, List.nil_append, List.set_cons_zero, List.set_cons_succ, Option.toList_none, Option.toList_some, nI_1]
  refine xpF rfl fX2_18F rfl n4 rfl rfl rfl (fun s6 n6 f6 e6 => ?_)
  have n1 := (f6 _ (by omega)).trans n1
  have n3 := (f6 _ (by omega)).trans n3
  have n5 := (f6 _ (by omega)).trans n5
  refine xgo 80 rfl ?_
  try simp only [xlo0, List.map_cons, List.map_nil, List.length_cons, List.length_nil, xrs, xr0, Nat.reduceAdd, Nat.reduceSub, List.cons_append, List.nil_append, List.set_cons_zero, List.set_cons_succ, Option.toList_none, Option.toList_some, nI_1]
  refine xna (t := 11) (atype := .int) (N := 4) ((congrArg Prod.fst e6).trans g5) rfl rfl (by decide) (by decide) rfl a_11 (by decide) rfl (by decide) (fun s7 n7 f7 g7 k7 => ?_)
  have n1 := (f7 _ (by omega)).trans n1
  have n3 := (f7 _ (by omega)).trans n3
  have n5 := (f7 _ (by omega)).trans n5
  have n6 := (f7 _ (by omega)).trans n6
  refine xgo 80 rfl ?_
  try simp only [xlo0, List.map_cons, List.map_nil, List.length_cons, List.length_nil, xrs, xr0, Nat.reduceAdd, Nat.reduceSub, List.cons_append, List.nil_append, List.set_cons_zero, List.set_cons_succ, Option.toList_none, Option.toList_some, nI_1]
  refine xpF rfl fX2_22F rfl n6 rfl rfl rfl (fun s8 n8 f8 e8 => ?_)
  have n1 := (f8 _ (by omega)).trans n1
  have n3 := (f8 _ (by omega)).trans n3
  have n5 := (f8 _ (by omega)).trans n5
  have n7 := (f8 _ (by omega)).trans n7
  refine xgo 80 rfl ?_
  try simp only [xlo0, List.map_cons, List.map_nil, List.length_cons, List.length_nil, xrs, xr0, Nat.reduceAdd, Nat.reduceSub, List.cons_append, List.nil_append, List.set_cons_zero, List.set_cons_succ, Option.toList_none, Option.toList_some, nI_1]
  refine xna (t := 11) (atype := .int) (N := 8) ((congrArg Prod.fst e8).trans g7) rfl rfl (by decide) (by decide) rfl a_11 (by decide) rfl (by decide) (fun s9 n9 f9 g9 k9 => ?_)
  have n1 := (f9 _ (by omega)).trans n1
  have n3 := (f9 _ (by omega)).trans n3
  have n5 := (f9 _ (by omega)).trans n5
  have n7 := (f9 _ (by omega)).trans n7
  have n8 := (f9 _ (by omega)).trans n8
  refine xgo 80 rfl ?_
  try simp only [xlo0, List.map_cons, List.map_nil, List.length_cons, List.length_nil, xrs, xr0, Nat.reduceAdd, Nat.reduceSub, List.cons_append, List.nil_append, List.set_cons_zero, List.set_cons_succ, Option.toList_none, Option.toList_some, nI_1]
  refine xpF rfl fX2_25F rfl n8 rfl rfl rfl (fun s10 n10 f10 e10 => ?_)
  have n1 := (f10 _ (by omega)).trans n1
  have n3 := (f10 _ (by omega)).trans n3
  have n5 := (f10 _ (by omega)).trans n5
  have n7 := (f10 _ (by omega)).trans n7
  have n9 := (f10 _ (by omega)).trans n9
  refine xgo 80 rfl ?_
  try simp only [xlo0, List.map_cons, List.map_nil, List.length_cons, List.length_nil, xrs, xr0, Nat.reduceAdd, Nat.reduceSub, List.cons_append, List.nil_append, List.set_cons_zero, List.set_cons_succ, Option.toList_none, Option.toList_some, nI_1]
  refine xna (t := 11) (atype := .int) (N := 8) ((congrArg Prod.fst e10).trans g9) rfl rfl (by decide) (by decide) rfl a_11 (by decide) rfl (by decide) (fun s11 n11 f11 g11 k11 => ?_)
  have n1 := (f11 _ (by omega)).trans n1
  have n3 := (f11 _ (by omega)).trans n3
  have n5 := (f11 _ (by omega)).trans n5
  have n7 := (f11 _ (by omega)).trans n7
  have n9 := (f11 _ (by omega)).trans n9
  have n10 := (f11 _ (by omega)).trans n10
  refine xgo 80 rfl ?_
  try simp only [xlo0, List.map_cons, List.map_nil, List.length_cons, List.length_nil, xrs, xr0, Nat.reduceAdd, Nat.reduceSub, List.cons_append, List.nil_append, List.set_cons_zero, List.set_cons_succ, Option.toList_none, Option.toList_some, nI_1]
  refine xpF rfl fX2_28F rfl n10 rfl rfl rfl (fun s12 n12 f12 e12 => ?_)
  have n1 := (f12 _ (by omega)).trans n1
  have n3 := (f12 _ (by omega)).trans n3
  have n5 := (f12 _ (by omega)).trans n5
  have n7 := (f12 _ (by omega)).trans n7
  have n9 := (f12 _ (by omega)).trans n9
  have n11 := (f12 _ (by omega)).trans n11
  refine xgo 80 rfl ?_
  try simp only [xlo0, List.map_cons, List.map_nil, List.length_cons, List.length_nil, xrs, xr0, Nat.reduceAdd, Nat.reduceSub, List.cons_append, List.nil_append, List.set_cons_zero, List.set_cons_succ, Option.toList_none, Option.toList_some, nI_1]
  refine xna (t := 11) (atype := .int) (N := 8) ((congrArg Prod.fst e12).trans g11) rfl rfl (by decide) (by decide) rfl a_11 (by decide) rfl (by decide) (fun s13 n13 f13 g13 k13 => ?_)
  have n1 := (f13 _ (by omega)).trans n1
  have n3 := (f13 _ (by omega)).trans n3
  have n5 := (f13 _ (by omega)).trans n5
  have n7 := (f13 _ (by omega)).trans n7
  have n9 := (f13 _ (by omega)).trans n9
  have n11 := (f13 _ (by omega)).trans n11
  have n12 := (f13 _ (by omega)).trans n12
  refine xgo 80 rfl ?_
  try simp only [xlo0, List.map_cons, List.map_nil, List.length_cons, List.length_nil, xrs, xr0, Nat.reduceAdd, Nat.reduceSub, List.cons_append, List.nil_append, List.set_cons_zero, List.set_cons_succ, Option.toList_none, Option.toList_some, nI_1]
  refine xpF rfl fX2_31F rfl n12 rfl rfl rfl (fun s14 n14 f14 e14 => ?_)
  have n1 := (f14 _ (by omega)).trans n1
  have n3 := (f14 _ (by omega)).trans n3
  have n5 := (f14 _ (by omega)).trans n5
  have n7 := (f14 _ (by omega)).trans n7
  have n9 := (f14 _ (by omega)).trans n9
  have n11 := (f14 _ (by omega)).trans n11
  have n13 := (f14 _ (by omega)).trans n13
  refine xgo 80 rfl ?_
  try simp only [xlo0, List.map_cons, List.map_nil, List.length_cons, List.length_nil, xrs, xr0, Nat.reduceAdd, Nat.reduceSub, List.cons_append, List.nil_append, List.set_cons_zero, List.set_cons_succ, Option.toList_none, Option.toList_some, nI_1]
  refine xnm (N := 8) (K := 120) ((congrArg Prod.fst e14).trans g13) rfl cX2_34 (by decide) (by decide) rfl rfl (by decide) (by decide) (fun s15 n15 m15 f15 g15 k15 => ?_)
  have n14 := (f15 _ (by omega)).trans n14
  have n1 := (f15 _ (by omega)).trans n1
  have n3 := (f15 _ (by omega)).trans n3
  have n5 := (f15 _ (by omega)).trans n5
  have n7 := (f15 _ (by omega)).trans n7
  have n9 := (f15 _ (by omega)).trans n9
  have n11 := (f15 _ (by omega)).trans n11
  have n13 := (f15 _ (by omega)).trans n13
  refine xgo 80 rfl ?_
  try simp only [xlo0, List.map_cons, List.map_nil, List.length_cons, List.length_nil, xrs, xr0, Nat.reduceAdd, Nat.reduceSub, List.cons_append, List.nil_append, List.set_cons_zero, List.set_cons_succ, Option.toList_none, Option.toList_some, nI_1]
  refine xpF rfl fX2_36F rfl n14 rfl rfl rfl (fun s16 n16 f16 e16 => ?_)
  have n1 := (f16 _ (by omega)).trans n1
  have n3 := (f16 _ (by omega)).trans n3
  have n5 := (f16 _ (by omega)).trans n5
  have n7 := (f16 _ (by omega)).trans n7
  have n9 := (f16 _ (by omega)).trans n9
  have n11 := (f16 _ (by omega)).trans n11
  have n13 := (f16 _ (by omega)).trans n13
  have n15 := (f16 _ (by omega)).trans n15
  have m15 := fun r (hr : r < 8) => (f16 _ (by omega)).trans (m15 r hr)
  have hfr : ∀ q, (q < c ∨ c + 17 ≤ q) → s16.1 q = σ.1 q := fun q hq => by
    rw [f16 q (by omega), f15 q (by omega), f14 q (by omega), f13 q (by omega), f12 q (by omega), f11 q (by omega), f10 q (by omega), f9 q (by omega), f8 q (by omega), f7 q (by omega), f6 q (by omega), f5 q (by omega), f4 q (by omega), f3 q (by omega), f2 q (by omega), f1 q (by omega)]
  have hz : ∀ n, List.replicate n (Value.int 0) = vi (List.replicate n 0) := fun n => (List.map_replicate).symm
  have e2' := congrArg Prod.snd e2
  have e4' := congrArg Prod.snd e4
  have e6' := congrArg Prod.snd e6
  have e8' := congrArg Prod.snd e8
  have e10' := congrArg Prod.snd e10
  have e12' := congrArg Prod.snd e12
  have e14' := congrArg Prod.snd e14
  have e16' := congrArg Prod.snd e16
  have e16'' := congrArg Prod.fst e16
  refine xgo 80 rfl ?_
  try simp only [xlo0, List.map_cons, List.map_nil, List.length_cons, List.length_nil, xrs, xr0, Nat.reduceAdd, Nat.reduceSub, List.cons_append, List.nil_append, List.set_cons_zero, List.set_cons_succ, Option.toList_none, Option.toList_some, nI_1]
  refine xi_ret_v rfl rfl ⟨rfl, ⟨List.replicate 4 0, List.replicate 4 0, List.replicate 4 0, List.replicate 4 0, List.replicate 8 0, List.replicate 8 0, List.replicate 8 0, fun _ => List.replicate 120 0, n16, by rw [← hz]; exact n1, by rw [← hz]; exact n3, by rw [← hz]; exact n5, by rw [← hz]; exact n7, by rw [← hz]; exact n9, by rw [← hz]; exact n11, by rw [← hz]; exact n13, n15, fun r hr => by rw [← hz]; exact m15 r hr, ⟨by decide, rfl, rfl, rfl, fun i e h => by simp [cnew] at h⟩, ⟨by decide, rfl, fun i e h => by simp [cnew] at h⟩, ⟨by decide, rfl, rfl, rfl, fun _ => rfl, fun i e h => by simp [cnew] at h⟩⟩, hfr, by omega, by omega⟩
