section X5
variable {G : xG} {d : Nat} {M : xM} {pc : Nat} {lo : xL} {st : List Value} {σ : xS} {Q : Option Value → xS → Prop}
/-- a step that makes one cell of n slots -/
theorem xw.of_new {pc' : Nat} {st' : List Value} {c0 : xC} {n : Nat}
    (hs : ∀ (p : Program) (e : Env) (R : Room) (s : State) (m : MethodId) (args : Array Value) (below : List Frame) (meth : Method) (c : Code) (H : Heap) (locs : List Loc) (cells slots : Nat) (Qw : State → Prop) (ls : Array Slot),
      p.tables.exec = Jvm.exec → c.code = M.2.1 → s.vm.findClass M.1.cls = some m.cls → (∀ w ∈ xGw, w.before args s = true) → xK G s → xtok M.2.1 M.2.2.2.2 → xrel G σ H → cells + 1 ≤ R.cells → slots + n ≤ R.slots →
      (∀ H1, H1.size = H.size + 1 → xat G H1 σ.2.1 c0 → (∀ q : Nat, q < H.size → H1[q]? = H[q]?) → W p G.1 e R s m args below meth c H1 locs (cells + 1) (slots + n) Qw (F0 m pc' ls st')) → W p G.1 e R s m args below meth c H locs cells slots Qw (F0 m pc ls st))
    (h : xw G d M pc' lo st' (xnew σ c0 n) Q) : xw G d M pc lo st σ Q := by
  obtain ⟨v, σ', hq, h1, h2, k⟩ := h
  have h1' : σ.2.1 + 1 ≤ σ'.2.1 := h1
  have h2' : σ.2.2 + n ≤ σ'.2.2 := h2
  refine ⟨v, σ', hq, by omega, by omega, fun n0 s0 p e R s m args below meth c H locs ls C a1 a2 hr hf hl => ?_⟩
  have hRc : R.cells = σ'.2.1 - n0 := C.2.2.2.2.2.2.2.2.2.2.2.1
  have hRs : R.slots = σ'.2.2 - s0 := C.2.2.2.2.2.2.2.2.2.2.2.2.1
  have hN0 : G.2.2.2 ≤ H.size := by rw [hr.1]; exact Nat.le_add_right _ _
  refine hs p e R s m args below meth c H locs _ _ _ ls C.1 C.2.1 C.2.2.2.2.2.1 C.2.2.2.2.2.2.2.1 C.2.2.2.2.2.2.2.2.1 C.2.2.2.2.2.2.2.2.2.2.2.2.2.1 hr (by omega) (by omega) (fun H1 z hc ho => ?_)
  have := k n0 s0 p e R s m args below meth c H1 locs ls C (show n0 ≤ σ.2.1 + 1 by omega) (show s0 ≤ σ.2.2 + n by omega) (hr.made z hc ho) ⟨fun q hq => (ho q (Nat.lt_of_lt_of_le hq hN0)).trans (hf.1 q hq), hf.2⟩ hl
  exact W.cs (show σ.2.1 - n0 + 1 = σ.2.1 + 1 - n0 by omega) (show σ.2.2 - s0 + n = σ.2.2 + n - s0 by omega) this
/-- what a class's link needs: the words -/
def xnl (own : String) (idx ci : Nat) : Prop := ∃ r : vw_C, vwCl[ci]? = some r ∧ Cond.classLink own idx r.1 ∈ xGw ∧ Cond.instantiable r.1 r.2.2 ∈ xGw ∧ Cond.initialized r.1 ∈ xGw
def xN (ci : Nat) : Nat := match vwCl[ci]? with
  | some r => r.2.2
  | none => 0
def xdef (ci : Nat) : List Value := (List.range (xN ci)).map (fun k => defaultValue (xTy ci k))
theorem xi_new {idx ci : Nat} (hd : M.2.2.2.2.lookup pc = some ((187, idx, 0), 3)) (hf : xnl M.1.cls idx ci) (kk : xw G d M (pc + 3) lo (rf G σ.2.1 :: st) (xnew σ (ci, xdef ci) (xN ci)) Q) : xw G d M pc lo st σ Q := by
  refine xw.of_new (fun p e R s m args below meth c H locs cells slots Qw ls hx hb ho hts hK ht hr hcl hsl k => ?_) kk
  obtain ⟨r, hc, w1, w2, w3⟩ := hf
  have hN : xN ci = r.2.2 := by simp [xN, hc]
  rw [hN] at hsl k
  have hKn := hK.1.1 ci _ hc
  refine W.newcK hx hb ho (hts _ w1) (hts _ w2) (hts _ w3) rfl (ht _ (xlook hd)).1 hcl hsl hKn.2.1 hr.1 fun H1 kC hkC e1 z1 o1 => ?_
  rw [← hr.1] at o1
  refine k H1 (by rw [z1, hr.1]) (Or.inl ⟨r, hc, by simp [xdef, hN], (u_born (xTy ci) hts (xus_ok hc) hKn hkC e1 (xty_ok hc)).to (fun j hj => ?_)⟩) o1
  simp [vp_V, xdef, List.getD_eq_getElem?_getD, hN, hj]
theorem xi_newa {t ta : Nat} {n : Int32} {N : Nat} {atype : ArrayType} (hd : M.2.2.2.2.lookup pc = some ((188, ta, 0), 2)) (hins : xins pc (188, ta, 0) = .newarray atype) (h1 : 10 ≤ t) (h2 : t ≤ 12) (hty : newarray.typeOf atype = xtag t) (hw : Cond.arrayClass (xtag t) ∈ xGw) (hn : ¬ n < 0) (hN : n.toNatClampNeg = N) (hb1 : N ≤ 1000000) (kk : xw G d M (pc + 2) lo (rf G σ.2.1 :: st) (xnew σ (t, List.replicate N (.int 0)) N) Q) : xw G d M pc lo (.int n :: st) σ Q := by
  refine xw.of_new (fun p e R s m args below meth c H locs cells slots Qw ls hx hb ho hts hK ht hr hcl hsl k => ?_) kk
  have hdec := (ht _ (xlook hd)).1
  dsimp only at hdec
  rw [hins] at hdec
  have hA := hts _ hw
  rw [← hty] at hA
  have hdv : defaultValue (newarray.typeOf atype) = .int 0 := by
    rw [hty]
    rcases (show t = 10 ∨ t = 11 ∨ t = 12 by omega) with rfl | rfl | rfl <;> rfl
  have hcb : N * componentBytes (newarray.typeOf atype) ≤ 536870912 := by
    rw [hty]
    rcases (show t = 10 ∨ t = 11 ∨ t = 12 by omega) with rfl | rfl | rfl <;> simp [xtag, componentBytes] <;> omega
  refine va_newaK hx hb hA rfl hdec rfl hn hN hcb hcl hsl hr.1 fun H1 cA e1 z1 o1 hAr hNm => ?_
  rw [← hr.1] at o1
  have hT := (hK.1.2 (t - 10) (G.2.1 t, xtag t) (by rcases (show t = 10 ∨ t = 11 ∨ t = 12 by omega) with rfl | rfl | rfl <;> rfl)).2
  have hcA : cA = G.2.1 t := by
    rw [hty] at hNm
    rcases (show t = 10 ∨ t = 11 ∨ t = 12 by omega) with rfl | rfl | rfl <;> exact Option.some.inj (hNm.symm.trans hT)
  subst hcA
  refine k H1 (by rw [z1, hr.1]) (Or.inr ⟨h1, by omega, ?_⟩) o1
  rw [e1, hdv, ← arrV_new]
  simp [xar]
theorem xi_anewa {t idx : Nat} {n : Int32} {N : Nat} {C : String} (hd : M.2.2.2.2.lookup pc = some ((189, idx, 0), 3)) (h1 : 13 ≤ t) (h2 : t ≤ 15) (hty : xtag t = .object C) (hC : C ∈ ["PackPost$Book", "PackPost$ByteRow", "PackPost$Entry"]) (hw : Cond.classLink M.1.cls idx C ∈ xGw) (hn : ¬ n < 0) (hN : n.toNatClampNeg = N) (hb1 : N ≤ 1000000) (kk : xw G d M (pc + 3) lo (rf G σ.2.1 :: st) (xnew σ (t, List.replicate N .null) N) Q) : xw G d M pc lo (.int n :: st) σ Q := by
  refine xw.of_new (fun p e R s m args below meth c H locs cells slots Qw ls hx hb ho hts hK ht hr hcl hsl k => ?_) kk
  subst hN
  refine W.anew hx hb ho (hts _ hw) (va_AO.use (hK.2.2.1 C hC)) rfl (ht _ (xlook hd)).1 rfl hn (by omega) hcl hsl fun cA kA comp f1 f2 f3 f4 => ?_
  have hT := (hK.1.2 (t - 10) (G.2.1 t, xtag t) (by rcases (show t = 13 ∨ t = 14 ∨ t = 15 by omega) with rfl | rfl | rfl <;> rfl)).2
  rw [hty] at hT
  obtain ⟨kA', comp', -, -, -, k4⟩ := hT
  have hcA : cA = G.2.1 t := Option.some.inj (f1.symm.trans k4)
  subst hcA
  rw [hr.1]
  refine k _ (by simp) (Or.inr ⟨by omega, by omega, ?_⟩) (fun q hq => by rw [Array.getElem?_push, if_neg (Nat.ne_of_lt hq)])
  rw [← hr.1]
  simp [xar]
theorem xi_obj {idx a : Nat} (hd : M.2.2.2.2.lookup pc = some ((183, idx, 0), 3)) (hw : ∀ w ∈ [Cond.methodLink M.1.cls idx objectInit, Cond.instanceMethod objectInit, Cond.code objectInit ⟨#[0xb1]⟩ 1 none], w ∈ xGw) (hst : (st.map fun v => v.category).sum ≤ 8) (kk : xw G (d + 1) M (pc + 3) lo st σ Q) : xw G (d + 1) M pc lo (rf G a :: st) σ Q := by
  obtain ⟨v, σ', hq, h1, h2, k⟩ := kk
  refine ⟨v, σ', hq, h1, h2, fun n0 s0 p e R s m args below meth c H locs ls C a1 a2 hr hf hl => ?_⟩
  have hR1 : d + 1 ≤ R.frames := C.2.2.2.2.2.2.2.2.2.1
  have hR2 : 50 * (d + 1) ≤ R.locals := C.2.2.2.2.2.2.2.2.2.2.1
  have hts := C.2.2.2.2.2.2.2.1
  have hroom : 2 * (F0 m pc ls (rf G a :: st)).monitorRoom + (st.map fun v => v.category).sum ≤ 8 := lv_room hst
  exact W.objInit C.1 C.2.1 C.2.2.2.2.2.1 (hts _ (hw _ (by simp))) (hts _ (hw _ (by simp))) (hts _ (hw _ (by simp))) rfl (by rw [C.2.2.1]; exact hl.2.1.1) rfl (C.2.2.2.2.2.2.2.2.2.2.2.2.2.1 _ (xlook hd)).1 (by omega) (by omega) (k n0 s0 p e R s m args below meth c H locs ls C a1 a2 hr hf hl)
end X5
