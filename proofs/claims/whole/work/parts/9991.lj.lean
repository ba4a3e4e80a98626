/-! ===== the law's own judgement ===== -/
theorem pw.model {G : xG} {σ σ' : xS} {own : Nat → Nat} {rc : Nat} {Z : pZ} (H : pw G σ own rc Z) (f : frz σ.1 σ'.1 87 37) (e : σ'.2 = σ.2) : pw G σ' own rc Z := by
  obtain ⟨a0, a1, a2, ⟨ds, a3⟩, a4, a5, ⟨bw, sz, mb, ml, a6⟩, a7, a8, ⟨st, a9⟩, a10⟩ := H
  have ho := a10.2
  exact ⟨(f 0 (by omega)).trans a0, a1.keepQ (fun q _ _ => f q (by omega)), a2.keep (fun _ _ => rfl) (fun q hq => f q (by have := ho q; omega)), ⟨ds, a3.keepQ (fun q _ _ => f q (by omega))⟩, a4.keepQ (fun q _ _ => f q (by omega)), a5.keep (fun _ _ => rfl) (fun q hq => f q (by have := ho q; omega)), ⟨bw, sz, mb, ml, a6.keepQ (fun q _ _ => f q (by omega))⟩, a7.keep (fun _ _ => rfl) (fun q hq => f q (by have := ho q; omega)), a8.keep (fun _ _ => rfl) (fun q hq => f q (by have := ho q; omega)), ⟨st, a9.keepQ (fun q _ _ => f q (by omega))⟩, by rw [e]; exact a10⟩
theorem mdl.keep {G : xG} {h h' : Nat → Option xC} {Y : yS} (H : mdl G h 87 Y) (f : ∀ q, 87 ≤ q → q < 124 → h' q = h q) : mdl G h' 87 Y := by
  refine ⟨(f 87 (by omega) (by omega)).trans H.1, fun k q hq => ?_⟩
  have h36 := (yarrOk hq).1
  rw [f _ (by omega) (by omega)]
  exact H.2 k q hq
abbrev lE : Type := Program × Env × State × MethodId × List Frame × Method × Code × Nat × Nat × (Nat → Int32)
def lC (G : xG) (E : lE) : Prop := E.1.tables.exec = Jvm.exec ∧ E.2.2.2.2.2.2.1.code = cL_law ∧ E.2.2.2.2.2.1.sig.returnType = ret ∧ E.2.2.2.2.2.2.1.maxLocals = 4 ∧ E.2.2.1.vm.findClass RL = some E.2.2.2.1.cls ∧ (∀ w ∈ xGw, w.before #[Value.ref E.2.2.2.2.2.2.2.1] E.2.2.1 = true) ∧ xK G E.2.2.1 ∧ va_X E.2.2.2.2.2.2.2.1 E.2.2.2.2.2.2.2.2.1 E.2.2.2.2.2.2.2.2.2 E.2.2.1 E.2.2.1.heap ∧ E.2.2.2.2.2.2.2.1 < E.2.2.1.heap.size ∧ E.2.2.2.2.2.1.locks = false ∧ G.2.2.2 = E.2.2.1.heap.size ∧ E.2.2.2.2.2.2.2.2.1 ≤ 3072
/-- from here the law comes to its end -/
def lj (G : xG) (E : lE) (pc : Nat) (lo : xL) (st : List Value) (σ : xS) : Prop := ∀ (H : Heap) (locs : List Loc) (ls : Array Slot), xrel G σ H → xfr G E.2.2.1 H locs → xlo ls 4 lo → W E.1 G.1 E.2.1 room_1 E.2.2.1 E.2.2.2.1 #[Value.ref E.2.2.2.2.2.2.2.1] E.2.2.2.2.1 E.2.2.2.2.2.1 E.2.2.2.2.2.2.1 H locs σ.2.1 σ.2.2 (lw_Z E.2.2.2.2.1 #[Value.ref E.2.2.2.2.2.2.2.1] E.2.2.1) (F0 E.2.2.2.1 pc ls st)
section LJ
variable {G : xG} {E : lE} {pc : Nat} {lo : xL} {st : List Value} {σ : xS}
theorem lj.step {pc' : Nat} {lo' : xL} {st' : List Value} (C : lC G E) (hs : xstep G mL_law σ pc lo st pc' lo' st') (h : lj G E pc' lo' st' σ) : lj G E pc lo st σ := fun H locs ls hr hf hl =>
  hs E.1 E.2.1 room_1 E.2.2.1 E.2.2.2.1 _ E.2.2.2.2.1 E.2.2.2.2.2.1 E.2.2.2.2.2.2.1 H locs _ _ _ ls C.1 C.2.1 C.2.2.2.2.1 C.2.2.2.2.2.1 C.2.2.2.2.2.2.1 tL_law_ok hr hl (fun ls' hl' => h H locs ls' hr hf hl')
theorem lj.one {e : xE} {pc' : Nat} {lo' : xL} {st' : List Value} (C : lC G E) (hd : tL_law.lookup pc = some e) (h : x1 e pc lo st = some (pc', lo', st')) (k : lj G E pc' lo' st' σ) : lj G E pc lo st σ := lj.step C (x1_step (M := mL_law) hd h) k
theorem lS {H : Heap} {locs : List Loc} (C : lC G E) (hr : xrel G σ H) (hf : xfr G E.2.2.1 H locs) : va_S (fun q : Nat => E.2.2.1.heap.size ≤ q) E.2.2.1.heap H locs := by
  have h0 := C.2.2.2.2.2.2.2.2.2.2.1
  refine ⟨by rw [hr.1, h0]; exact Nat.le_add_right _ _, fun q hq _ => hf.1 q (by rw [h0]; exact hq), fun l hl => ?_⟩
  have := hf.2 l hl
  rw [h0] at this
  exact this
theorem lj_sld {i : Nat} (C : lC G E) (hd : tL_law.lookup pc = some ((46, 0, 0), 1)) (hi : i < E.2.2.2.2.2.2.2.2.1) (k : lj G E (pc + 1) lo (.int (E.2.2.2.2.2.2.2.2.2 i) :: st) σ) : lj G E pc lo (.int (nI i) :: .ref E.2.2.2.2.2.2.2.1 :: st) σ := by
  intro H locs ls hr hf hl
  have hL := C.2.2.2.2.2.2.2.2.2.2.2
  have hk := k H locs ls hr hf hl
  have e : (nI i).toNatClampNeg = i := nI_clamp (by omega)
  rw [← e] at hk
  exact va_sld C.1 C.2.1 C.2.2.2.2.2.2.2.1 C.2.2.2.2.2.2.2.2.1 (Nat.not_le.mpr C.2.2.2.2.2.2.2.2.1) (lS C hr hf) (vp_in_nI hi (by omega)) (tL_law_ok _ (xlook hd)).1 hk
theorem lj_slen (C : lC G E) (hd : tL_law.lookup pc = some ((190, 0, 0), 1)) (k : lj G E (pc + 1) lo (.int (nI E.2.2.2.2.2.2.2.2.1) :: st) σ) : lj G E pc lo (.ref E.2.2.2.2.2.2.2.1 :: st) σ := fun H locs ls hr hf hl =>
  va_slen C.1 C.2.1 C.2.2.2.2.2.2.2.1 C.2.2.2.2.2.2.2.2.1 (Nat.not_le.mpr C.2.2.2.2.2.2.2.2.1) (lS C hr hf) (tL_law_ok _ (xlook hd)).1 (k H locs ls hr hf hl)
theorem lj_icmpgt {x y : Int32} {a : Nat} (C : lC G E) (hd : tL_law.lookup pc = some ((163, a, 0), 3)) (kt : y < x → lj G E a lo st σ) (kf : ¬ y < x → lj G E (pc + 3) lo st σ) : lj G E pc lo (.int y :: .int x :: st) σ := by
  by_cases hP : y < x
  · exact lj.step C (fun p e R s m args below meth c H locs cells slots Qw ls hx hb ho hts hK ht hr hl k => lv_icmp_gt (tgt := a) hx hb (ht _ (xlook hd)).1 (by omega) (fun _ => k ls hl) (fun h => absurd hP h)) (kt hP)
  · exact lj.step C (fun p e R s m args below meth c H locs cells slots Qw ls hx hb ho hts hK ht hr hl k => lv_icmp_gt (tgt := a) hx hb (ht _ (xlook hd)).1 (by omega) (fun h => absurd h hP) (fun _ => k ls hl)) (kf hP)
theorem lj_icmpeq {x : Int32} {a : Nat} (C : lC G E) (hd : tL_law.lookup pc = some ((159, a, 0), 3)) (kt : lj G E a lo st σ) : lj G E pc lo (.int x :: .int x :: st) σ :=
  lj.step C (fun p e R s m args below meth c H locs cells slots Qw ls hx hb ho hts hK ht hr hl k => lv_icmp_eq (tgt := a) hx hb (ht _ (xlook hd)).1 (by omega) (fun _ => k ls hl) (fun h => absurd rfl h)) kt
theorem lj_ifeq {x : Int32} {a : Nat} (C : lC G E) (hd : tL_law.lookup pc = some ((153, a, 0), 3)) (kt : x = 0 → lj G E a lo st σ) (kf : ¬ x = 0 → lj G E (pc + 3) lo st σ) : lj G E pc lo (.int x :: st) σ := by
  by_cases hP : x = 0
  · exact lj.step C (fun p e R s m args below meth c H locs cells slots Qw ls hx hb ho hts hK ht hr hl k => lv_if_eq (tgt := a) hx hb (ht _ (xlook hd)).1 (by omega) (fun _ => k ls hl) (fun h => absurd hP h)) (kt hP)
  · exact lj.step C (fun p e R s m args below meth c H locs cells slots Qw ls hx hb ho hts hK ht hr hl k => lv_if_eq (tgt := a) hx hb (ht _ (xlook hd)).1 (by omega) (fun h => absurd h hP) (fun _ => k ls hl)) (kf hP)
theorem lj_end (C : lC G E) (hd : tL_law.lookup pc = some ((172, 0, 0), 1)) (h1 : σ.2.1 ≤ 600000) (h2 : σ.2.2 ≤ 7302249) : lj G E pc lo [.int 1] σ := by
  intro H locs ls hr hf hl
  refine va_forget (fun q hq => (lS C hr hf).2.2 q hq) ?_
  refine W.widen (k := 600000) (n := 7302249) h1 h2 ?_
  exact lw_ret C.1 C.2.1 C.2.2.1 C.2.2.2.2.2.2.2.2.2.1 (tL_law_ok _ (xlook hd)).1
theorem lj_callV {d idx a0 ci n : Nat} {fs As rest : List Value} {M' : xM} {Q' : Option Value → xS → Prop} (C : lC G E) (hd : tL_law.lookup pc = some ((182, idx, 0), 3)) (hml : xml M' n) (hin : ∀ w ∈ [Cond.instanceMethod M'.1, Cond.selects M'.1.cls M'.1 M'.1], w ∈ xGw) (hlk : xlk RL idx M')
    (hm : xm G d M' (rf G a0 :: As) σ Q') (ha : σ.1 a0 = some (ci, fs)) (hc : ∃ r : vw_C, vwCl[ci]? = some r ∧ r.1 = M'.1.cls) (hn : As.length = n) (hst : st = As.reverse ++ rf G a0 :: rest) (hrest : (rest.map fun v => v.category).sum ≤ 8) (hd2 : d ≤ 1000)
    (hroom : ∀ v σ', Q' v σ' → σ'.2.1 ≤ 600000 ∧ σ'.2.2 ≤ 7302249)
    (kk : ∀ v σ', Q' v σ' → lj G E (pc + 3) lo (v.toList ++ rest) σ') : lj G E pc lo st σ := by
  obtain ⟨v, σ1, hq1, l1, l2, hM⟩ := hm
  obtain ⟨r1, r2⟩ := hroom v σ1 hq1
  intro H locs ls hr hf hl
  obtain ⟨r, hcr, hcn⟩ := hc
  obtain ⟨hx, hb, hre, hmL, ho, hts, hK, -⟩ := id C
  have ht := tL_law_ok
  obtain ⟨r', hcr', hlen, cell, q1, q2, q3, -⟩ := (hr.2 a0 _ ha).obj (xlen hcr)
  cases hcr.symm.trans hcr'
  have hcell : ∃ cellB : Cell, H[G.2.2.2 + a0]? = some cellB ∧ cellB.vm.isStatics = false ∧ E.2.2.1.vm.findClass M'.1.cls = some cellB.cls := ⟨cell, q1, by rw [q3]; rfl, by rw [q2, ← hcn]; exact (hK.1.1 ci _ hcr).2.1⟩
  have hpre : PreV E.2.2.1 H M'.1.cls (G.2.2.2 + a0) (va_Pc (rf G a0 :: As) (fun U => xrel G σ U.heap ∧ xK G U)) As := ⟨xblind, hcell, fun U hU hW => ⟨rfl, by rw [hU]; exact hr, hK.moved hW⟩⟩
  have hdd : M'.1.cls ≠ "java/lang/invoke/MethodHandle" ∧ M'.1.cls ≠ "java/lang/invoke/VarHandle" ∧ (parseMethodDescriptor M'.1.desc).map (fun d => d.parameters.length) = some n := ⟨hml.2.2.1.1, hml.2.2.1.2, hml.2.2.2.1⟩
  have hRR : d + 1 ≤ room_1.frames ∧ 8 + (M'.2.2.1 + 11) + 50 * d ≤ room_1.locals := ⟨by show d + 1 ≤ 2048; omega, by have := hml.2.2.2.2; show _ ≤ 84000; omega⟩
  have hfit : σ.2.1 + (σ1.2.1 - σ.2.1) ≤ room_1.cells ∧ σ.2.2 + (σ1.2.2 - σ.2.2) ≤ room_1.slots := ⟨by show _ ≤ 600000; omega, by show _ ≤ 7302249; omega⟩
  have hrun : va_Run E.1 G.1 E.2.1 room_1 E.2.2.1 E.2.2.2.1 #[Value.ref E.2.2.2.2.2.2.2.1] E.2.2.2.2.1 E.2.2.2.2.2.1 E.2.2.2.2.2.2.1 H locs σ.2.1 σ.2.2 (σ1.2.1 - σ.2.1) (σ1.2.2 - σ.2.2) (F0 E.2.2.2.1 pc ls st) rest (xQc G v σ1 (Value.ref (G.2.2.2 + a0) :: As).toArray) (fun q => G.2.2.2 ≤ q) := by
    rcases hlk with hlk | ⟨host, hlk⟩
    · exact va_runV (As := As) (rest := rest) ⟨hx, hb, hmL, ho, hts⟩ hM ⟨callB_of n hts (xgood hml) rfl rfl rfl (hts _ hml.2.1) (hts _ hlk) hdd hRR, hts _ (hin _ (by simp)), hts _ (hin _ (by simp))⟩ hpre rfl hn hl.2.1.1 hst (lv_room hrest) (ht _ (xlook hd)).1 hfit
    · exact va_runVN (As := As) (rest := rest) ⟨hx, hb, hmL, ho, hts⟩ hM ⟨va_cnB n hts (xgood hml) rfl rfl rfl (hK.2.1 _ hlk) (hts _ hml.2.1) hdd hRR, hts _ (hin _ (by simp)), hts _ (hin _ (by simp))⟩ hpre rfl hn hl.2.1.1 hst (lv_room hrest) (ht _ (xlook hd)).1 hfit
  refine xcall_go hrun hf fun H1 locs1 hr1 hf1 => ?_
  exact W.cs (by omega) (by omega) (kk v σ1 hq1 H1 locs1 ls hr1 hf1 hl)
theorem lj_callI {d idx a0 n : Nat} {As rest : List Value} {M' : xM} {Q' : Option Value → xS → Prop} (C : lC G E) (hd : tL_law.lookup pc = some ((183, idx, 0), 3)) (hret : M'.2.2.2.1 = none) (hini : M'.1.name = "<init>") (hml : xml M' n) (hin : Cond.instanceMethod M'.1 ∈ xGw) (hlk : xlk RL idx M')
    (hm : xm G d M' (rf G a0 :: As) σ Q') (hn : As.length = n) (hst : st = As.reverse ++ rf G a0 :: rest) (hrest : (rest.map fun v => v.category).sum ≤ 8) (hd2 : d ≤ 1000)
    (hroom : ∀ v σ', Q' v σ' → σ'.2.1 ≤ 600000 ∧ σ'.2.2 ≤ 7302249)
    (kk : ∀ v σ', Q' v σ' → lj G E (pc + 3) lo (v.toList ++ rest) σ') : lj G E pc lo st σ := by
  obtain ⟨v, σ1, hq1, l1, l2, hM⟩ := hm
  obtain ⟨r1, r2⟩ := hroom v σ1 hq1
  intro H locs ls hr hf hl
  obtain ⟨hx, hb, hre, hmL, ho, hts, hK, -⟩ := id C
  have ht := tL_law_ok
  have hpre : PreS E.2.2.1 H (va_Pc (rf G a0 :: As) (fun U => xrel G σ U.heap ∧ xK G U)) (rf G a0 :: As) := ⟨xblind, fun U hU hW => ⟨rfl, by rw [hU]; exact hr, hK.moved hW⟩⟩
  have hdd : M'.1.cls ≠ "java/lang/invoke/MethodHandle" ∧ M'.1.cls ≠ "java/lang/invoke/VarHandle" ∧ (parseMethodDescriptor M'.1.desc).map (fun d => d.parameters.length) = some n := ⟨hml.2.2.1.1, hml.2.2.1.2, hml.2.2.2.1⟩
  have hRR : d + 1 ≤ room_1.frames ∧ 8 + (M'.2.2.1 + 11) + 50 * d ≤ room_1.locals := ⟨by show d + 1 ≤ 2048; omega, by have := hml.2.2.2.2; show _ ≤ 84000; omega⟩
  have hfit : σ.2.1 + (σ1.2.1 - σ.2.1) ≤ room_1.cells ∧ σ.2.2 + (σ1.2.2 - σ.2.2) ≤ room_1.slots := ⟨by show _ ≤ 600000; omega, by show _ ≤ 7302249; omega⟩
  have hw : (Cond.code M'.1 M'.2.1 M'.2.2.1 M'.2.2.2.1 :: xGw) = (Cond.code M'.1 M'.2.1 M'.2.2.1 none :: xGw) := by rw [hret]
  have hrun : va_Run E.1 G.1 E.2.1 room_1 E.2.2.1 E.2.2.2.1 #[Value.ref E.2.2.2.2.2.2.2.1] E.2.2.2.2.1 E.2.2.2.2.2.1 E.2.2.2.2.2.2.1 H locs σ.2.1 σ.2.2 (σ1.2.1 - σ.2.1) (σ1.2.2 - σ.2.2) (F0 E.2.2.2.1 pc ls st) rest (xQc G v σ1 (Value.ref (G.2.2.2 + a0) :: As).toArray) (fun q => G.2.2.2 ≤ q) := by
    rcases hlk with hlk | ⟨host, hlk⟩
    · exact va_runI (As := As) (rest := rest) ⟨hx, hb, hmL, ho, hts⟩ hM ⟨callB_of n hts (xgood hml) hw rfl rfl (hts _ hml.2.1) (hts _ hlk) hdd hRR, hini, hts _ hin⟩ hpre rfl hn hl.2.1.1 hst (lv_room hrest) (ht _ (xlook hd)).1 hfit
    · exact va_runIN (As := As) (rest := rest) ⟨hx, hb, hmL, ho, hts⟩ hM ⟨va_cnB n hts (xgood hml) hw rfl rfl (hK.2.1 _ hlk) (hts _ hml.2.1) hdd hRR, hini, hts _ hin⟩ hpre rfl hn hl.2.1.1 hst (lv_room hrest) (ht _ (xlook hd)).1 hfit
  refine xcall_go hrun hf fun H1 locs1 hr1 hf1 => ?_
  exact W.cs (by omega) (by omega) (kk v σ1 hq1 H1 locs1 ls hr1 hf1 hl)
theorem lj_new {idx ci : Nat} (C : lC G E) (hd : tL_law.lookup pc = some ((187, idx, 0), 3)) (hf : xnl RL idx ci) (h1 : σ.2.1 + 1 ≤ 600000) (h2 : σ.2.2 + xN ci ≤ 7302249) (kk : lj G E (pc + 3) lo (rf G σ.2.1 :: st) (xnew σ (ci, xdef ci) (xN ci))) : lj G E pc lo st σ := by
  intro H locs ls hr hfr hl
  obtain ⟨hx, hb, hre, hmL, ho, hts, hK, -⟩ := id C
  obtain ⟨r, hc, w1, w2, w3⟩ := hf
  have hN : xN ci = r.2.2 := by simp [xN, hc]
  have hKn := hK.1.1 ci _ hc
  rw [hN] at h2
  refine W.newcK hx hb ho (hts _ w1) (hts _ w2) (hts _ w3) rfl (tL_law_ok _ (xlook hd)).1 h1 h2 hKn.2.1 hr.1 fun H1 kC hkC e1 z1 o1 => ?_
  rw [← hr.1] at o1
  have hN0 : G.2.2.2 ≤ H.size := by rw [hr.1]; exact Nat.le_add_right _ _
  have hat : xat G H1 σ.2.1 (ci, xdef ci) := Or.inl ⟨r, hc, by simp [xdef, hN], (u_born (xTy ci) hts (xus_ok hc) hKn hkC e1 (xty_ok hc)).to (fun j hj => by simp [vp_V, xdef, List.getD_eq_getElem?_getD, hN, hj])⟩
  have := kk H1 locs ls (hr.made (by rw [z1, hr.1]) hat o1) ⟨fun q hq => (o1 q (Nat.lt_of_lt_of_le hq hN0)).trans (hfr.1 q hq), hfr.2⟩ hl
  rw [← hN]
  exact this
theorem lj_switch {x : Int32} {k tgt : Nat} {off : Int} (C : lC G E) (hx : x.toInt = k) (hk : k < 32) (ho : (#[143, 186, 245, 268, 301, 364, 397, 420, 443, 476, 519, 552, 575, 608, 641, 684, 707, 740, 753, 786, 809, 842, 855, 888, 911, 934, 967, 1000, 1043, 1076, 1119, 1152] : Array Int)[k]? = some off) (ht : (33 : Int) + off = (tgt : Int)) (kk : lj G E tgt lo st σ) : lj G E 33 lo (.int x :: st) σ := by
  intro H locs ls hr hf hl
  exact lv_tableIn (tgt := tgt) (off := off) C.1 C.2.1 dL_law_33 (by omega) (by omega) (by rw [hx, Int.sub_zero, Int.toNat_natCast]; exact ho) ht (kk H locs ls hr hf hl)
end LJ
