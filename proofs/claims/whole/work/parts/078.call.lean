theorem xargs_mem : ∀ (As : List Value) (i j : Nat) (v : Value), (∀ v ∈ As, v.category = 1) → As[j]? = some v → (i + j, v) ∈ lv_args i As
  | [], i, j, v, _, h => by simp at h
  | x :: As, i, j, v, hc, h => by
    have hx : x.category = 1 := hc x List.mem_cons_self
    simp only [lv_args, hx]
    match j, h with
    | 0, h =>
      have e : x = v := by simpa using h
      rw [e]
      exact List.mem_cons_self
    | j + 1, h =>
      have h' : As[j]? = some v := by simpa using h
      have := xargs_mem As (i + 1) j v (fun v hv => hc v (List.mem_cons_of_mem _ hv)) h'
      refine List.mem_cons_of_mem _ ?_
      simpa [Nat.add_comm, Nat.add_left_comm, Nat.add_assoc] using this
theorem xsl_len : ∀ (As : List Value), (∀ v ∈ As, v.category = 1) → (lg_sl As).length = As.length
  | [], _ => rfl
  | x :: As, hc => by
    have hx : x.category = 1 := hc x List.mem_cons_self
    have := xsl_len As (fun v hv => hc v (List.mem_cons_of_mem _ hv))
    simp only [lg_sl, List.flatMap_cons, hx, List.length_append, List.length_cons] at this ⊢
    simp [this]
    omega
abbrev xlo0 (As : List Value) (n : Nat) : xL := As.map some ++ List.replicate (n - As.length) none
theorem xlo_entry {As : List Value} {n : Nat} (hc : ∀ v ∈ As, v.category = 1) (hn : As.length ≤ n) : xlo ((lg_sl As ++ List.replicate (n - (lg_sl As).length) Slot.unset).toArray) n (xlo0 As n) := by
  have key : ∀ (i : Nat) (v : Value), (xlo0 As n)[i]? = some (some v) → As[i]? = some v := fun i v h => by
    by_cases hi : i < As.length
    · rw [List.getElem?_append_left (by simpa using hi), List.getElem?_map] at h
      cases hA : As[i]? with
      | none => rw [hA] at h; simp at h
      | some u => rw [hA] at h; simpa using h
    · rw [List.getElem?_append_right (by simpa using hi), List.getElem?_replicate] at h
      split at h <;> simp at h
  obtain ⟨e1, e2, e3⟩ := lv_entry As (n := n) (by rw [xsl_len As hc]; exact hn)
  refine ⟨by simp; omega, ⟨e1, e2, fun q hq => ?_⟩, fun i v h => hc v (List.mem_of_getElem? (key i v h))⟩
  have := xargs_mem As 0 q.1 q.2 hc (key _ _ (xll_mem.mp hq))
  exact e3 q (by simpa using this)
theorem xm_of {G : xG} {d : Nat} {M : xM} {As : List Value} {σ : xS} {Q : Option Value → xS → Prop} (hp : plainName M.1.cls = true) (hlen : As.length ≤ M.2.2.1) (hcat : ∀ v ∈ As, v.category = 1) (ht : xtok M.2.1 M.2.2.2.2) (h : xw G d M 0 (xlo0 As M.2.2.1) [] σ Q) : xm G d M As σ Q := by
  obtain ⟨v, σ', hq, h1, h2, k⟩ := h
  refine ⟨v, σ', hq, h1, h2, ?_⟩
  refine Met.ofW (cc := M.2.1) (maxL := M.2.2.1) (ret := M.2.2.2.1) hp rfl ?_
  intro p e s m args below meth c s₁ B hml hv
  obtain ⟨rfl, hr, hK⟩ := hv
  have hts := atoms_spec (ws := .code M.1 M.2.1 M.2.2.1 M.2.2.2.1 :: xGw) B.pre
  rw [lg_entry_eq]
  have := k σ.2.1 σ.2.2 p e { frames := d, cells := σ'.2.1 - σ.2.1, slots := σ'.2.2 - σ.2.2, locals := 50 * d } s m As.toArray below meth c s.heap [] _ ⟨B.exec, B.bytes, hml, B.returns, B.notSynchronized, findClass_of_methodNamed B.named, (name_of_methodNamed B.named B.method).1, fun w hw => hts w (List.mem_cons_of_mem _ hw), hK, Nat.le_refl _, Nat.le_refl _, rfl, rfl, ht, by rw [hr.1]; exact Nat.le_add_right _ _⟩ (Nat.le_refl _) (Nat.le_refl _) hr ⟨fun q _ => rfl, fun l hl => absurd hl List.not_mem_nil⟩ (xlo_entry hcat hlen)
  rw [Nat.sub_self, Nat.sub_self] at this
  exact this
/-- what a call's link needs: the words of the method that is called (n its parameters), and the link -/
def xml (M' : xM) (n : Nat) : Prop := Cond.code M'.1 M'.2.1 M'.2.2.1 M'.2.2.2.1 ∈ xGw ∧ Cond.initialized M'.1.cls ∈ xGw ∧ (M'.1.cls ≠ "java/lang/invoke/MethodHandle" ∧ M'.1.cls ≠ "java/lang/invoke/VarHandle") ∧ (parseMethodDescriptor M'.1.desc).map (fun d => d.parameters.length) = some n ∧ M'.2.2.1 ≤ 31
def xlk (own : String) (idx : Nat) (M' : xM) : Prop := Cond.methodLink own idx M'.1 ∈ xGw ∨ ∃ host, Cond.methodLinkNest own idx M'.1 host ∈ xNw
theorem xgood {M' : xM} {n : Nat} (h : xml M' n) : GoodIn xGw (.code M'.1 M'.2.1 M'.2.2.1 M'.2.2.2.1 :: xGw) := fun w hw => by
  have hm : w ∈ xGw := by
    rcases List.mem_cons.mp hw with e | e
    · rw [e]; exact h.1
    · exact e
  exact ⟨hm, good_of_word (List.mem_filter.mp hm).2⟩
section X6
variable {G : xG} {d : Nat} {M M' : xM} {pc : Nat} {lo : xL} {st : List Value} {σ : xS} {Q Q' : Option Value → xS → Prop}
theorem xblind {As : List Value} : FrameBlind (va_Pc As (fun U => xrel G σ U.heap ∧ xK G U)) := fun a U g mk h => ⟨h.1, h.2.1, xK.same (s := U) rfl h.2.2⟩
theorem xcall_go {p : Program} {e : Env} {R : Room} {s : State} {m : MethodId} {args a : Array Value} {below : List Frame} {meth : Method} {c : Code} {H : Heap} {locs : List Loc} {cells slots mc ms : Nat} {Qw : State → Prop} {ls : Array Slot} {st0 rest : List Value} {v : Option Value} {σ' : xS}
    (hr : va_Run p G.1 e R s m args below meth c H locs cells slots mc ms (F0 m pc ls st0) rest (xQc G v σ' a) (fun q => G.2.2.2 ≤ q)) (hf : xfr G s H locs)
    (kk : ∀ H1 locs1, xrel G σ' H1 → xfr G s H1 locs1 → W p G.1 e R s m args below meth c H1 locs1 (cells + mc) (slots + ms) Qw (F0 m (pc + 3) ls (v.toList ++ rest))) : W p G.1 e R s m args below meth c H locs cells slots Qw (F0 m pc ls st0) := by
  intro T hT X
  obtain ⟨v', st₀, t, T', L, h0, X', hL, e1, e2, ⟨hv, hrel, hk⟩, stp⟩ := hr T hT X
  cases hv
  obtain ⟨t2, a1, b1⟩ := kk T'.heap (locs ++ L) (by rw [e1]; exact hrel) ⟨fun q hq => by rw [e1, hk q hq, h0]; exact hf.1 q hq, fun l hl => (List.mem_append.mp hl).elim (fun h => hf.2 l h) (fun h => hL l h)⟩ T' rfl X'
  exact ⟨t2, stp t2 a1, b1⟩
theorem xi_callV {idx b ci n : Nat} {fs As rest : List Value} (hd : M.2.2.2.2.lookup pc = some ((182, idx, 0), 3)) (hml : xml M' n) (hin : ∀ w ∈ [Cond.instanceMethod M'.1, Cond.selects M'.1.cls M'.1 M'.1], w ∈ xGw) (hlk : xlk M.1.cls idx M')
    (hm : xm G d M' (rf G b :: As) σ Q') (ha : σ.1 b = some (ci, fs)) (hc : ∃ r : vw_C, vwCl[ci]? = some r ∧ r.1 = M'.1.cls) (hn : As.length = n) (hst : st = As.reverse ++ rf G b :: rest) (hrest : (rest.map fun v => v.category).sum ≤ 8)
    (kk : ∀ v σ', Q' v σ' → xw G (d + 1) M (pc + 3) lo (v.toList ++ rest) σ' Q) : xw G (d + 1) M pc lo st σ Q := by
  obtain ⟨v, σ1, hq1, l1, l2, hM⟩ := hm
  obtain ⟨v2, σ2, hq2, l3, l4, k⟩ := kk v σ1 hq1
  refine ⟨v2, σ2, hq2, by omega, by omega, fun n0 s0 p e R s m args below meth c H locs ls C a1 a2 hr hf hl => ?_⟩
  obtain ⟨hx, hb, hmL, hre, hlks, ho, hnm, hts, hK, hR1, hR2, hRc, hRs, ht, hN0⟩ := id C
  obtain ⟨r, hcr, hcn⟩ := hc
  obtain ⟨r', hcr', hlen, cell, q1, q2, q3, -⟩ := (hr.2 b _ ha).obj (xlen hcr)
  cases hcr.symm.trans hcr'
  have hcell : ∃ cellB : Cell, H[G.2.2.2 + b]? = some cellB ∧ cellB.vm.isStatics = false ∧ s.vm.findClass M'.1.cls = some cellB.cls := ⟨cell, q1, by rw [q3]; rfl, by rw [q2, ← hcn]; exact (hK.1.1 ci _ hcr).2.1⟩
  have hpre : PreV s H M'.1.cls (G.2.2.2 + b) (va_Pc (rf G b :: As) (fun U => xrel G σ U.heap ∧ xK G U)) As := ⟨xblind, hcell, fun U hU hW => ⟨rfl, by rw [hU]; exact hr, hK.moved hW⟩⟩
  have hdd : M'.1.cls ≠ "java/lang/invoke/MethodHandle" ∧ M'.1.cls ≠ "java/lang/invoke/VarHandle" ∧ (parseMethodDescriptor M'.1.desc).map (fun d => d.parameters.length) = some n := ⟨hml.2.2.1.1, hml.2.2.1.2, hml.2.2.2.1⟩
  have hRR : d + 1 ≤ R.frames ∧ 8 + (M'.2.2.1 + 11) + 50 * d ≤ R.locals := ⟨hR1, by have := hml.2.2.2.2; omega⟩
  have hfit : (σ.2.1 - n0) + (σ1.2.1 - σ.2.1) ≤ R.cells ∧ (σ.2.2 - s0) + (σ1.2.2 - σ.2.2) ≤ R.slots := ⟨by omega, by omega⟩
  have hrun : va_Run p G.1 e R s m args below meth c H locs (σ.2.1 - n0) (σ.2.2 - s0) (σ1.2.1 - σ.2.1) (σ1.2.2 - σ.2.2) (F0 m pc ls st) rest (xQc G v σ1 (Value.ref (G.2.2.2 + b) :: As).toArray) (fun q => G.2.2.2 ≤ q) := by
    rcases hlk with hlk | ⟨host, hlk⟩
    · exact va_runV (As := As) (rest := rest) ⟨hx, hb, hmL, ho, hts⟩ hM ⟨callB_of n hts (xgood hml) rfl rfl rfl (hts _ hml.2.1) (hts _ hlk) hdd hRR, hts _ (hin _ (by simp)), hts _ (hin _ (by simp))⟩ hpre rfl hn hl.2.1.1 hst (lv_room hrest) (ht _ (xlook hd)).1 hfit
    · exact va_runVN (As := As) (rest := rest) ⟨hx, hb, hmL, ho, hts⟩ hM ⟨va_cnB n hts (xgood hml) rfl rfl rfl (hK.2.1 _ hlk) (hts _ hml.2.1) hdd hRR, hts _ (hin _ (by simp)), hts _ (hin _ (by simp))⟩ hpre rfl hn hl.2.1.1 hst (lv_room hrest) (ht _ (xlook hd)).1 hfit
  refine xcall_go hrun hf fun H1 locs1 hr1 hf1 => ?_
  exact W.cs (by omega) (by omega) (k n0 s0 p e R s m args below meth c H1 locs1 ls C (by omega) (by omega) hr1 hf1 hl)
theorem xi_callI {idx b n : Nat} {As rest : List Value} (hd : M.2.2.2.2.lookup pc = some ((183, idx, 0), 3)) (hret : M'.2.2.2.1 = none) (hini : M'.1.name = "<init>") (hml : xml M' n) (hin : Cond.instanceMethod M'.1 ∈ xGw) (hlk : xlk M.1.cls idx M')
    (hm : xm G d M' (rf G b :: As) σ Q') (hn : As.length = n) (hst : st = As.reverse ++ rf G b :: rest) (hrest : (rest.map fun v => v.category).sum ≤ 8)
    (kk : ∀ v σ', Q' v σ' → xw G (d + 1) M (pc + 3) lo (v.toList ++ rest) σ' Q) : xw G (d + 1) M pc lo st σ Q := by
  obtain ⟨v, σ1, hq1, l1, l2, hM⟩ := hm
  obtain ⟨v2, σ2, hq2, l3, l4, k⟩ := kk v σ1 hq1
  refine ⟨v2, σ2, hq2, by omega, by omega, fun n0 s0 p e R s m args below meth c H locs ls C a1 a2 hr hf hl => ?_⟩
  obtain ⟨hx, hb, hmL, hre, hlks, ho, hnm, hts, hK, hR1, hR2, hRc, hRs, ht, hN0⟩ := id C
  have hpre : PreS s H (va_Pc (rf G b :: As) (fun U => xrel G σ U.heap ∧ xK G U)) (rf G b :: As) := ⟨xblind, fun U hU hW => ⟨rfl, by rw [hU]; exact hr, hK.moved hW⟩⟩
  have hdd : M'.1.cls ≠ "java/lang/invoke/MethodHandle" ∧ M'.1.cls ≠ "java/lang/invoke/VarHandle" ∧ (parseMethodDescriptor M'.1.desc).map (fun d => d.parameters.length) = some n := ⟨hml.2.2.1.1, hml.2.2.1.2, hml.2.2.2.1⟩
  have hRR : d + 1 ≤ R.frames ∧ 8 + (M'.2.2.1 + 11) + 50 * d ≤ R.locals := ⟨hR1, by have := hml.2.2.2.2; omega⟩
  have hfit : (σ.2.1 - n0) + (σ1.2.1 - σ.2.1) ≤ R.cells ∧ (σ.2.2 - s0) + (σ1.2.2 - σ.2.2) ≤ R.slots := ⟨by omega, by omega⟩
  have hw : (Cond.code M'.1 M'.2.1 M'.2.2.1 M'.2.2.2.1 :: xGw) = (Cond.code M'.1 M'.2.1 M'.2.2.1 none :: xGw) := by rw [hret]
  have hrun : va_Run p G.1 e R s m args below meth c H locs (σ.2.1 - n0) (σ.2.2 - s0) (σ1.2.1 - σ.2.1) (σ1.2.2 - σ.2.2) (F0 m pc ls st) rest (xQc G v σ1 (Value.ref (G.2.2.2 + b) :: As).toArray) (fun q => G.2.2.2 ≤ q) := by
    rcases hlk with hlk | ⟨host, hlk⟩
    · exact va_runI (As := As) (rest := rest) ⟨hx, hb, hmL, ho, hts⟩ hM ⟨callB_of n hts (xgood hml) hw rfl rfl (hts _ hml.2.1) (hts _ hlk) hdd hRR, hini, hts _ hin⟩ hpre rfl hn hl.2.1.1 hst (lv_room hrest) (ht _ (xlook hd)).1 hfit
    · exact va_runIN (As := As) (rest := rest) ⟨hx, hb, hmL, ho, hts⟩ hM ⟨va_cnB n hts (xgood hml) hw rfl rfl (hK.2.1 _ hlk) (hts _ hml.2.1) hdd hRR, hini, hts _ hin⟩ hpre rfl hn hl.2.1.1 hst (lv_room hrest) (ht _ (xlook hd)).1 hfit
  refine xcall_go hrun hf fun H1 locs1 hr1 hf1 => ?_
  exact W.cs (by omega) (by omega) (k n0 s0 p e R s m args below meth c H1 locs1 ls C (by omega) (by omega) hr1 hf1 hl)
theorem xi_callS {idx n : Nat} {As rest : List Value} (hd : M.2.2.2.2.lookup pc = some ((184, idx, 0), 3)) (hml : xml M' n) (hin : Cond.static M'.1 ∈ xGw) (hlk : xlk M.1.cls idx M')
    (hm : xm G d M' As σ Q') (hn : As.length = n) (hst : st = As.reverse ++ rest) (hrest : (rest.map fun v => v.category).sum ≤ 8)
    (kk : ∀ v σ', Q' v σ' → xw G (d + 1) M (pc + 3) lo (v.toList ++ rest) σ' Q) : xw G (d + 1) M pc lo st σ Q := by
  obtain ⟨v, σ1, hq1, l1, l2, hM⟩ := hm
  obtain ⟨v2, σ2, hq2, l3, l4, k⟩ := kk v σ1 hq1
  refine ⟨v2, σ2, hq2, by omega, by omega, fun n0 s0 p e R s m args below meth c H locs ls C a1 a2 hr hf hl => ?_⟩
  obtain ⟨hx, hb, hmL, hre, hlks, ho, hnm, hts, hK, hR1, hR2, hRc, hRs, ht, hN0⟩ := id C
  have hpre : PreS s H (va_Pc As (fun U => xrel G σ U.heap ∧ xK G U)) As := ⟨xblind, fun U hU hW => ⟨rfl, by rw [hU]; exact hr, hK.moved hW⟩⟩
  have hdd : M'.1.cls ≠ "java/lang/invoke/MethodHandle" ∧ M'.1.cls ≠ "java/lang/invoke/VarHandle" ∧ (parseMethodDescriptor M'.1.desc).map (fun d => d.parameters.length) = some n := ⟨hml.2.2.1.1, hml.2.2.1.2, hml.2.2.2.1⟩
  have hRR : d + 1 ≤ R.frames ∧ 8 + (M'.2.2.1 + 11) + 50 * d ≤ R.locals := ⟨hR1, by have := hml.2.2.2.2; omega⟩
  have hfit : (σ.2.1 - n0) + (σ1.2.1 - σ.2.1) ≤ R.cells ∧ (σ.2.2 - s0) + (σ1.2.2 - σ.2.2) ≤ R.slots := ⟨by omega, by omega⟩
  have hrun : va_Run p G.1 e R s m args below meth c H locs (σ.2.1 - n0) (σ.2.2 - s0) (σ1.2.1 - σ.2.1) (σ1.2.2 - σ.2.2) (F0 m pc ls st) rest (xQc G v σ1 As.toArray) (fun q => G.2.2.2 ≤ q) := by
    rcases hlk with hlk | ⟨host, hlk⟩
    · exact va_runS (As := As) (rest := rest) ⟨hx, hb, hmL, ho, hts⟩ hM ⟨callB_of n hts (xgood hml) rfl rfl rfl (hts _ hml.2.1) (hts _ hlk) hdd hRR, hts _ hin⟩ hpre rfl hn hl.2.1.1 hst (lv_room hrest) (ht _ (xlook hd)).1 hfit
    · exact va_runSN (As := As) (rest := rest) ⟨hx, hb, hmL, ho, hts⟩ hM ⟨va_cnB n hts (xgood hml) rfl rfl rfl (hK.2.1 _ hlk) (hts _ hml.2.1) hdd hRR, hts _ hin, trivial⟩ hpre rfl hn hl.2.1.1 hst (lv_room hrest) (ht _ (xlook hd)).1 hfit
  refine xcall_go hrun hf fun H1 locs1 hr1 hf1 => ?_
  exact W.cs (by omega) (by omega) (k n0 s0 p e R s m args below meth c H1 locs1 ls C (by omega) (by omega) hr1 hf1 hl)
end X6
