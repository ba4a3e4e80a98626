/-! ===== the judgement ===== -/
def xctx (G : xG) (d : Nat) (M : xM) (n0 s0 n1 s1 : Nat) (p : Program) (R : Room) (s : State) (m : MethodId) (args : Array Value) (meth : Method) (c : Code) : Prop :=
  p.tables.exec = Jvm.exec ∧ c.code = M.2.1 ∧ c.maxLocals = M.2.2.1 ∧ meth.sig.returnType = M.2.2.2.1 ∧ meth.locks = false ∧ s.vm.findClass M.1.cls = some m.cls ∧ meth.name = M.1.name ∧ (∀ w ∈ xGw, w.before args s = true) ∧ xK G s ∧ d ≤ R.frames ∧ 50 * d ≤ R.locals ∧ R.cells = n1 - n0 ∧ R.slots = s1 - s0 ∧ xtok M.2.1 M.2.2.2.2 ∧ G.2.2.2 ≤ s.heap.size
def xQc (G : xG) (v : Option Value) (σ' : xS) : Array Value → State → Outcome → State → Prop := fun _ st o t => o = .returned v ∧ xrel G σ' t.heap ∧ ∀ q : Nat, q < G.2.2.2 → t.heap[q]? = st.heap[q]?
def xwo (G : xG) (d : Nat) (M : xM) (pc : Nat) (lo : xL) (st : List Value) (σ : xS) (v : Option Value) (σ' : xS) : Prop :=
  σ.2.1 ≤ σ'.2.1 ∧ σ.2.2 ≤ σ'.2.2 ∧ ∀ (n0 s0 : Nat) (p : Program) (e : Env) (R : Room) (s : State) (m : MethodId) (args : Array Value) (below : List Frame) (meth : Method) (c : Code) (H : Heap) (locs : List Loc) (ls : Array Slot),
    xctx G d M n0 s0 σ'.2.1 σ'.2.2 p R s m args meth c → n0 ≤ σ.2.1 → s0 ≤ σ.2.2 → xrel G σ H → xfr G s H locs → xlo ls M.2.2.1 lo →
    W p G.1 e R s m args below meth c H locs (σ.2.1 - n0) (σ.2.2 - s0) (MQ below (xQc G v σ') args s (σ'.2.1 - n0) (σ'.2.2 - s0) (fun q => G.2.2.2 ≤ q)) (F0 m pc ls st)
def xw (G : xG) (d : Nat) (M : xM) (pc : Nat) (lo : xL) (st : List Value) (σ : xS) (Q : Option Value → xS → Prop) : Prop := ∃ v σ', Q v σ' ∧ xwo G d M pc lo st σ v σ'
/-- a method's contract: from the state σ with the arguments As it returns, Q holds -/
def xm (G : xG) (d : Nat) (M : xM) (As : List Value) (σ : xS) (Q : Option Value → xS → Prop) : Prop :=
  ∃ v σ', Q v σ' ∧ σ.2.1 ≤ σ'.2.1 ∧ σ.2.2 ≤ σ'.2.2 ∧ Met G.1 M.1 (.code M.1 M.2.1 M.2.2.1 M.2.2.2.1 :: xGw) { frames := d, cells := σ'.2.1 - σ.2.1, slots := σ'.2.2 - σ.2.2, locals := 50 * d }
    (va_Pc As (fun U => xrel G σ U.heap ∧ xK G U)) (xQc G v σ') (σ'.2.1 - σ.2.1) (σ'.2.2 - σ.2.2) (fun q => G.2.2.2 ≤ q)
theorem xm.mono {G : xG} {d : Nat} {M : xM} {As : List Value} {σ : xS} {Q Q' : Option Value → xS → Prop} (h : xm G d M As σ Q) (hq : ∀ v σ', Q v σ' → Q' v σ') : xm G d M As σ Q' := by
  obtain ⟨v, σ', h1, h2⟩ := h
  exact ⟨v, σ', hq _ _ h1, h2⟩
def xstep (G : xG) (M : xM) (σ : xS) (pc : Nat) (lo : xL) (st : List Value) (pc' : Nat) (lo' : xL) (st' : List Value) : Prop :=
  ∀ (p : Program) (e : Env) (R : Room) (s : State) (m : MethodId) (args : Array Value) (below : List Frame) (meth : Method) (c : Code) (H : Heap) (locs : List Loc) (cells slots : Nat) (Qw : State → Prop) (ls : Array Slot),
    p.tables.exec = Jvm.exec → c.code = M.2.1 → s.vm.findClass M.1.cls = some m.cls → (∀ w ∈ xGw, w.before args s = true) → xK G s → xtok M.2.1 M.2.2.2.2 → xrel G σ H → xlo ls M.2.2.1 lo →
    (∀ ls', xlo ls' M.2.2.1 lo' → W p G.1 e R s m args below meth c H locs cells slots Qw (F0 m pc' ls' st')) → W p G.1 e R s m args below meth c H locs cells slots Qw (F0 m pc ls st)
theorem xlo.put {ls ls' : Array Slot} {n : Nat} {lo : xL} {i : Nat} {v : Value} (h : xlo ls n lo) (hi : i < n) (hc : v.category = 1) (h' : lv_has ls' n ((i, v) :: (xll lo).filter (fun q => !(q.1 == i) && !(q.1 + 1 == i && q.2.category == 2)))) : xlo ls' n (lo.set i (some v)) := by
  obtain ⟨hs, hw, hq⟩ := h'
  refine ⟨by rw [List.length_set]; exact h.1, ⟨hs, hw, fun q hm => ?_⟩, fun j u hj => ?_⟩
  · have hm' := xll_mem.mp hm
    rw [List.getElem?_set] at hm'
    by_cases hji : i = q.1
    · rw [if_pos hji] at hm'
      have hlt : i < lo.length := by rw [h.1]; exact hi
      rw [if_pos hlt] at hm'
      have e1 : v = q.2 := by simpa using hm'
      refine hq q (List.mem_cons.mpr (Or.inl ?_))
      rw [hji, e1]
    · rw [if_neg hji] at hm'
      refine hq q (List.mem_cons.mpr (Or.inr (List.mem_filter.mpr ⟨xll_mem.mpr hm', ?_⟩)))
      have h1 := h.2.2 _ _ hm'
      simp [h1, Ne.symm hji]
  · rw [List.getElem?_set] at hj
    by_cases hji : i = j
    · rw [if_pos hji] at hj
      split at hj
      · have e1 : v = u := by simpa using hj
        rw [← e1]; exact hc
      · simp at hj
    · rw [if_neg hji] at hj
      exact h.2.2 j u hj
/-- one simple instruction, computed -/
def x1 (e : xE) (pc : Nat) (lo : xL) (st : List Value) : Option (Nat × xL × List Value) := match e with
  | ((1, _, _), 1) => some (pc + 1, lo, .null :: st)
  | ((2, _, v), 1) => some (pc + 1, lo, .int v :: st)
  | ((16, _, v), 2) => some (pc + 2, lo, .int v :: st)
  | ((17, _, v), 3) => some (pc + 3, lo, .int v :: st)
  | ((21, a, _), 2) => match lo[a]? with
    | some (some (.int x)) => some (pc + 2, lo, .int x :: st)
    | _ => none
  | ((26, a, _), 1) => match lo[a]? with
    | some (some (.int x)) => some (pc + 1, lo, .int x :: st)
    | _ => none
  | ((25, a, _), 2) => match lo[a]? with
    | some (some (.ref x)) => some (pc + 2, lo, .ref x :: st)
    | some (some .null) => some (pc + 2, lo, .null :: st)
    | _ => none
  | ((42, a, _), 1) => match lo[a]? with
    | some (some (.ref x)) => some (pc + 1, lo, .ref x :: st)
    | some (some .null) => some (pc + 1, lo, .null :: st)
    | _ => none
  | ((54, a, _), 2) => match st, lo[a]? with
    | .int x :: r, some _ => some (pc + 2, lo.set a (some (.int x)), r)
    | _, _ => none
  | ((59, a, _), 1) => match st, lo[a]? with
    | .int x :: r, some _ => some (pc + 1, lo.set a (some (.int x)), r)
    | _, _ => none
  | ((58, a, _), 2) => match st, lo[a]? with
    | .ref x :: r, some _ => some (pc + 2, lo.set a (some (.ref x)), r)
    | .null :: r, some _ => some (pc + 2, lo.set a (some .null), r)
    | _, _ => none
  | ((75, a, _), 1) => match st, lo[a]? with
    | .ref x :: r, some _ => some (pc + 1, lo.set a (some (.ref x)), r)
    | .null :: r, some _ => some (pc + 1, lo.set a (some .null), r)
    | _, _ => none
  | ((87, _, _), 1) => match st with
    | .int _ :: r => some (pc + 1, lo, r)
    | _ => none
  | ((89, _, _), 1) => match st with
    | .int x :: r => some (pc + 1, lo, .int x :: .int x :: r)
    | .ref x :: r => some (pc + 1, lo, .ref x :: .ref x :: r)
    | _ => none
  | ((92, _, _), 1) => match st with
    | .int x :: .ref y :: r => some (pc + 1, lo, .int x :: .ref y :: .int x :: .ref y :: r)
    | _ => none
  | ((96, _, _), 1) => match st with
    | .int y :: .int x :: r => some (pc + 1, lo, .int (x + y) :: r)
    | _ => none
  | ((100, _, _), 1) => match st with
    | .int y :: .int x :: r => some (pc + 1, lo, .int (x - y) :: r)
    | _ => none
  | ((104, _, _), 1) => match st with
    | .int y :: .int x :: r => some (pc + 1, lo, .int (x * y) :: r)
    | _ => none
  | ((120, _, _), 1) => match st with
    | .int y :: .int x :: r => some (pc + 1, lo, .int (x <<< (y &&& 31)) :: r)
    | _ => none
  | ((122, _, _), 1) => match st with
    | .int y :: .int x :: r => some (pc + 1, lo, .int (x >>> (y &&& 31)) :: r)
    | _ => none
  | ((124, _, _), 1) => match st with
    | .int y :: .int x :: r => some (pc + 1, lo, .int (x.toUInt32 >>> (y.toUInt32 &&& Int32.toUInt32 31)).toInt32 :: r)
    | _ => none
  | ((126, _, _), 1) => match st with
    | .int y :: .int x :: r => some (pc + 1, lo, .int (x &&& y) :: r)
    | _ => none
  | ((128, _, _), 1) => match st with
    | .int y :: .int x :: r => some (pc + 1, lo, .int (x ||| y) :: r)
    | _ => none
  | ((130, _, _), 1) => match st with
    | .int y :: .int x :: r => some (pc + 1, lo, .int (x ^^^ y) :: r)
    | _ => none
  | ((132, a, v), 3) => match lo[a]? with
    | some (some (.int x)) => some (pc + 3, lo.set a (some (.int (x + v))), st)
    | _ => none
  | ((145, _, _), 1) => match st with
    | .int x :: r => some (pc + 1, lo, .int x.toInt8.toInt32 :: r)
    | _ => none
  | ((167, a, _), 3) => some (a, lo, st)
  | _ => none
section X1
variable {G : xG} {d : Nat} {M : xM} {pc : Nat} {lo : xL} {st : List Value} {σ : xS} {Q : Option Value → xS → Prop}
theorem xlt {lo : xL} {a : Nat} {o : Option Value} (h : lo[a]? = some o) : a < lo.length := (List.getElem?_eq_some_iff.mp h).1
theorem xfin4 {a : Nat} (h : a < 4) : ((Fin.ofNat 4 a : Fin 4) : Nat) = a := by simp [Fin.ofNat]; omega
set_option maxHeartbeats 4000000 in
theorem x1_step {e : xE} {pc' : Nat} {lo' : xL} {st' : List Value} (hd : M.2.2.2.2.lookup pc = some e) (h : x1 e pc lo st = some (pc', lo', st')) : xstep G M σ pc lo st pc' lo' st' := by
  intro p ev R s m args below meth c H locs cells slots Qw ls hx hb ho hts hK ht hr hl k
  obtain ⟨hdec, hval⟩ := ht _ (xlook hd)
  dsimp only at hdec hval
  have hn := hl.1
  unfold x1 at h
  split at h
  · cases h; exact lv_null hx hb hdec (k ls hl)
  · cases h; exact lv_iconst hx hb hdec (by simp) (k ls hl)
  · cases h; exact lv_bipush hx hb hdec (by simpa [xval] using hval) (k ls hl)
  · cases h; exact lv_sipush hx hb hdec (by simpa [xval] using hval) (k ls hl)
  · split at h
    next x hlo => cases h; exact lv_iload hx hb hdec (hl.get hlo) (k ls hl)
    next => cases h
  · split at h
    next x hlo => cases h; exact lv_iload_n hx hb hdec (xfin4 (by simpa [xval] using hval)) (hl.get hlo) (k ls hl)
    next => cases h
  · split at h
    next x hlo => cases h; exact lv_aload hx hb hdec (hl.get hlo) (k ls hl)
    next hlo => cases h; exact lv_aloadN hx hb hdec (hl.get hlo) (k ls hl)
    next => cases h
  · split at h
    next x hlo => cases h; exact lv_aload_n hx hb hdec (xfin4 (by simpa [xval] using hval)) (hl.get hlo) (k ls hl)
    next hlo => cases h; exact lv_aload_nN hx hb hdec (xfin4 (by simpa [xval] using hval)) (hl.get hlo) (k ls hl)
    next => cases h
  · split at h
    next x r o hlo => cases h; exact lv_istore hx hb hdec hl.2.1 (by rw [← hn]; exact xlt hlo) rfl (fun ls' h' => k ls' (hl.put (by rw [← hn]; exact xlt hlo) rfl h'))
    next => cases h
  · split at h
    next x r o hlo => cases h; exact lv_istore_n hx hb hdec (xfin4 (by simpa [xval] using hval)) hl.2.1 (by rw [← hn]; exact xlt hlo) rfl (fun ls' h' => k ls' (hl.put (by rw [← hn]; exact xlt hlo) rfl h'))
    next => cases h
  · split at h
    next x r o hlo => cases h; exact lv_astore hx hb hdec hl.2.1 (by rw [← hn]; exact xlt hlo) rfl (fun ls' h' => k ls' (hl.put (by rw [← hn]; exact xlt hlo) rfl h'))
    next r o hlo => cases h; exact lv_astoreN hx hb hdec hl.2.1 (by rw [← hn]; exact xlt hlo) rfl (fun ls' h' => k ls' (hl.put (by rw [← hn]; exact xlt hlo) rfl h'))
    next => cases h
  · split at h
    next x r o hlo => cases h; exact lv_astore_n hx hb hdec (xfin4 (by simpa [xval] using hval)) hl.2.1 (by rw [← hn]; exact xlt hlo) rfl (fun ls' h' => k ls' (hl.put (by rw [← hn]; exact xlt hlo) rfl h'))
    next r o hlo => cases h; exact lv_astore_nN hx hb hdec (xfin4 (by simpa [xval] using hval)) hl.2.1 (by rw [← hn]; exact xlt hlo) rfl (fun ls' h' => k ls' (hl.put (by rw [← hn]; exact xlt hlo) rfl h'))
    next => cases h
  · split at h
    next => cases h; exact lv_pop hx hb hdec rfl (k ls hl)
    next => cases h
  · split at h
    next => cases h; exact lv_dup hx hb hdec rfl (k ls hl)
    next => cases h; exact lv_dup hx hb hdec rfl (k ls hl)
    next => cases h
  · split at h
    next => cases h; exact lv_dup2_11 hx hb hdec rfl rfl (k ls hl)
    next => cases h
  · split at h
    next => cases h; exact lv_iadd hx hb hdec (k ls hl)
    next => cases h
  · split at h
    next => cases h; exact lv_isub hx hb hdec (k ls hl)
    next => cases h
  · split at h
    next => cases h; exact lv_imul hx hb hdec (k ls hl)
    next => cases h
  · split at h
    next => cases h; exact lv_ishl hx hb hdec (k ls hl)
    next => cases h
  · split at h
    next => cases h; exact lv_ishr hx hb hdec (k ls hl)
    next => cases h
  · split at h
    next => cases h; exact lv_iushr hx hb hdec rfl (k ls hl)
    next => cases h
  · split at h
    next => cases h; exact lv_iand hx hb hdec (k ls hl)
    next => cases h
  · split at h
    next => cases h; exact lv_ior hx hb hdec (k ls hl)
    next => cases h
  · split at h
    next => cases h; exact lv_ixor hx hb hdec (k ls hl)
    next => cases h
  · split at h
    next x hlo =>
      cases h
      obtain ⟨kk, hkk⟩ := List.getElem?_of_mem (xll_mem (q := (_, _)).mpr hlo)
      exact lv_iinc hx hb hdec hl.2.1 hkk (by simp) (by rw [← hn]; exact xlt hlo) rfl (fun ls' h' => k ls' (hl.put (by rw [← hn]; exact xlt hlo) rfl h'))
    next => cases h
  · split at h
    next => cases h; exact lv_i2b hx hb hdec rfl (k ls hl)
    next => cases h
  · cases h; exact lv_goto hx hb hdec (by omega) (k ls hl)
  · cases h
theorem xw.of_step {pc' : Nat} {lo' : xL} {st' : List Value} (hs : xstep G M σ pc lo st pc' lo' st') (h : xw G d M pc' lo' st' σ Q) : xw G d M pc lo st σ Q := by
  obtain ⟨v, σ', hq, h1, h2, k⟩ := h
  refine ⟨v, σ', hq, h1, h2, fun n0 s0 p e R s m args below meth c H locs ls C a1 a2 hr hf hl => ?_⟩
  exact hs p e R s m args below meth c H locs _ _ _ ls C.1 C.2.1 C.2.2.2.2.2.1 C.2.2.2.2.2.2.2.1 C.2.2.2.2.2.2.2.2.1 C.2.2.2.2.2.2.2.2.2.2.2.2.2.1 hr hl (fun ls' hl' => k n0 s0 p e R s m args below meth c H locs ls' C a1 a2 hr hf hl')
/-- as many simple instructions as come, at most n -/
def xrun (tb : List (Nat × xE)) : Nat → Nat → xL → List Value → Nat × xL × List Value
  | 0, pc, lo, st => (pc, lo, st)
  | n + 1, pc, lo, st => match tb.lookup pc with
    | none => (pc, lo, st)
    | some e => match x1 e pc lo st with
      | none => (pc, lo, st)
      | some (pc', lo', st') => xrun tb n pc' lo' st'
theorem xgo (n : Nat) {pc' : Nat} {lo' : xL} {st' : List Value} (h : xrun M.2.2.2.2 n pc lo st = (pc', lo', st')) (k : xw G d M pc' lo' st' σ Q) : xw G d M pc lo st σ Q := by
  induction n generalizing pc lo st with
  | zero => cases h; exact k
  | succ n ih =>
    unfold xrun at h
    split at h
    next => cases h; exact k
    next e he =>
      split at h
      next => cases h; exact k
      next q1 q2 q3 h1 => exact xw.of_step (x1_step he h1) (ih h)
end X1
