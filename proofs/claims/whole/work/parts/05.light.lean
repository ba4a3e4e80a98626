/-! ===== the light logic: a judgement over an abstract heap of numbered cells, made once of the kit's rows ===== -/
abbrev xC : Type := Nat × List Value
abbrev xS : Type := (Nat → Option xC) × Nat × Nat
abbrev xG : Type := Launch × (Nat → ClassId) × (Nat → Nat → Nat) × Nat
abbrev xE : Type := (Nat × Nat × Int32) × Nat
abbrev xM : Type := MethodName × ByteArray × Nat × Option FieldType × List (Nat × xE)
abbrev xL : Type := List (Option Value)
abbrev rf (G : xG) (k : Nat) : Value := .ref (G.2.2.2 + k)
def xisN : Cond → Bool
  | .fieldLinkNest .. => true
  | .methodLinkNest .. => true
  | _ => false
def xGw : List Cond := lw_tbl.filter goodWord
def xNw : List Cond := lw_tbl.filter xisN
theorem xGw_in {w : Cond} (h : w ∈ lw_tbl) (g : goodWord w = true) : w ∈ xGw := List.mem_filter.mpr ⟨h, g⟩
theorem xNw_in {w : Cond} (h : w ∈ lw_tbl) (g : xisN w = true) : w ∈ xNw := List.mem_filter.mpr ⟨h, g⟩
def xtag (t : Nat) : FieldType := match t with
  | 10 => .byte
  | 11 => .int
  | 12 => .boolean
  | 13 => .object "PackPost$Book"
  | 14 => .object "PackPost$ByteRow"
  | 15 => .object "PackPost$Entry"
  | _ => .array .int
def xtys (dC : Nat → ClassId) : List (ClassId × FieldType) := [(dC 10, xtag 10), (dC 11, xtag 11), (dC 12, xtag 12), (dC 13, xtag 13), (dC 14, xtag 14), (dC 15, xtag 15), (dC 16, xtag 16)]
def xOA (U : State) : Prop := (Cond.arrayOver (.array .int)).before #[] U = true
def xK (G : xG) (U : State) : Prop := va_K (G.2.1, G.2.2.1) vwCl (xtys G.2.1) U ∧ (∀ w ∈ xNw, va_Nw w U) ∧ (∀ C ∈ ["PackPost$Book", "PackPost$ByteRow", "PackPost$Entry"], va_AO C U) ∧ xOA U
theorem xOA.moved {u U : State} (hvm : u.vm.Alike U.vm) (h : xOA u) : xOA U := by
  obtain ⟨comp, c, k, h1, h2, h3, h4, h5⟩ := arrayOverA_spec h
  obtain ⟨k', hk', he⟩ := hvm.2.2 _ _ h3
  have hi : (U.vm.classes.findIdx? fun (x : Class) => match x.kind with | .array component _ => component == comp | _ => false) = some c := by
    have e1 := va_idx_bare U.vm comp
    have e2 := va_idx_bare u.vm comp
    have e3 : U.vm.bare = u.vm.bare := by first | exact hvm.bare_eq | exact hvm.bare_eq.symm
    rw [e3] at e1
    exact e1.symm.trans (e2.trans h2)
  have hkind : k'.kind = .array comp (.array .int) := by rw [he]; exact h4
  have f1 : U.vm.findClass (FieldType.array .int).toString = some comp := by rw [hvm.findClass]; exact h1
  have f2 : U.vm.findClass ("[" ++ (FieldType.array .int).toString) = some c := by rw [hvm.findClass]; exact h5
  unfold xOA Cond.before Cond.holds
  simp only [Cond.value]
  rw [f1, Option.bind_some]
  refine (congrArg (fun o : Option Nat => (o.bind (fun c => (U.vm.classes[c]?).map fun (k : Class) => match k.kind with | .array _ ty => decide (ty = FieldType.array .int) && decide (U.vm.findClass ("[" ++ (FieldType.array .int).toString) = some c) | _ => false) == some true)) hi).trans ?_
  simp [hk', hkind, f2]
theorem xK.moved {G : xG} {s U : State} (hW : s.WarmedH U.vm) (h : xK G s) : xK G U := by
  obtain ⟨h1, h2, h3, h4⟩ := h
  refine ⟨va_K.moved hW.alike h1, fun w hw => ?_, fun C hC => va_AO.moved hW.alike (h3 C hC), xOA.moved hW.alike h4⟩
  have hn := (List.mem_filter.mp hw).2
  have hz := h2 w hw
  cases w <;> first | exact absurd hn (by decide) | exact va_Nw.warmF hW hz | exact va_Nw.warmM hW hz | exact absurd hn (by simp [xisN])
theorem xK.same {G : xG} {s U : State} (hvm : s.vm = U.vm) (h : xK G s) : xK G U := by
  obtain ⟨h1, h2, h3, h4⟩ := h
  have hA : s.vm.Alike U.vm := by rw [hvm]; exact Vm.Alike.refl _
  refine ⟨va_K.moved hA h1, fun w hw => ?_, fun C hC => va_AO.moved hA (h3 C hC), xOA.moved hA h4⟩
  have hn := (List.mem_filter.mp hw).2
  refine va_Nw.same ?_ hvm (h2 w hw)
  cases w <;> first | rfl | exact absurd hn (by simp [xisN])
/-- an array's cell -/
def xar (G : xG) (t : Nat) (vs : List Value) : Cell := { cls := G.2.1 t, slots := vs.toArray, vm := .none }
def xat (G : xG) (H : Heap) (k : Nat) (c : xC) : Prop :=
  (∃ r : vw_C, vwCl[c.1]? = some r ∧ c.2.length = r.2.2 ∧ t_OB (G.2.2.2 + k) (G.2.1 c.1) r.2.2 (G.2.2.1 c.1) H (vp_V c.2)) ∨
  (10 ≤ c.1 ∧ c.1 ≤ 16 ∧ H[G.2.2.2 + k]? = some (xar G c.1 c.2))
def xrel (G : xG) (σ : xS) (H : Heap) : Prop := H.size = G.2.2.2 + σ.2.1 ∧ ∀ k c, σ.1 k = some c → xat G H k c
def xfr (G : xG) (s : State) (H : Heap) (locs : List Loc) : Prop := (∀ q : Nat, q < G.2.2.2 → H[q]? = s.heap[q]?) ∧ ∀ l ∈ locs, G.2.2.2 ≤ l.base
def xll (lo : xL) : List (Nat × Value) := (List.range lo.length).filterMap (fun i => (lo[i]?).join.map (fun v => (i, v)))
def xlo (ls : Array Slot) (n : Nat) (lo : xL) : Prop := lo.length = n ∧ lv_has ls n (xll lo) ∧ ∀ (i : Nat) (v : Value), lo[i]? = some (some v) → v.category = 1
theorem xll_mem {lo : xL} {q : Nat × Value} : q ∈ xll lo ↔ lo[q.1]? = some (some q.2) := by
  unfold xll
  rw [List.mem_filterMap]
  constructor
  · rintro ⟨i, -, hi⟩
    cases hl : lo[i]? with
    | none => rw [hl] at hi; simp at hi
    | some o =>
      cases o with
      | none => rw [hl] at hi; simp at hi
      | some v => rw [hl] at hi; simp at hi; subst hi; exact hl
  · intro h
    have hlt : q.1 < lo.length := (List.getElem?_eq_some_iff.mp h).1
    exact ⟨q.1, List.mem_range.mpr hlt, by rw [h]; rfl⟩
theorem xlo.get {ls : Array Slot} {n : Nat} {lo : xL} (h : xlo ls n lo) {i : Nat} {v : Value} (hi : lo[i]? = some (some v)) : ls[i]? = some (.val v) := h.2.1.2.2 (i, v) (xll_mem.mpr hi)
theorem xlo.set {ls : Array Slot} {n : Nat} {lo : xL} {i : Nat} {v : Value} (h : xlo ls n lo) (hi : i < n) (hc : v.category = 1) : ∃ ls', storeLocals ls i v = some ls' ∧ xlo ls' n (lo.set i (some v)) := by
  obtain ⟨ls', e, hs, hw, hq⟩ := lv_store1 h.2.1 hi hc
  refine ⟨ls', e, by rw [List.length_set]; exact h.1, ⟨hs, hw, fun q hm => ?_⟩, fun j u hj => ?_⟩
  · have hm' := xll_mem.mp hm
    rw [List.getElem?_set] at hm'
    by_cases hji : i = q.1
    · rw [if_pos hji] at hm'
      have hlt : i < lo.length := by rw [h.1]; exact hi
      rw [if_pos hlt] at hm'
      have e1 : v = q.2 := by simpa using hm'
      refine hq q (List.mem_cons.mpr (Or.inl ?_))
      rw [hji, e1]
    · rw [if_neg hji] at hm'
      refine hq q (List.mem_cons.mpr (Or.inr (List.mem_filter.mpr ⟨xll_mem.mpr hm', ?_⟩)))
      have h1 := h.2.2 _ _ hm'
      simp [h1, Ne.symm hji]
  · rw [List.getElem?_set] at hj
    by_cases hji : i = j
    · rw [if_pos hji] at hj
      split at hj
      · have e1 : v = u := by simpa using hj
        rw [← e1]; exact hc
      · simp at hj
    · rw [if_neg hji] at hj
      exact h.2.2 j u hj
theorem xlook {β : Type} {l : List (Nat × β)} {a : Nat} {b : β} (h : l.lookup a = some b) : (a, b) ∈ l := by
  induction l with
  | nil => simp at h
  | cons x l ih =>
    obtain ⟨x1, x2⟩ := x
    rw [List.lookup_cons] at h
    by_cases e : a = x1
    · subst e
      simp at h
      subst h
      exact List.mem_cons_self
    · rw [show (a == x1) = false by simpa using e] at h
      exact List.mem_cons_of_mem _ (ih h)
/-- an instruction of ours as the machine's -/
def xins (pc : Nat) (e : Nat × Nat × Int32) : Instr := match e with
  | (1, _, _) => .aconst_null
  | (2, _, v) => .iconst v.toInt
  | (16, _, v) => .bipush v.toInt
  | (17, _, v) => .sipush v.toInt
  | (18, a, _) => .ldc a
  | (21, a, _) => .iload a
  | (25, a, _) => .aload a
  | (26, a, _) => .iload_n (Fin.ofNat 4 a)
  | (42, a, _) => .aload_n (Fin.ofNat 4 a)
  | (46, _, _) => .iaload
  | (50, _, _) => .aaload
  | (51, _, _) => .baload
  | (54, a, _) => .istore a
  | (58, a, _) => .astore a
  | (59, a, _) => .istore_n (Fin.ofNat 4 a)
  | (75, a, _) => .astore_n (Fin.ofNat 4 a)
  | (79, _, _) => .iastore
  | (83, _, _) => .aastore
  | (84, _, _) => .bastore
  | (87, _, _) => .pop
  | (89, _, _) => .dup
  | (92, _, _) => .dup2
  | (96, _, _) => .iadd
  | (100, _, _) => .isub
  | (104, _, _) => .imul
  | (108, _, _) => .idiv
  | (112, _, _) => .irem
  | (120, _, _) => .ishl
  | (122, _, _) => .ishr
  | (124, _, _) => .iushr
  | (126, _, _) => .iand
  | (128, _, _) => .ior
  | (130, _, _) => .ixor
  | (132, a, v) => .iinc a v.toInt
  | (145, _, _) => .i2b
  | (153, a, _) => .ifCond .eq ((a : Int) - pc)
  | (154, a, _) => .ifCond .ne ((a : Int) - pc)
  | (155, a, _) => .ifCond .lt ((a : Int) - pc)
  | (156, a, _) => .ifCond .ge ((a : Int) - pc)
  | (157, a, _) => .ifCond .gt ((a : Int) - pc)
  | (158, a, _) => .ifCond .le ((a : Int) - pc)
  | (159, a, _) => .if_icmp .eq ((a : Int) - pc)
  | (160, a, _) => .if_icmp .ne ((a : Int) - pc)
  | (161, a, _) => .if_icmp .lt ((a : Int) - pc)
  | (162, a, _) => .if_icmp .ge ((a : Int) - pc)
  | (163, a, _) => .if_icmp .gt ((a : Int) - pc)
  | (164, a, _) => .if_icmp .le ((a : Int) - pc)
  | (167, a, _) => .goto ((a : Int) - pc)
  | (172, _, _) => .ireturn
  | (176, _, _) => .areturn
  | (177, _, _) => .return_
  | (180, a, _) => .getfield a
  | (181, a, _) => .putfield a
  | (182, a, _) => .invokevirtual a
  | (183, a, _) => .invokespecial a
  | (184, a, _) => .invokestatic a
  | (187, a, _) => .new a
  | (188, 4, _) => .newarray .boolean
  | (188, 8, _) => .newarray .byte
  | (188, _, _) => .newarray .int
  | (189, a, _) => .anewarray a
  | (190, _, _) => .arraylength
  | (197, a, _) => .multianewarray a 2
  | (198, a, _) => .ifnull ((a : Int) - pc)
  | (199, a, _) => .ifnonnull ((a : Int) - pc)
  | _ => .nop
def xval (e : Nat × Nat × Int32) : Bool := match e with
  | (16, _, v) => (Int8.ofInt v.toInt).toInt32 == v
  | (17, _, v) => (Int16.ofInt v.toInt).toInt32 == v
  | (26, a, _) => decide (a < 4)
  | (42, a, _) => decide (a < 4)
  | (59, a, _) => decide (a < 4)
  | (75, a, _) => decide (a < 4)
  | _ => true
def xtok (cc : ByteArray) (tb : List (Nat × xE)) : Prop := ∀ q ∈ tb, decode cc q.1 = .ok (xins q.1 q.2.1, q.2.2) ∧ xval q.2.1 = true
