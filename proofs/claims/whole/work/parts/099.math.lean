theorem xmaxw (own : String) (idx : Nat) (h : Cond.methodLink own idx Lib.Math.max.name ∈ xGw) : ∀ w ∈ [Cond.methodLink own idx Lib.Math.max.name, Cond.static Lib.Math.max.name, Cond.initialized "java/lang/Math", Cond.code Lib.Math.max.name Lib.Math.max.code 2 (some .int)], w ∈ xGw := List.forall_mem_cons.mpr ⟨h, xwords _ [194, 83, 195] (by decide +kernel) (by decide +kernel)⟩
theorem xminw (own : String) (idx : Nat) (h : Cond.methodLink own idx Lib.Math.min.name ∈ xGw) : ∀ w ∈ [Cond.methodLink own idx Lib.Math.min.name, Cond.static Lib.Math.min.name, Cond.initialized "java/lang/Math", Cond.code Lib.Math.min.name Lib.Math.min.code 2 (some .int)], w ∈ xGw := List.forall_mem_cons.mpr ⟨h, xwords _ [468, 83, 469] (by decide +kernel) (by decide +kernel)⟩
theorem gX1_9 : Cond.methodLink RX1 9 Lib.Math.max.name ∈ xGw := xGw_in (List.mem_of_getElem? (i := 193) (by decide +kernel)) rfl
theorem gX6_130 : Cond.methodLink RX6 130 Lib.Math.min.name ∈ xGw := xGw_in (List.mem_of_getElem? (i := 467) (by decide +kernel)) rfl
theorem gX8_175 : Cond.methodLink RX8 175 Lib.Math.min.name ∈ xGw := xGw_in (List.mem_of_getElem? (i := 672) (by decide +kernel)) rfl
section X8
variable {G : xG} {d : Nat} {M : xM} {pc : Nat} {lo : xL} {st : List Value} {σ : xS} {Q : Option Value → xS → Prop}
theorem xi_max {idx : Nat} {x y : Int32} (hd : M.2.2.2.2.lookup pc = some ((184, idx, 0), 3)) (hw : Cond.methodLink M.1.cls idx Lib.Math.max.name ∈ xGw) (hst : (st.map fun v => v.category).sum ≤ 8) (kk : xw G (d + 1) M (pc + 3) lo (.int (if x < y then y else x) :: st) σ Q) : xw G (d + 1) M pc lo (.int y :: .int x :: st) σ Q := by
  obtain ⟨v, σ', hq, h1, h2, k⟩ := kk
  refine ⟨v, σ', hq, h1, h2, fun n0 s0 p e R s m args below meth c H locs ls C a1 a2 hr hf hl => ?_⟩
  have hR1 : d + 1 ≤ R.frames := C.2.2.2.2.2.2.2.2.2.1
  have hR2 : 50 * (d + 1) ≤ R.locals := C.2.2.2.2.2.2.2.2.2.2.1
  have hRc : R.cells = σ'.2.1 - n0 := C.2.2.2.2.2.2.2.2.2.2.2.1
  have hRs : R.slots = σ'.2.2 - s0 := C.2.2.2.2.2.2.2.2.2.2.2.2.1
  have hts := C.2.2.2.2.2.2.2.1
  have hw' := xmaxw _ _ hw
  exact va_mmax C.1 C.2.1 (by rw [C.2.2.1]; exact hl.2.1.1.symm) C.2.2.2.2.2.1 (hts _ (hw' _ (by simp))) (hts _ (hw' _ (by simp))) (hts _ (hw' _ (by simp))) (hts _ (hw' _ (by simp))) (by omega) (by omega) (by omega) (by omega) (C.2.2.2.2.2.2.2.2.2.2.2.2.2.1 _ (xlook hd)).1 (k n0 s0 p e R s m args below meth c H locs ls C a1 a2 hr hf hl)
theorem xi_min {idx : Nat} {x y : Int32} (hd : M.2.2.2.2.lookup pc = some ((184, idx, 0), 3)) (hw : Cond.methodLink M.1.cls idx Lib.Math.min.name ∈ xGw) (hst : (st.map fun v => v.category).sum ≤ 8) (kk : xw G (d + 1) M (pc + 3) lo (.int (if y < x then y else x) :: st) σ Q) : xw G (d + 1) M pc lo (.int y :: .int x :: st) σ Q := by
  obtain ⟨v, σ', hq, h1, h2, k⟩ := kk
  refine ⟨v, σ', hq, h1, h2, fun n0 s0 p e R s m args below meth c H locs ls C a1 a2 hr hf hl => ?_⟩
  have hR1 : d + 1 ≤ R.frames := C.2.2.2.2.2.2.2.2.2.1
  have hR2 : 50 * (d + 1) ≤ R.locals := C.2.2.2.2.2.2.2.2.2.2.1
  have hRc : R.cells = σ'.2.1 - n0 := C.2.2.2.2.2.2.2.2.2.2.2.1
  have hRs : R.slots = σ'.2.2 - s0 := C.2.2.2.2.2.2.2.2.2.2.2.2.1
  have hts := C.2.2.2.2.2.2.2.1
  have hw' := xminw _ _ hw
  exact va_mmin C.1 C.2.1 (by rw [C.2.2.1]; exact hl.2.1.1.symm) C.2.2.2.2.2.1 (hts _ (hw' _ (by simp))) (hts _ (hw' _ (by simp))) (hts _ (hw' _ (by simp))) (hts _ (hw' _ (by simp))) (by omega) (by omega) (by omega) (by omega) (C.2.2.2.2.2.2.2.2.2.2.2.2.2.1 _ (xlook hd)).1 (k n0 s0 p e R s m args below meth c H locs ls C a1 a2 hr hf hl)
end X8
