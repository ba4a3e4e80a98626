/-! ===== heap rules of the light logic ===== -/
/-- one cell of the state put anew -/
def xu (σ : xS) (a : Nat) (c : xC) : xS := (fun q => if q = a then some c else σ.1 q, σ.2.1, σ.2.2)
/-- one cell made -/
def xnew (σ : xS) (c : xC) (n : Nat) : xS := (fun q => if q = σ.2.1 then some c else σ.1 q, σ.2.1 + 1, σ.2.2 + n)
theorem xar_arrV (G : xG) (t : Nat) (vs : List Value) : xar G t vs = arrV (G.2.1 t) vs.length (vp_V vs) := by
  unfold xar arrV
  congr 1
  apply Array.ext
  · simp
  · intro i h1 h2
    have h3 : i < vs.length := by simpa using h1
    simp [vp_V, List.getD_eq_getElem?_getD, h3]
theorem xar_set (G : xG) (t : Nat) (vs : List Value) (i : Nat) (v : Value) : (xar G t vs).setSlot i v = xar G t (vs.set i v) := by
  unfold xar Cell.setSlot
  congr 1
  exact List.setIfInBounds_toArray ..
theorem xar_read {G : xG} {t : Nat} {vs : List Value} {i : Nat} {v : Value} (h : vs[i]? = some v) : (xar G t vs).slots[i]? = some v := by
  show vs.toArray[i]? = some v
  rw [List.getElem?_toArray]
  exact h
theorem xar_size (G : xG) (t : Nat) (vs : List Value) : (xar G t vs).slots.size = vs.length := by simp [xar]
theorem xat.arr {G : xG} {H : Heap} {k t : Nat} {vs : List Value} (h : xat G H k (t, vs)) (ht : 10 ≤ t) : t ≤ 16 ∧ H[G.2.2.2 + k]? = some (xar G t vs) := by
  rcases h with ⟨r, h1, -⟩ | ⟨-, h2, h3⟩
  · have h9 : t < 10 := xlen h1
    omega
  · exact ⟨h2, h3⟩
theorem xat.obj {G : xG} {H : Heap} {k t : Nat} {vs : List Value} (h : xat G H k (t, vs)) (ht : t < 10) : ∃ r : vw_C, vwCl[t]? = some r ∧ vs.length = r.2.2 ∧ t_OB (G.2.2.2 + k) (G.2.1 t) r.2.2 (G.2.2.1 t) H (vp_V vs) := by
  rcases h with h | ⟨h1, -⟩
  · exact h
  · have h9 : 10 ≤ t := h1
    omega
theorem xat.kept {G : xG} {H H1 : Heap} {k : Nat} {c : xC} (h : xat G H k c) (e : H1[G.2.2.2 + k]? = H[G.2.2.2 + k]?) : xat G H1 k c := by
  rcases h with ⟨r, h1, h2, h3⟩ | ⟨h1, h2, h3⟩
  · exact Or.inl ⟨r, h1, h2, h3.kept e⟩
  · exact Or.inr ⟨h1, h2, by rw [e]; exact h3⟩
theorem xat.lt {G : xG} {H : Heap} {k : Nat} {c : xC} (h : xat G H k c) : G.2.2.2 + k < H.size := by
  rcases h with ⟨r, -, -, cell, h1, -⟩ | ⟨-, -, h1⟩
  · exact (Array.getElem?_eq_some_iff.mp h1).1
  · exact (Array.getElem?_eq_some_iff.mp h1).1
theorem xrel.put {G : xG} {σ : xS} {H H1 : Heap} {a : Nat} {c : xC} (h : xrel G σ H) (hs : H1.size = H.size) (hc : xat G H1 a c) (ho : ∀ q, q ≠ G.2.2.2 + a → H1[q]? = H[q]?) : xrel G (xu σ a c) H1 := by
  refine ⟨by rw [hs]; exact h.1, fun k c' hk => ?_⟩
  by_cases e : k = a
  · have hk' : (if k = a then some c else σ.1 k) = some c' := hk
    rw [if_pos e] at hk'
    cases hk'
    rw [e]
    exact hc
  · have hk' : (if k = a then some c else σ.1 k) = some c' := hk
    rw [if_neg e] at hk'
    exact (h.2 k c' hk').kept (ho _ (by omega))
theorem xrel.made {G : xG} {σ : xS} {H H1 : Heap} {c : xC} {n : Nat} (h : xrel G σ H) (hs : H1.size = H.size + 1) (hc : xat G H1 σ.2.1 c) (ho : ∀ q, q < H.size → H1[q]? = H[q]?) : xrel G (xnew σ c n) H1 := by
  refine ⟨by rw [hs, h.1]; show _ = G.2.2.2 + (σ.2.1 + 1); omega, fun k c' hk => ?_⟩
  have hk' : (if k = σ.2.1 then some c else σ.1 k) = some c' := hk
  by_cases e : k = σ.2.1
  · rw [if_pos e] at hk'
    cases hk'
    rw [e]
    exact hc
  · rw [if_neg e] at hk'
    exact (h.2 k c' hk').kept (ho _ (h.2 k c' hk').lt)
theorem xarr_of {G : xG} {s : State} (hK : xK G s) {t : Nat} (h1 : 10 ≤ t) (h2 : t ≤ 16) (vs : List Value) : s.isArrayOf (xar G t vs) (xtag t) := by
  rw [xar_arrV]
  have hT := hK.1.2 (t - 10) (G.2.1 t, xtag t) (by
    rcases (show t = 10 ∨ t = 11 ∨ t = 12 ∨ t = 13 ∨ t = 14 ∨ t = 15 ∨ t = 16 by omega) with rfl | rfl | rfl | rfl | rfl | rfl | rfl <;> rfl)
  exact hT.1 _ _
/-- a field's link: from the class own, at its pool's idx, to field k of the class ci -/
def xfl (own : String) (idx ci k : Nat) : Prop := ∃ r : vw_C, vwCl[ci]? = some r ∧ k < r.2.2 ∧ (Cond.fieldLink own idx (r.2.1 k).1 (r.2.1 k).2.1 (r.2.1 k).2.2.1 ∈ xGw ∨ ∃ host, Cond.fieldLinkNest own idx (r.2.1 k).1 (r.2.1 k).2.1 (r.2.1 k).2.2.1 host ∈ xNw)
section X3
variable {G : xG} {d : Nat} {M : xM} {pc : Nat} {lo : xL} {st : List Value} {σ : xS} {Q : Option Value → xS → Prop}
theorem xi_get {idx a ci k : Nat} {fs : List Value} {v : Value} (hd : M.2.2.2.2.lookup pc = some ((180, idx, 0), 3)) (hf : xfl M.1.cls idx ci k) (ha : σ.1 a = some (ci, fs)) (hv : fs[k]? = some v) (kk : xw G d M (pc + 3) lo (v :: st) σ Q) : xw G d M pc lo (rf G a :: st) σ Q := by
  refine xw.of_step (fun p e R s m args below meth c H locs cells slots Qw ls hx hb ho hts hK ht hr hl kc => ?_) kk
  obtain ⟨r, hc, hk, hlink⟩ := hf
  obtain ⟨r', hc', hlen, cell, q1, q2, q3, q4⟩ := (hr.2 a _ ha).obj (xlen hc)
  cases hc.symm.trans hc'
  obtain ⟨hS, hfc, kC, hkC, hkind⟩ := hK.1.1 ci _ hc
  obtain ⟨cf, kf, fi, f, hi, hsl⟩ := hS k hk
  have hslot : cell.slots[f.slot]? = some v := by
    rw [hsl, q4 k hk]
    simp [vp_V, hv]
  have hst := (u_facts hfc hkC (u_lays hts (xus_ok hc) hk) hi).1
  rcases hlink with hlink | ⟨host, hlink⟩
  · exact W.getf hx hb ho (hts _ hlink) hi hst q1 (by rw [q3]; exact fun h => by cases h) hslot rfl rfl (ht _ (xlook hd)).1 (kc ls hl)
  · exact va_Wgetf hx hb ho (va_Nw.use rfl (hK.2.1 _ hlink)) hi hst q1 (by rw [q3]; exact fun h => by cases h) hslot rfl rfl (ht _ (xlook hd)).1 (kc ls hl)
/-- a step that changes the heap, nothing made -/
theorem xw.of_put {pc' : Nat} {lo' : xL} {st' : List Value} {σ1 : xS} (e1 : σ1.2.1 = σ.2.1) (e2 : σ1.2.2 = σ.2.2)
    (hs : ∀ (p : Program) (e : Env) (R : Room) (s : State) (m : MethodId) (args : Array Value) (below : List Frame) (meth : Method) (c : Code) (H : Heap) (locs : List Loc) (cells slots : Nat) (Qw : State → Prop) (ls : Array Slot),
      p.tables.exec = Jvm.exec → c.code = M.2.1 → s.vm.findClass M.1.cls = some m.cls → meth.name = M.1.name → (∀ w ∈ xGw, w.before args s = true) → xK G s → xtok M.2.1 M.2.2.2.2 → xrel G σ H → xlo ls M.2.2.1 lo →
      (∀ ls' H1 locs1, xlo ls' M.2.2.1 lo' → xrel G σ1 H1 → (∀ q : Nat, q < G.2.2.2 → H1[q]? = H[q]?) → (∀ l ∈ locs1, l ∈ locs ∨ G.2.2.2 ≤ l.base) → W p G.1 e R s m args below meth c H1 locs1 cells slots Qw (F0 m pc' ls' st')) → W p G.1 e R s m args below meth c H locs cells slots Qw (F0 m pc ls st))
    (h : xw G d M pc' lo' st' σ1 Q) : xw G d M pc lo st σ Q := by
  obtain ⟨v, σ', hq, h1, h2, k⟩ := h
  refine ⟨v, σ', hq, by rw [← e1]; exact h1, by rw [← e2]; exact h2, fun n0 s0 p e R s m args below meth c H locs ls C a1 a2 hr hf hl => ?_⟩
  refine hs p e R s m args below meth c H locs _ _ _ ls C.1 C.2.1 C.2.2.2.2.2.1 C.2.2.2.2.2.2.1 C.2.2.2.2.2.2.2.1 C.2.2.2.2.2.2.2.2.1 C.2.2.2.2.2.2.2.2.2.2.2.2.2.1 hr hl (fun ls' H1 locs1 hl' hr1 hk hl1 => ?_)
  have := k n0 s0 p e R s m args below meth c H1 locs1 ls' C (by omega) (by omega) hr1 ⟨fun q hq => (hk q hq).trans (hf.1 q hq), fun l hl2 => (hl1 l hl2).elim (fun h => hf.2 l h) id⟩ hl'
  rw [e1, e2] at this
  exact this
theorem xi_put {idx a ci k : Nat} {fs : List Value} {v : Value} (hd : M.2.2.2.2.lookup pc = some ((181, idx, 0), 3)) (hf : xfl M.1.cls idx ci k) (ha : σ.1 a = some (ci, fs)) (hfin : xFin ci k = false) (hn : narrow (xTy ci k) v = v) (hfit : fits (xTy ci k) v = true)
    (kk : xw G d M (pc + 3) lo st (xu σ a (ci, fs.set k v)) Q) : xw G d M pc lo (v :: rf G a :: st) σ Q := by
  refine xw.of_put (σ1 := xu σ a (ci, fs.set k v)) rfl rfl (fun p e R s m args below meth c H locs cells slots Qw ls hx hb ho hmn hts hK ht hr hl kc => ?_) kk
  obtain ⟨r, hc, hk, hlink⟩ := hf
  obtain ⟨r', hc', hlen, cell, q1, q2, q3, q4⟩ := (hr.2 a _ ha).obj (xlen hc)
  cases hc.symm.trans hc'
  have hfin' : (r.2.1 k).2.2.2 = false := by simpa [xFin, hc] using hfin
  have hap := va_apart (own := M.1.cls) hts (xus_ok hc) (xTy ci) (xty_ok hc) (xnm_ok hc) hK.1 hc
  obtain ⟨hS, hfc, kC, hkC, hkind⟩ := hK.1.1 ci _ hc
  obtain ⟨cf, kf, fi, f, hi, hsl⟩ := hS k hk
  have hlay := hts _ (xus_ok hc _ (u_in_lay hk))
  unfold u_lay at hlay
  rw [if_neg (by rw [hfin']; decide)] at hlay
  have hst := (u_facts hfc hkC (u_lays hts (xus_ok hc) hk) hi).1
  have h6 := u_store hfc hkC hkind hlay hi (xty_ok hc k hk) hn hfit
  have go : ∀ H' : Heap, H'[G.2.2.2 + a]? = some (cell.setSlot f.slot v) → H'.size = H.size → (∀ q, q ≠ G.2.2.2 + a → H'[q]? = H[q]?) → W p G.1 e R s m args below meth c H' (locs ++ [⟨G.2.2.2 + a, f.slot⟩]) cells slots Qw (F0 m (pc + 3) ls st) := fun H' e1 e2 e3 => by
    rw [hsl] at e1
    refine kc ls H' _ hl (hr.put e2 (Or.inl ⟨r, hc, by rw [List.length_set]; exact hlen, t_OB.to (V := updV (vp_V fs) k v) ⟨_, e1, q2, q3, t_set q4 hap hk v⟩ (fun j _ => vp_updV_set (by rw [hlen]; exact hk) v j)⟩) e3) (fun q hq => e3 q (Nat.ne_of_lt (Nat.lt_of_lt_of_le hq (Nat.le_add_right _ _)))) (fun l hl2 => ?_)
    rcases List.mem_append.mp hl2 with h | h
    · exact Or.inl h
    · rw [List.mem_singleton.mp h]
      exact Or.inr (Nat.le_add_right _ _)
  rcases hlink with hlink | ⟨host, hlink⟩
  · exact W.putK hx hb (f := f) ⟨ho, hts _ hlink, ⟨_, _, _, hi⟩, hst⟩ (by rw [q2]; exact h6) q1 q3 (by rw [hsl]; exact k2_hasslot (q4 k hk)) rfl rfl (ht _ (xlook hd)).1 go
  · exact va_WputK hx hb (f := f) ho (va_Nw.use rfl (hK.2.1 _ hlink)) hi hst (by rw [q2]; exact h6) q1 q3 (by rw [hsl]; exact k2_hasslot (q4 k hk)) rfl rfl (ht _ (xlook hd)).1 go
theorem xi_putF {idx a ci k : Nat} {fs : List Value} {v : Value} (hd : M.2.2.2.2.lookup pc = some ((181, idx, 0), 3)) (hf : ∃ r : vw_C, vwCl[ci]? = some r ∧ k < r.2.2 ∧ (r.2.1 k).1 = M.1.cls ∧ Cond.fieldLink M.1.cls idx (r.2.1 k).1 (r.2.1 k).2.1 (r.2.1 k).2.2.1 ∈ xGw) (hini : M.1.name = "<init>") (ha : σ.1 a = some (ci, fs)) (hfin : xFin ci k = true) (hn : narrow (xTy ci k) v = v) (hfit : fits (xTy ci k) v = true)
    (kk : xw G d M (pc + 3) lo st (xu σ a (ci, fs.set k v)) Q) : xw G d M pc lo (v :: rf G a :: st) σ Q := by
  refine xw.of_put (σ1 := xu σ a (ci, fs.set k v)) rfl rfl (fun p e R s m args below meth c H locs cells slots Qw ls hx hb ho hmn hts hK ht hr hl kc => ?_) kk
  obtain ⟨r, hc, hk, hdecl, hlink⟩ := hf
  obtain ⟨r', hc', hlen, cell, q1, q2, q3, q4⟩ := (hr.2 a _ ha).obj (xlen hc)
  cases hc.symm.trans hc'
  have hfin' : (r.2.1 k).2.2.2 = true := by simpa [xFin, hc] using hfin
  have hap := va_apart (own := M.1.cls) hts (xus_ok hc) (xTy ci) (xty_ok hc) (xnm_ok hc) hK.1 hc
  obtain ⟨hS, hfc, kC, hkC, hkind⟩ := hK.1.1 ci _ hc
  obtain ⟨cf, kf, fi, f, hi, hsl⟩ := hS k hk
  have hlay := hts _ (xus_ok hc _ (u_in_lay hk))
  unfold u_lay at hlay
  rw [if_pos hfin'] at hlay
  have hst := (u_facts hfc hkC (u_lays hts (xus_ok hc) hk) hi).1
  have hcf : m.cls = cf := by
    obtain ⟨_, _, c', _, _, _, -, -, hf', -, -, -, hown2, -⟩ := Cond.laysFinal_spec hlay
    have e1 : c' = cf := by have := hi.symm.trans hf'; simp at this; exact this.1.symm
    rw [hdecl] at hown2
    rw [← e1]; exact Option.some.inj (ho.symm.trans hown2)
  have h6 := u_fits hfc hkC hkind (Or.inr hlay) hi (xty_ok hc k hk) hn hfit
  refine W.putFinK hx hb ho (hts _ hlink) hi hst hcf (hmn.trans hini) (by rw [q2]; exact h6) q1 q3 (by rw [hsl]; exact k2_hasslot (q4 k hk)) rfl rfl (ht _ (xlook hd)).1 fun H' e1 e2 e3 => ?_
  rw [hsl] at e1
  refine kc ls H' _ hl (hr.put e2 (Or.inl ⟨r, hc, by rw [List.length_set]; exact hlen, t_OB.to (V := updV (vp_V fs) k v) ⟨_, e1, q2, q3, t_set q4 hap hk v⟩ (fun j _ => vp_updV_set (by rw [hlen]; exact hk) v j)⟩) e3) (fun q hq => e3 q (Nat.ne_of_lt (Nat.lt_of_lt_of_le hq (Nat.le_add_right _ _)))) (fun l hl2 => ?_)
  rcases List.mem_append.mp hl2 with h | h
  · exact Or.inl h
  · rw [List.mem_singleton.mp h]
    exact Or.inr (Nat.le_add_right _ _)
end X3
