section X4
variable {G : xG} {d : Nat} {M : xM} {pc : Nat} {lo : xL} {st : List Value} {σ : xS} {Q : Option Value → xS → Prop}
theorem xin {i : Int32} {vs : List Value} {v : Value} (h0 : ¬ i < 0) (hv : vs[i.toNatClampNeg]? = some v) (G : xG) (t : Nat) : ¬ (i < 0 ∨ (xar G t vs).slots.size ≤ i.toNatClampNeg) := by
  rw [xar_size]
  have := (List.getElem?_eq_some_iff.mp hv).1
  intro h
  rcases h with h | h
  · exact h0 h
  · omega
theorem xin' {i : Int32} {vs : List Value} (h0 : ¬ i < 0) (hv : i.toNatClampNeg < vs.length) (G : xG) (t : Nat) : ¬ (i < 0 ∨ (xar G t vs).slots.size ≤ i.toNatClampNeg) := by
  rw [xar_size]
  intro h
  rcases h with h | h
  · exact h0 h
  · omega
theorem xvm (G : xG) (t : Nat) (vs : List Value) : (xar G t vs).vm ≠ .unknown := by intro h; cases h
theorem xi_iald {a : Nat} {i : Int32} {vs : List Value} {v : Value} (hd : M.2.2.2.2.lookup pc = some ((46, 0, 0), 1)) (ha : σ.1 a = some (11, vs)) (h0 : ¬ i < 0) (hv : vs[i.toNatClampNeg]? = some v) (kk : xw G d M (pc + 1) lo (v :: st) σ Q) : xw G d M pc lo (.int i :: rf G a :: st) σ Q :=
  xw.of_step (fun p e R s m args below meth c H locs cells slots Qw ls hx hb ho hts hK ht hr hl k => W.iald hx hb ((hr.2 a _ ha).arr (by decide)).2 (xarr_of hK (by decide) (by decide) vs) (xvm _ _ _) (xin h0 hv _ _) (xar_read hv) rfl rfl (ht _ (xlook hd)).1 (k ls hl)) kk
theorem xi_bald {a : Nat} {i : Int32} {vs : List Value} {v : Value} (hd : M.2.2.2.2.lookup pc = some ((51, 0, 0), 1)) (ha : σ.1 a = some (10, vs)) (h0 : ¬ i < 0) (hv : vs[i.toNatClampNeg]? = some v) (kk : xw G d M (pc + 1) lo (v :: st) σ Q) : xw G d M pc lo (.int i :: rf G a :: st) σ Q :=
  xw.of_step (fun p e R s m args below meth c H locs cells slots Qw ls hx hb ho hts hK ht hr hl k => W.bald hx hb ((hr.2 a _ ha).arr (by decide)).2 (xarr_of hK (by decide) (by decide) vs) (xvm _ _ _) (xin h0 hv _ _) (xar_read hv) rfl rfl (ht _ (xlook hd)).1 (k ls hl)) kk
theorem xi_zald {a : Nat} {i : Int32} {vs : List Value} {v : Value} (hd : M.2.2.2.2.lookup pc = some ((51, 0, 0), 1)) (ha : σ.1 a = some (12, vs)) (h0 : ¬ i < 0) (hv : vs[i.toNatClampNeg]? = some v) (kk : xw G d M (pc + 1) lo (v :: st) σ Q) : xw G d M pc lo (.int i :: rf G a :: st) σ Q :=
  xw.of_step (fun p e R s m args below meth c H locs cells slots Qw ls hx hb ho hts hK ht hr hl k => W.zald hx hb ((hr.2 a _ ha).arr (by decide)).2 (xarr_of hK (by decide) (by decide) vs) (xvm _ _ _) (xin h0 hv _ _) (xar_read hv) rfl rfl (ht _ (xlook hd)).1 (k ls hl)) kk
theorem xtagref {t : Nat} (h1 : 13 ≤ t) (h2 : t ≤ 16) : (xtag t).isReference = true := by
  rcases (show t = 13 ∨ t = 14 ∨ t = 15 ∨ t = 16 by omega) with rfl | rfl | rfl | rfl <;> rfl
theorem xi_aald {a t : Nat} {i : Int32} {vs : List Value} {v : Value} (hd : M.2.2.2.2.lookup pc = some ((50, 0, 0), 1)) (ha : σ.1 a = some (t, vs)) (h1 : 13 ≤ t) (h0 : ¬ i < 0) (hv : vs[i.toNatClampNeg]? = some v) (kk : xw G d M (pc + 1) lo (v :: st) σ Q) : xw G d M pc lo (.int i :: rf G a :: st) σ Q :=
  xw.of_step (fun p e R s m args below meth c H locs cells slots Qw ls hx hb ho hts hK ht hr hl k => by
    obtain ⟨h2, hc⟩ := (hr.2 a _ ha).arr (by omega)
    exact W.aald hx hb hc (xarr_of hK (by omega) h2 vs) (xtagref h1 h2) (xvm _ _ _) (xin h0 hv _ _) (xar_read hv) rfl rfl (ht _ (xlook hd)).1 (k ls hl)) kk
theorem xi_alen {a t : Nat} {vs : List Value} (hd : M.2.2.2.2.lookup pc = some ((190, 0, 0), 1)) (ha : σ.1 a = some (t, vs)) (h1 : 10 ≤ t) {n : Int32} (hn : Int32.ofNat vs.length = n) (kk : xw G d M (pc + 1) lo (.int n :: st) σ Q) : xw G d M pc lo (rf G a :: st) σ Q :=
  xw.of_step (fun p e R s m args below meth c H locs cells slots Qw ls hx hb ho hts hK ht hr hl k => by
    obtain ⟨h2, hc⟩ := (hr.2 a _ ha).arr h1
    exact W.alen (n := n) hx hb hc (xarr_of hK h1 h2 vs) (by rw [xar_size]; exact hn) rfl rfl (ht _ (xlook hd)).1 (k ls hl)) kk
theorem xput1 {G : xG} {H H1 : Heap} {σ : xS} {a t : Nat} {vs : List Value} {i : Nat} {v : Value} (hr : xrel G σ H) (h1 : 10 ≤ t) (h2 : t ≤ 16) (e : H1[G.2.2.2 + a]? = some ((xar G t vs).setSlot i v)) (z : H1.size = H.size) (o : ∀ q, q ≠ G.2.2.2 + a → H1[q]? = H[q]?) : xrel G (xu σ a (t, vs.set i v)) H1 :=
  hr.put z (Or.inr ⟨h1, h2, by rw [e, xar_set]⟩) o
theorem xloc1 {G : xG} {locs : List Loc} {a j : Nat} : ∀ l ∈ locs ++ [(⟨G.2.2.2 + a, j⟩ : Loc)], l ∈ locs ∨ G.2.2.2 ≤ l.base := fun l hl => by
  rcases List.mem_append.mp hl with h | h
  · exact Or.inl h
  · rw [List.mem_singleton.mp h]
    exact Or.inr (Nat.le_add_right _ _)
theorem xi_iast {a : Nat} {i x : Int32} {vs : List Value} (hd : M.2.2.2.2.lookup pc = some ((79, 0, 0), 1)) (ha : σ.1 a = some (11, vs)) (h0 : ¬ i < 0) (hv : i.toNatClampNeg < vs.length) (kk : xw G d M (pc + 1) lo st (xu σ a (11, vs.set i.toNatClampNeg (.int x))) Q) : xw G d M pc lo (.int x :: .int i :: rf G a :: st) σ Q :=
  xw.of_put (σ1 := xu σ a (11, vs.set i.toNatClampNeg (.int x))) rfl rfl (fun p e R s m args below meth c H locs cells slots Qw ls hx hb ho hmn hts hK ht hr hl k =>
    W.iast hx hb ((hr.2 a _ ha).arr (by decide)).2 (xarr_of hK (by decide) (by decide) vs) (xvm _ _ _) (xin' h0 hv _ _) rfl rfl (ht _ (xlook hd)).1 (fun H' e1 e2 e3 => k ls H' _ hl (xput1 hr (by decide) (by decide) e1 e2 e3) (fun q hq => e3 q (Nat.ne_of_lt (Nat.lt_of_lt_of_le hq (Nat.le_add_right _ _)))) xloc1)) kk
theorem xi_bast {a : Nat} {i x : Int32} {vs : List Value} (hd : M.2.2.2.2.lookup pc = some ((84, 0, 0), 1)) (ha : σ.1 a = some (10, vs)) (h0 : ¬ i < 0) (hv : i.toNatClampNeg < vs.length) (kk : xw G d M (pc + 1) lo st (xu σ a (10, vs.set i.toNatClampNeg (.int x.toInt8.toInt32))) Q) : xw G d M pc lo (.int x :: .int i :: rf G a :: st) σ Q :=
  xw.of_put (σ1 := xu σ a (10, vs.set i.toNatClampNeg (.int x.toInt8.toInt32))) rfl rfl (fun p e R s m args below meth c H locs cells slots Qw ls hx hb ho hmn hts hK ht hr hl k =>
    W.bast hx hb ((hr.2 a _ ha).arr (by decide)).2 (xarr_of hK (by decide) (by decide) vs) (xvm _ _ _) (xin' h0 hv _ _) rfl rfl (ht _ (xlook hd)).1 (fun H' e1 e2 e3 => k ls H' _ hl (xput1 hr (by decide) (by decide) e1 e2 e3) (fun q hq => e3 q (Nat.ne_of_lt (Nat.lt_of_lt_of_le hq (Nat.le_add_right _ _)))) xloc1)) kk
theorem xi_zast {a : Nat} {i x : Int32} {vs : List Value} (hd : M.2.2.2.2.lookup pc = some ((84, 0, 0), 1)) (ha : σ.1 a = some (12, vs)) (h0 : ¬ i < 0) (hv : i.toNatClampNeg < vs.length) (hx1 : x &&& 1 = x) (kk : xw G d M (pc + 1) lo st (xu σ a (12, vs.set i.toNatClampNeg (.int x))) Q) : xw G d M pc lo (.int x :: .int i :: rf G a :: st) σ Q :=
  xw.of_put (σ1 := xu σ a (12, vs.set i.toNatClampNeg (.int x))) rfl rfl (fun p e R s m args below meth c H locs cells slots Qw ls hx hb ho hmn hts hK ht hr hl k =>
    W.zast hx hb ((hr.2 a _ ha).arr (by decide)).2 (xarr_of hK (by decide) (by decide) vs) (xvm _ _ _) (xin' h0 hv _ _) rfl rfl (ht _ (xlook hd)).1 (fun H' e1 e2 e3 => k ls H' _ hl (xput1 hr (by decide) (by decide) (by rw [e1]; simp only [narrow, hx1]) e2 e3) (fun q hq => e3 q (Nat.ne_of_lt (Nat.lt_of_lt_of_le hq (Nat.le_add_right _ _)))) xloc1)) kk
/-- the object class that an array kind holds -/
def xel (t : Nat) : Nat := match t with
  | 13 => 0
  | 14 => 1
  | _ => 3
theorem xel_tag {t : Nat} (h1 : 13 ≤ t) (h2 : t ≤ 15) : ∃ r : vw_C, vwCl[xel t]? = some r ∧ xtag t = .object r.1 := by
  rcases (show t = 13 ∨ t = 14 ∨ t = 15 by omega) with rfl | rfl | rfl <;> exact ⟨_, rfl, rfl⟩
theorem xi_aast {a b t : Nat} {i : Int32} {vs fs : List Value} (hd : M.2.2.2.2.lookup pc = some ((83, 0, 0), 1)) (ha : σ.1 a = some (t, vs)) (h1 : 13 ≤ t) (h2 : t ≤ 15) (hb' : σ.1 b = some (xel t, fs)) (h0 : ¬ i < 0) (hv : i.toNatClampNeg < vs.length) (kk : xw G d M (pc + 1) lo st (xu σ a (t, vs.set i.toNatClampNeg (rf G b))) Q) : xw G d M pc lo (rf G b :: .int i :: rf G a :: st) σ Q :=
  xw.of_put (σ1 := xu σ a (t, vs.set i.toNatClampNeg (rf G b))) rfl rfl (fun p e R s m args below meth c H locs cells slots Qw ls hx hb ho hmn hts hK ht hr hl k => by
    obtain ⟨r, hc, htag⟩ := xel_tag h1 h2
    obtain ⟨r', hc', hlen, cellV, g1, g2, g3, -⟩ := (hr.2 b _ hb').obj (xlen hc)
    have hcls := (hK.1.1 _ r hc).2
    have hT := (hK.1.2 (t - 10) (G.2.1 t, xtag t) (by rcases (show t = 13 ∨ t = 14 ∨ t = 15 by omega) with rfl | rfl | rfl <;> rfl)).2
    rw [htag] at hT
    obtain ⟨kA, comp, k1, k2, k3, -⟩ := hT
    have hcomp : comp = G.2.1 (xel t) := Option.some.inj (k3.symm.trans hcls.1)
    subst hcomp
    obtain ⟨kC, hkC, -⟩ := hcls.2
    refine W.aast hx hb ((hr.2 a _ ha).arr (by omega)).2 (fun q h => by cases h) (xvm _ _ _) k1 k2 rfl hkC ⟨h0, by rw [xar_size]; exact hv⟩ g1 (fun q h => by rw [g3] at h; cases h) (by rw [g2]; exact hkC) (by rw [g2]; exact va_assign hcls) rfl rfl (ht _ (xlook hd)).1 (fun H' e1 e2 e3 => k ls H' _ hl (xput1 hr (by omega) (by omega) e1 e2 e3) (fun q hq => e3 q (Nat.ne_of_lt (Nat.lt_of_lt_of_le hq (Nat.le_add_right _ _)))) xloc1)) kk
theorem xi_aastN {a t : Nat} {i : Int32} {vs : List Value} (hd : M.2.2.2.2.lookup pc = some ((83, 0, 0), 1)) (ha : σ.1 a = some (t, vs)) (h1 : 13 ≤ t) (h2 : t ≤ 15) (h0 : ¬ i < 0) (hv : i.toNatClampNeg < vs.length) (kk : xw G d M (pc + 1) lo st (xu σ a (t, vs.set i.toNatClampNeg .null)) Q) : xw G d M pc lo (.null :: .int i :: rf G a :: st) σ Q :=
  xw.of_put (σ1 := xu σ a (t, vs.set i.toNatClampNeg .null)) rfl rfl (fun p e R s m args below meth c H locs cells slots Qw ls hx hb ho hmn hts hK ht hr hl k => by
    obtain ⟨r, hc, htag⟩ := xel_tag h1 h2
    have hA := xarr_of hK (by omega) (by omega) vs (t := t)
    rw [htag] at hA
    exact va_WaastN hx hb ((hr.2 a _ ha).arr (by omega)).2 hA (xvm _ _ _) (xin' h0 hv _ _) rfl rfl (ht _ (xlook hd)).1 (fun H' e1 e2 e3 => k ls H' _ hl (xput1 hr (by omega) (by omega) e1 e2 e3) (fun q hq => e3 q (Nat.ne_of_lt (Nat.lt_of_lt_of_le hq (Nat.le_add_right _ _)))) xloc1)) kk
end X4
