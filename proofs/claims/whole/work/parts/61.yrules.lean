/-! ===== the reference's machine: branches, ends, calls ===== -/
def yr (z : Int) : Prop := -2147483648 ≤ z ∧ z < 2147483648
theorem yr_t (x : Int32) : yr x.toInt := i_rng x
theorem yz {z : Int} (h : yr z) : (Int32.ofInt z).toInt = z := yof h
theorem y0 : (0 : Int32).toInt = 0 := rfl
section Y2
variable {G : xG} {d a : Nat} {M : xM} {pc : Nat} {lo : yL} {st : List yv} {Y : yS} {Q : Option yv → yS → Prop}
theorem yi_ifeq {x : Int} {t : Nat} (hd : M.2.2.2.2.lookup pc = some ((153, t, 0), 3)) (hr : yr x) (kt : x = 0 → yw G d a M t lo st Y Q) (kf : ¬ x = 0 → yw G d a M (pc + 3) lo st Y Q) : yw G d a M pc lo (.inl x :: st) Y Q := fun σ hm => xi_ifeq hd (fun c => kt (by rw [i_eq, yz hr, y0] at c; exact c) σ hm) (fun c => kf (by rw [i_eq, yz hr, y0] at c; exact c) σ hm)
theorem yi_ifne {x : Int} {t : Nat} (hd : M.2.2.2.2.lookup pc = some ((154, t, 0), 3)) (hr : yr x) (kt : ¬ x = 0 → yw G d a M t lo st Y Q) (kf : x = 0 → yw G d a M (pc + 3) lo st Y Q) : yw G d a M pc lo (.inl x :: st) Y Q := fun σ hm => xi_ifne hd (fun c => kt (by rw [i_eq, yz hr, y0] at c; exact c) σ hm) (fun c => kf (by rw [i_eq, yz hr, y0] at c; exact c) σ hm)
theorem yi_iflt {x : Int} {t : Nat} (hd : M.2.2.2.2.lookup pc = some ((155, t, 0), 3)) (hr : yr x) (kt : x < 0 → yw G d a M t lo st Y Q) (kf : ¬ x < 0 → yw G d a M (pc + 3) lo st Y Q) : yw G d a M pc lo (.inl x :: st) Y Q := fun σ hm => xi_iflt hd (fun c => kt (by rw [i_lt, yz hr, y0] at c; exact c) σ hm) (fun c => kf (by rw [i_lt, yz hr, y0] at c; exact c) σ hm)
theorem yi_ifge {x : Int} {t : Nat} (hd : M.2.2.2.2.lookup pc = some ((156, t, 0), 3)) (hr : yr x) (kt : 0 ≤ x → yw G d a M t lo st Y Q) (kf : ¬ 0 ≤ x → yw G d a M (pc + 3) lo st Y Q) : yw G d a M pc lo (.inl x :: st) Y Q := fun σ hm => xi_ifge hd (fun c => kt (by rw [i_le, yz hr, y0] at c; exact c) σ hm) (fun c => kf (by rw [i_le, yz hr, y0] at c; exact c) σ hm)
theorem yi_ifgt {x : Int} {t : Nat} (hd : M.2.2.2.2.lookup pc = some ((157, t, 0), 3)) (hr : yr x) (kt : 0 < x → yw G d a M t lo st Y Q) (kf : ¬ 0 < x → yw G d a M (pc + 3) lo st Y Q) : yw G d a M pc lo (.inl x :: st) Y Q := fun σ hm => xi_ifgt hd (fun c => kt (by rw [i_lt, yz hr, y0] at c; exact c) σ hm) (fun c => kf (by rw [i_lt, yz hr, y0] at c; exact c) σ hm)
theorem yi_ifle {x : Int} {t : Nat} (hd : M.2.2.2.2.lookup pc = some ((158, t, 0), 3)) (hr : yr x) (kt : x ≤ 0 → yw G d a M t lo st Y Q) (kf : ¬ x ≤ 0 → yw G d a M (pc + 3) lo st Y Q) : yw G d a M pc lo (.inl x :: st) Y Q := fun σ hm => xi_ifle hd (fun c => kt (by rw [i_le, yz hr, y0] at c; exact c) σ hm) (fun c => kf (by rw [i_le, yz hr, y0] at c; exact c) σ hm)
theorem yi_icmpeq {x y : Int} {t : Nat} (hd : M.2.2.2.2.lookup pc = some ((159, t, 0), 3)) (hr : yr x ∧ yr y) (kt : x = y → yw G d a M t lo st Y Q) (kf : ¬ x = y → yw G d a M (pc + 3) lo st Y Q) : yw G d a M pc lo (.inl y :: .inl x :: st) Y Q := fun σ hm => xi_icmpeq hd (fun c => kt (by rw [i_eq, yz hr.1, yz hr.2] at c; exact c) σ hm) (fun c => kf (by rw [i_eq, yz hr.1, yz hr.2] at c; exact c) σ hm)
theorem yi_icmpne {x y : Int} {t : Nat} (hd : M.2.2.2.2.lookup pc = some ((160, t, 0), 3)) (hr : yr x ∧ yr y) (kt : ¬ x = y → yw G d a M t lo st Y Q) (kf : x = y → yw G d a M (pc + 3) lo st Y Q) : yw G d a M pc lo (.inl y :: .inl x :: st) Y Q := fun σ hm => xi_icmpne hd (fun c => kt (by rw [i_eq, yz hr.1, yz hr.2] at c; exact c) σ hm) (fun c => kf (by rw [i_eq, yz hr.1, yz hr.2] at c; exact c) σ hm)
theorem yi_icmplt {x y : Int} {t : Nat} (hd : M.2.2.2.2.lookup pc = some ((161, t, 0), 3)) (hr : yr x ∧ yr y) (kt : x < y → yw G d a M t lo st Y Q) (kf : ¬ x < y → yw G d a M (pc + 3) lo st Y Q) : yw G d a M pc lo (.inl y :: .inl x :: st) Y Q := fun σ hm => xi_icmplt hd (fun c => kt (by rw [i_lt, yz hr.1, yz hr.2] at c; exact c) σ hm) (fun c => kf (by rw [i_lt, yz hr.1, yz hr.2] at c; exact c) σ hm)
theorem yi_icmpge {x y : Int} {t : Nat} (hd : M.2.2.2.2.lookup pc = some ((162, t, 0), 3)) (hr : yr x ∧ yr y) (kt : y ≤ x → yw G d a M t lo st Y Q) (kf : ¬ y ≤ x → yw G d a M (pc + 3) lo st Y Q) : yw G d a M pc lo (.inl y :: .inl x :: st) Y Q := fun σ hm => xi_icmpge hd (fun c => kt (by rw [i_le, yz hr.1, yz hr.2] at c; exact c) σ hm) (fun c => kf (by rw [i_le, yz hr.1, yz hr.2] at c; exact c) σ hm)
theorem yi_icmpgt {x y : Int} {t : Nat} (hd : M.2.2.2.2.lookup pc = some ((163, t, 0), 3)) (hr : yr x ∧ yr y) (kt : y < x → yw G d a M t lo st Y Q) (kf : ¬ y < x → yw G d a M (pc + 3) lo st Y Q) : yw G d a M pc lo (.inl y :: .inl x :: st) Y Q := fun σ hm => xi_icmpgt hd (fun c => kt (by rw [i_lt, yz hr.1, yz hr.2] at c; exact c) σ hm) (fun c => kf (by rw [i_lt, yz hr.1, yz hr.2] at c; exact c) σ hm)
theorem yi_icmple {x y : Int} {t : Nat} (hd : M.2.2.2.2.lookup pc = some ((164, t, 0), 3)) (hr : yr x ∧ yr y) (kt : x ≤ y → yw G d a M t lo st Y Q) (kf : ¬ x ≤ y → yw G d a M (pc + 3) lo st Y Q) : yw G d a M pc lo (.inl y :: .inl x :: st) Y Q := fun σ hm => xi_icmple hd (fun c => kt (by rw [i_le, yz hr.1, yz hr.2] at c; exact c) σ hm) (fun c => kf (by rw [i_le, yz hr.1, yz hr.2] at c; exact c) σ hm)
theorem yi_ret_i {z : Int} (hd : M.2.2.2.2.lookup pc = some ((172, 0, 0), 1)) (hty : M.2.2.2.1 = some .int) (hq : Q (some (.inl z)) Y) : yw G d a M pc lo [.inl z] Y Q := fun σ hm => xi_ret_i hd hty rfl ⟨some (.inl z), Y, rfl, hm, frz.rf, rfl, hq⟩
theorem yi_ret_z {z : Int} (hd : M.2.2.2.2.lookup pc = some ((172, 0, 0), 1)) (hty : M.2.2.2.1 = some .boolean) (hz : z = 0 ∨ z = 1) (hq : Q (some (.inl z)) Y) : yw G d a M pc lo [.inl z] Y Q := fun σ hm => xi_ret_i hd hty (by rcases hz with e | e <;> subst e <;> decide) ⟨some (.inl z), Y, rfl, hm, frz.rf, rfl, hq⟩
theorem yi_ret_v (hd : M.2.2.2.2.lookup pc = some ((177, 0, 0), 1)) (hty : M.2.2.2.1 = none) (hq : Q none Y) : yw G d a M pc lo [] Y Q := fun σ hm => xi_ret_v hd hty ⟨none, Y, rfl, hm, frz.rf, rfl, hq⟩
theorem yi_ldc {t : Nat} {v : Int32} (hd : M.2.2.2.2.lookup pc = some ((18, t, v), 2)) (hw : Cond.constant M.1.cls t v ∈ xGw) (k : yw G d a M (pc + 2) lo (.inl v.toInt :: st) Y Q) : yw G d a M pc lo st Y Q := fun σ hm => xi_ldc hd hw (by have := k σ hm; simpa only [List.map_cons, yva, Int32.ofInt_toInt] using this)
theorem yi_tableIn {dflt lw hi : Int} {offs : Array Int} {len : Nat} {x : Int} {off : Int} {tgt : Nat} (hd : decode M.2.1 pc = .ok (.tableswitch dflt lw hi offs, len)) (hr : yr x) (h1 : ¬ x < lw) (h2 : ¬ hi < x) (hof : offs[(x - lw).toNat]? = some off) (htg : (pc : Int) + off = (tgt : Int)) (k : yw G d a M tgt lo st Y Q) : yw G d a M pc lo (.inl x :: st) Y Q := fun σ hm => xi_tableIn hd (by rw [yz hr]; exact h1) (by rw [yz hr]; exact h2) (by rw [yz hr]; exact hof) htg (k σ hm)
theorem yi_tableOut {dflt lw hi : Int} {offs : Array Int} {len : Nat} {x : Int} {tgt : Nat} (hd : decode M.2.1 pc = .ok (.tableswitch dflt lw hi offs, len)) (hr : yr x) (h : x < lw ∨ hi < x) (htg : (pc : Int) + dflt = (tgt : Int)) (k : yw G d a M tgt lo st Y Q) : yw G d a M pc lo (.inl x :: st) Y Q := fun σ hm => xi_tableOut hd (by rw [yz hr]; exact h) htg (k σ hm)
theorem ycat (G : xG) (a : Nat) (v : yv) : (yva G a v).category = 1 := by cases v <;> rfl
theorem ycats (G : xG) (a : Nat) : ∀ (l : List yv), ((l.map (yva G a)).map fun v => v.category).sum = l.length
  | [] => rfl
  | v :: l => by
    simp only [List.map_cons, List.sum_cons, ycat, List.length_cons]
    rw [ycats G a l]
    omega
theorem ym_at {As : List yv} (n : Nat) (hn : M.2.2.1 = n) (hp : plainName M.1.cls = true) (hlen : As.length ≤ n) (ht : xtok M.2.1 M.2.2.2.2) (h : yw G d a M 0 (As.map some ++ List.replicate (n - As.length) none) [] Y Q) : ym G d a M As Y Q := by
  intro σ hm
  refine xm_at n hn hp (by simpa using hlen) (fun v hv => ?_) ht ?_
  · obtain ⟨w, -, rfl⟩ := List.mem_map.mp hv
    exact ycat G a w
  · have := h σ hm
    simpa [xlo0, Function.comp_def] using this
theorem ycS {M' : xM} {Q' : Option yv → yS → Prop} {idx n j : Nat} {As rest : List yv} (hM : RX9 = M.1.cls) (hd : M.2.2.2.2.lookup pc = some ((184, idx, 0), 3)) (hl : (xmls 9).lookup idx = some j) (hm : ym G d a M' As Y Q') (hj : xmeth j = M') (hml : xml M' n) (hin : Cond.static M'.1 ∈ xGw) (hn : As.length = n) (hst : st = As.reverse ++ rest) (hrest : rest.length ≤ 8)
    (kk : ∀ v Y', Q' v Y' → yw G (d + 1) a M (pc + 3) lo (v.toList ++ rest) Y' Q) : yw G (d + 1) a M pc lo st Y Q := by
  intro σ h
  refine xcS 9 hM hd hl (hm σ h) hj hml hin (by simpa using hn) (rest := rest.map (yva G a)) (by rw [hst]; simp) (by rw [ycats]; exact hrest) (fun v σ' hq => ?_)
  obtain ⟨v', Y', rfl, h2, h3, h4, h5⟩ := hq
  have := kk v' Y' h5 σ' h2
  refine xw.mono (by cases v' <;> simpa using this) (fun v σ2 h => yQ.of h3 h4 h)
theorem ycV {M' : xM} {Q' : Option yv → yS → Prop} {idx n j : Nat} {As rest : List yv} (hM : RX9 = M.1.cls) (hd : M.2.2.2.2.lookup pc = some ((182, idx, 0), 3)) (hl : (xmls 9).lookup idx = some j) (hm : ym G d a M' (.inr 0 :: As) Y Q') (hj : xmeth j = M') (hml : xml M' n) (hin : ∀ w ∈ [Cond.instanceMethod M'.1, Cond.selects M'.1.cls M'.1 M'.1], w ∈ xGw) (hc : RX9 = M'.1.cls) (hn : As.length = n) (hst : st = As.reverse ++ .inr 0 :: rest) (hrest : rest.length ≤ 8)
    (kk : ∀ v Y', Q' v Y' → yw G (d + 1) a M (pc + 3) lo (v.toList ++ rest) Y' Q) : yw G (d + 1) a M pc lo st Y Q := by
  intro σ h
  refine xcV 9 hM hd hl (b := a) (As := As.map (yva G a)) (hm σ h) hj hml hin h.1 ⟨_, rfl, hc⟩ (by simpa using hn) (rest := rest.map (yva G a)) (by rw [hst]; simp [yva, yra]) (by rw [ycats]; exact hrest) (fun v σ' hq => ?_)
  obtain ⟨v', Y', rfl, h2, h3, h4, h5⟩ := hq
  have := kk v' Y' h5 σ' h2
  refine xw.mono (by cases v' <;> simpa using this) (fun v σ2 h => yQ.of h3 h4 h)
end Y2
theorem ylr_s (n : Nat) : List.replicate (n + 1) (none : Option yv) = none :: List.replicate n none := rfl
theorem ylr_0 : List.replicate 0 (none : Option yv) = [] := rfl
set_option maxRecDepth 100000 in
set_option maxHeartbeats 2000000 in
theorem cm_in {G : xG} {d a : Nat} {x y : Int} {Y : yS} (hx : yr x) (hy : yr y) : ym G d a mX9_in [.inl x, .inl y] Y (fun v Y' => v = some (.inl (if 0 ≤ x ∧ x ≤ y then 1 else 0)) ∧ Y' = Y) := by
  unfold yr at hx hy
  refine ym_at 2 rfl (by decide) (Nat.le_of_ble_eq_true rfl) tX9_in_ok ?_
  try simp only [List.map_cons, List.map_nil, List.length_cons, List.length_nil, ylr_s, ylr_0, Nat.reduceAdd, Nat.reduceSub, List.cons_append, List.nil_append, List.set_cons_zero, List.set_cons_succ, Option.toList_none, Option.toList_some, Int32.reduceToInt, yu, ya, reduceIte, Nat.reduceEqDiff, Int.toNat_natCast, Int.reduceToNat]
  refine ygo 99999 90 rfl rfl (by first | exact trivial | (simp only [true_and, yu, ya, reduceIte, Nat.reduceEqDiff, Int32.reduceToInt, Int.toNat_natCast, Int.reduceToNat]; omega) | decide | (simp; done)) ?_
  try simp only [List.map_cons, List.map_nil, List.length_cons, List.length_nil, ylr_s, ylr_0, Nat.reduceAdd, Nat.reduceSub, List.cons_append, List.nil_append, List.set_cons_zero, List.set_cons_succ, Option.toList_none, Option.toList_some, Int32.reduceToInt, yu, ya, reduceIte, Nat.reduceEqDiff, Int.toNat_natCast, Int.reduceToNat]
  refine yi_iflt rfl (by first | exact yr_t _ | exact yr_b _ | (unfold yr; omega)) (fun c => ?_) (fun c => ?_)
  · refine ygo 99999 90 rfl rfl (by first | exact trivial | (simp only [true_and, yu, ya, reduceIte, Nat.reduceEqDiff, Int32.reduceToInt, Int.toNat_natCast, Int.reduceToNat]; omega) | decide | (simp; done)) ?_
    try simp only [List.map_cons, List.map_nil, List.length_cons, List.length_nil, ylr_s, ylr_0, Nat.reduceAdd, Nat.reduceSub, List.cons_append, List.nil_append, List.set_cons_zero, List.set_cons_succ, Option.toList_none, Option.toList_some, Int32.reduceToInt, yu, ya, reduceIte, Nat.reduceEqDiff, Int.toNat_natCast, Int.reduceToNat]
    refine yi_ret_z rfl rfl (by omega) ⟨by rw [if_neg (by omega)], rfl⟩
  refine ygo 99999 90 rfl rfl (by first | exact trivial | (simp only [true_and, yu, ya, reduceIte, Nat.reduceEqDiff, Int32.reduceToInt, Int.toNat_natCast, Int.reduceToNat]; omega) | decide | (simp; done)) ?_
  try simp only [List.map_cons, List.map_nil, List.length_cons, List.length_nil, ylr_s, ylr_0, Nat.reduceAdd, Nat.reduceSub, List.cons_append, List.nil_append, List.set_cons_zero, List.set_cons_succ, Option.toList_none, Option.toList_some, Int32.reduceToInt, yu, ya, reduceIte, Nat.reduceEqDiff, Int.toNat_natCast, Int.reduceToNat]
  refine yi_icmpgt rfl (by refine ⟨?_, ?_⟩ <;> first | exact yr_t _ | exact yr_b _ | (unfold yr; omega)) (fun c2 => ?_) (fun c2 => ?_)
  · refine ygo 99999 90 rfl rfl (by first | exact trivial | (simp only [true_and, yu, ya, reduceIte, Nat.reduceEqDiff, Int32.reduceToInt, Int.toNat_natCast, Int.reduceToNat]; omega) | decide | (simp; done)) ?_
    try simp only [List.map_cons, List.map_nil, List.length_cons, List.length_nil, ylr_s, ylr_0, Nat.reduceAdd, Nat.reduceSub, List.cons_append, List.nil_append, List.set_cons_zero, List.set_cons_succ, Option.toList_none, Option.toList_some, Int32.reduceToInt, yu, ya, reduceIte, Nat.reduceEqDiff, Int.toNat_natCast, Int.reduceToNat]
    refine yi_ret_z rfl rfl (by omega) ⟨by rw [if_neg (by omega)], rfl⟩
  · refine ygo 99999 90 rfl rfl (by first | exact trivial | (simp only [true_and, yu, ya, reduceIte, Nat.reduceEqDiff, Int32.reduceToInt, Int.toNat_natCast, Int.reduceToNat]; omega) | decide | (simp; done)) ?_
    try simp only [List.map_cons, List.map_nil, List.length_cons, List.length_nil, ylr_s, ylr_0, Nat.reduceAdd, Nat.reduceSub, List.cons_append, List.nil_append, List.set_cons_zero, List.set_cons_succ, Option.toList_none, Option.toList_some, Int32.reduceToInt, yu, ya, reduceIte, Nat.reduceEqDiff, Int.toNat_natCast, Int.reduceToNat]
    refine yi_ret_z rfl rfl (by omega) ⟨by rw [if_pos (by omega)], rfl⟩
