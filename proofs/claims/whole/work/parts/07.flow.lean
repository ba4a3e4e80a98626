section X2
variable {G : xG} {d : Nat} {M : xM} {pc : Nat} {lo : xL} {st : List Value} {σ : xS} {Q : Option Value → xS → Prop}
theorem xw.mono {Q' : Option Value → xS → Prop} (h : xw G d M pc lo st σ Q) (hq : ∀ v σ', Q v σ' → Q' v σ') : xw G d M pc lo st σ Q' := by
  obtain ⟨v, σ', h1, h2⟩ := h
  exact ⟨v, σ', hq _ _ h1, h2⟩
theorem xi_ifeq {x : Int32} {a : Nat} (hd : M.2.2.2.2.lookup pc = some ((153, a, 0), 3)) (kt : x = 0 → xw G d M a lo st σ Q) (kf : ¬ x = 0 → xw G d M (pc + 3) lo st σ Q) : xw G d M pc lo (.int x :: st) σ Q := by
  by_cases hP : x = 0
  · exact xw.of_step (fun p e R s m args below meth c H locs cells slots Qw ls hx hb ho hts hK ht hr hl k => lv_if_eq (tgt := a) hx hb (ht _ (xlook hd)).1 (by omega) (fun _ => k ls hl) (fun h => absurd hP h)) (kt hP)
  · exact xw.of_step (fun p e R s m args below meth c H locs cells slots Qw ls hx hb ho hts hK ht hr hl k => lv_if_eq (tgt := a) hx hb (ht _ (xlook hd)).1 (by omega) (fun h => absurd h hP) (fun _ => k ls hl)) (kf hP)
theorem xi_ifne {x : Int32} {a : Nat} (hd : M.2.2.2.2.lookup pc = some ((154, a, 0), 3)) (kt : ¬ x = 0 → xw G d M a lo st σ Q) (kf : x = 0 → xw G d M (pc + 3) lo st σ Q) : xw G d M pc lo (.int x :: st) σ Q := by
  by_cases hP : ¬ x = 0
  · exact xw.of_step (fun p e R s m args below meth c H locs cells slots Qw ls hx hb ho hts hK ht hr hl k => lv_if_ne (tgt := a) hx hb (ht _ (xlook hd)).1 (by omega) (fun _ => k ls hl) (fun h => absurd h hP)) (kt hP)
  · exact xw.of_step (fun p e R s m args below meth c H locs cells slots Qw ls hx hb ho hts hK ht hr hl k => lv_if_ne (tgt := a) hx hb (ht _ (xlook hd)).1 (by omega) (fun h => absurd (Classical.not_not.mp hP) h) (fun _ => k ls hl)) (kf (Classical.not_not.mp hP))
theorem xi_iflt {x : Int32} {a : Nat} (hd : M.2.2.2.2.lookup pc = some ((155, a, 0), 3)) (kt : x < 0 → xw G d M a lo st σ Q) (kf : ¬ x < 0 → xw G d M (pc + 3) lo st σ Q) : xw G d M pc lo (.int x :: st) σ Q := by
  by_cases hP : x < 0
  · exact xw.of_step (fun p e R s m args below meth c H locs cells slots Qw ls hx hb ho hts hK ht hr hl k => lv_if_lt (tgt := a) hx hb (ht _ (xlook hd)).1 (by omega) (fun _ => k ls hl) (fun h => absurd hP h)) (kt hP)
  · exact xw.of_step (fun p e R s m args below meth c H locs cells slots Qw ls hx hb ho hts hK ht hr hl k => lv_if_lt (tgt := a) hx hb (ht _ (xlook hd)).1 (by omega) (fun h => absurd h hP) (fun _ => k ls hl)) (kf hP)
theorem xi_ifge {x : Int32} {a : Nat} (hd : M.2.2.2.2.lookup pc = some ((156, a, 0), 3)) (kt : 0 ≤ x → xw G d M a lo st σ Q) (kf : ¬ 0 ≤ x → xw G d M (pc + 3) lo st σ Q) : xw G d M pc lo (.int x :: st) σ Q := by
  by_cases hP : 0 ≤ x
  · exact xw.of_step (fun p e R s m args below meth c H locs cells slots Qw ls hx hb ho hts hK ht hr hl k => lv_if_ge (tgt := a) hx hb (ht _ (xlook hd)).1 (by omega) (fun _ => k ls hl) (fun h => absurd hP h)) (kt hP)
  · exact xw.of_step (fun p e R s m args below meth c H locs cells slots Qw ls hx hb ho hts hK ht hr hl k => lv_if_ge (tgt := a) hx hb (ht _ (xlook hd)).1 (by omega) (fun h => absurd h hP) (fun _ => k ls hl)) (kf hP)
theorem xi_ifgt {x : Int32} {a : Nat} (hd : M.2.2.2.2.lookup pc = some ((157, a, 0), 3)) (kt : 0 < x → xw G d M a lo st σ Q) (kf : ¬ 0 < x → xw G d M (pc + 3) lo st σ Q) : xw G d M pc lo (.int x :: st) σ Q := by
  by_cases hP : 0 < x
  · exact xw.of_step (fun p e R s m args below meth c H locs cells slots Qw ls hx hb ho hts hK ht hr hl k => lv_if_gt (tgt := a) hx hb (ht _ (xlook hd)).1 (by omega) (fun _ => k ls hl) (fun h => absurd hP h)) (kt hP)
  · exact xw.of_step (fun p e R s m args below meth c H locs cells slots Qw ls hx hb ho hts hK ht hr hl k => lv_if_gt (tgt := a) hx hb (ht _ (xlook hd)).1 (by omega) (fun h => absurd h hP) (fun _ => k ls hl)) (kf hP)
theorem xi_ifle {x : Int32} {a : Nat} (hd : M.2.2.2.2.lookup pc = some ((158, a, 0), 3)) (kt : x ≤ 0 → xw G d M a lo st σ Q) (kf : ¬ x ≤ 0 → xw G d M (pc + 3) lo st σ Q) : xw G d M pc lo (.int x :: st) σ Q := by
  by_cases hP : x ≤ 0
  · exact xw.of_step (fun p e R s m args below meth c H locs cells slots Qw ls hx hb ho hts hK ht hr hl k => lv_if_le (tgt := a) hx hb (ht _ (xlook hd)).1 (by omega) (fun _ => k ls hl) (fun h => absurd hP h)) (kt hP)
  · exact xw.of_step (fun p e R s m args below meth c H locs cells slots Qw ls hx hb ho hts hK ht hr hl k => lv_if_le (tgt := a) hx hb (ht _ (xlook hd)).1 (by omega) (fun h => absurd h hP) (fun _ => k ls hl)) (kf hP)
theorem xi_icmpeq {x y : Int32} {a : Nat} (hd : M.2.2.2.2.lookup pc = some ((159, a, 0), 3)) (kt : x = y → xw G d M a lo st σ Q) (kf : ¬ x = y → xw G d M (pc + 3) lo st σ Q) : xw G d M pc lo (.int y :: .int x :: st) σ Q := by
  by_cases hP : x = y
  · exact xw.of_step (fun p e R s m args below meth c H locs cells slots Qw ls hx hb ho hts hK ht hr hl k => lv_icmp_eq (tgt := a) hx hb (ht _ (xlook hd)).1 (by omega) (fun _ => k ls hl) (fun h => absurd hP h)) (kt hP)
  · exact xw.of_step (fun p e R s m args below meth c H locs cells slots Qw ls hx hb ho hts hK ht hr hl k => lv_icmp_eq (tgt := a) hx hb (ht _ (xlook hd)).1 (by omega) (fun h => absurd h hP) (fun _ => k ls hl)) (kf hP)
theorem xi_icmpne {x y : Int32} {a : Nat} (hd : M.2.2.2.2.lookup pc = some ((160, a, 0), 3)) (kt : ¬ x = y → xw G d M a lo st σ Q) (kf : x = y → xw G d M (pc + 3) lo st σ Q) : xw G d M pc lo (.int y :: .int x :: st) σ Q := by
  by_cases hP : ¬ x = y
  · exact xw.of_step (fun p e R s m args below meth c H locs cells slots Qw ls hx hb ho hts hK ht hr hl k => lv_icmp_ne (tgt := a) hx hb (ht _ (xlook hd)).1 (by omega) (fun _ => k ls hl) (fun h => absurd h hP)) (kt hP)
  · exact xw.of_step (fun p e R s m args below meth c H locs cells slots Qw ls hx hb ho hts hK ht hr hl k => lv_icmp_ne (tgt := a) hx hb (ht _ (xlook hd)).1 (by omega) (fun h => absurd (Classical.not_not.mp hP) h) (fun _ => k ls hl)) (kf (Classical.not_not.mp hP))
theorem xi_icmplt {x y : Int32} {a : Nat} (hd : M.2.2.2.2.lookup pc = some ((161, a, 0), 3)) (kt : x < y → xw G d M a lo st σ Q) (kf : ¬ x < y → xw G d M (pc + 3) lo st σ Q) : xw G d M pc lo (.int y :: .int x :: st) σ Q := by
  by_cases hP : x < y
  · exact xw.of_step (fun p e R s m args below meth c H locs cells slots Qw ls hx hb ho hts hK ht hr hl k => lv_icmp_lt (tgt := a) hx hb (ht _ (xlook hd)).1 (by omega) (fun _ => k ls hl) (fun h => absurd hP h)) (kt hP)
  · exact xw.of_step (fun p e R s m args below meth c H locs cells slots Qw ls hx hb ho hts hK ht hr hl k => lv_icmp_lt (tgt := a) hx hb (ht _ (xlook hd)).1 (by omega) (fun h => absurd h hP) (fun _ => k ls hl)) (kf hP)
theorem xi_icmpge {x y : Int32} {a : Nat} (hd : M.2.2.2.2.lookup pc = some ((162, a, 0), 3)) (kt : y ≤ x → xw G d M a lo st σ Q) (kf : ¬ y ≤ x → xw G d M (pc + 3) lo st σ Q) : xw G d M pc lo (.int y :: .int x :: st) σ Q := by
  by_cases hP : y ≤ x
  · exact xw.of_step (fun p e R s m args below meth c H locs cells slots Qw ls hx hb ho hts hK ht hr hl k => lv_icmp_ge (tgt := a) hx hb (ht _ (xlook hd)).1 (by omega) (fun _ => k ls hl) (fun h => absurd hP h)) (kt hP)
  · exact xw.of_step (fun p e R s m args below meth c H locs cells slots Qw ls hx hb ho hts hK ht hr hl k => lv_icmp_ge (tgt := a) hx hb (ht _ (xlook hd)).1 (by omega) (fun h => absurd h hP) (fun _ => k ls hl)) (kf hP)
theorem xi_icmpgt {x y : Int32} {a : Nat} (hd : M.2.2.2.2.lookup pc = some ((163, a, 0), 3)) (kt : y < x → xw G d M a lo st σ Q) (kf : ¬ y < x → xw G d M (pc + 3) lo st σ Q) : xw G d M pc lo (.int y :: .int x :: st) σ Q := by
  by_cases hP : y < x
  · exact xw.of_step (fun p e R s m args below meth c H locs cells slots Qw ls hx hb ho hts hK ht hr hl k => lv_icmp_gt (tgt := a) hx hb (ht _ (xlook hd)).1 (by omega) (fun _ => k ls hl) (fun h => absurd hP h)) (kt hP)
  · exact xw.of_step (fun p e R s m args below meth c H locs cells slots Qw ls hx hb ho hts hK ht hr hl k => lv_icmp_gt (tgt := a) hx hb (ht _ (xlook hd)).1 (by omega) (fun h => absurd h hP) (fun _ => k ls hl)) (kf hP)
theorem xi_icmple {x y : Int32} {a : Nat} (hd : M.2.2.2.2.lookup pc = some ((164, a, 0), 3)) (kt : x ≤ y → xw G d M a lo st σ Q) (kf : ¬ x ≤ y → xw G d M (pc + 3) lo st σ Q) : xw G d M pc lo (.int y :: .int x :: st) σ Q := by
  by_cases hP : x ≤ y
  · exact xw.of_step (fun p e R s m args below meth c H locs cells slots Qw ls hx hb ho hts hK ht hr hl k => lv_icmp_le (tgt := a) hx hb (ht _ (xlook hd)).1 (by omega) (fun _ => k ls hl) (fun h => absurd hP h)) (kt hP)
  · exact xw.of_step (fun p e R s m args below meth c H locs cells slots Qw ls hx hb ho hts hK ht hr hl k => lv_icmp_le (tgt := a) hx hb (ht _ (xlook hd)).1 (by omega) (fun h => absurd h hP) (fun _ => k ls hl)) (kf hP)
theorem xi_ifnull_r {x a : Nat} (hd : M.2.2.2.2.lookup pc = some ((198, a, 0), 3)) (k : xw G d M (pc + 3) lo st σ Q) : xw G d M pc lo (.ref x :: st) σ Q :=
  xw.of_step (fun p e R s m args below meth c H locs cells slots Qw ls hx hb ho hts hK ht hr hl k => lv_ifnull hx hb (ht _ (xlook hd)).1 (k ls hl)) k
theorem xi_ifnull_n {a : Nat} (hd : M.2.2.2.2.lookup pc = some ((198, a, 0), 3)) (k : xw G d M a lo st σ Q) : xw G d M pc lo (.null :: st) σ Q :=
  xw.of_step (fun p e R s m args below meth c H locs cells slots Qw ls hx hb ho hts hK ht hr hl k => lv_ifnullN hx hb (ht _ (xlook hd)).1 (by omega) (k ls hl)) k
theorem xi_ifnonnull_r {x a : Nat} (hd : M.2.2.2.2.lookup pc = some ((199, a, 0), 3)) (k : xw G d M a lo st σ Q) : xw G d M pc lo (.ref x :: st) σ Q :=
  xw.of_step (fun p e R s m args below meth c H locs cells slots Qw ls hx hb ho hts hK ht hr hl k => lv_ifnonnull hx hb (ht _ (xlook hd)).1 (by omega) (k ls hl)) k
theorem xi_ifnonnull_n {a : Nat} (hd : M.2.2.2.2.lookup pc = some ((199, a, 0), 3)) (k : xw G d M (pc + 3) lo st σ Q) : xw G d M pc lo (.null :: st) σ Q :=
  xw.of_step (fun p e R s m args below meth c H locs cells slots Qw ls hx hb ho hts hK ht hr hl k => lv_ifnonnullN hx hb (ht _ (xlook hd)).1 (k ls hl)) k
theorem xi_idiv {x y : Int32} (hd : M.2.2.2.2.lookup pc = some ((108, 0, 0), 1)) (hne : ¬ y = 0) (k : xw G d M (pc + 1) lo (.int (x / y) :: st) σ Q) : xw G d M pc lo (.int y :: .int x :: st) σ Q :=
  xw.of_step (fun p e R s m args below meth c H locs cells slots Qw ls hx hb ho hts hK ht hr hl k => lv_idiv hx hb (ht _ (xlook hd)).1 hne (k ls hl)) k
theorem xi_irem {x y : Int32} (hd : M.2.2.2.2.lookup pc = some ((112, 0, 0), 1)) (hne : ¬ y = 0) (k : xw G d M (pc + 1) lo (.int (x - x / y * y) :: st) σ Q) : xw G d M pc lo (.int y :: .int x :: st) σ Q :=
  xw.of_step (fun p e R s m args below meth c H locs cells slots Qw ls hx hb ho hts hK ht hr hl k => lv_irem hx hb (ht _ (xlook hd)).1 hne (k ls hl)) k
theorem xi_ldc {a : Nat} {v : Int32} (hd : M.2.2.2.2.lookup pc = some ((18, a, v), 2)) (hw : Cond.constant M.1.cls a v ∈ xGw) (k : xw G d M (pc + 2) lo (.int v :: st) σ Q) : xw G d M pc lo st σ Q :=
  xw.of_step (fun p e R s m args below meth c H locs cells slots Qw ls hx hb ho hts hK ht hr hl k => lv_ldc hx hb ho (hts _ hw) (ht _ (xlook hd)).1 (k ls hl)) k
theorem xi_iincw {a : Nat} {v x : Int32} (hd : M.2.2.2.2.lookup pc = some ((132, a, v), 6)) (hlo : lo[a]? = some (some (.int x))) (k : xw G d M (pc + 6) (lo.set a (some (.int (x + v)))) st σ Q) : xw G d M pc lo st σ Q :=
  xw.of_step (fun p e R s m args below meth c H locs cells slots Qw ls hx hb ho hts hK ht hr hl k => by
    have hn := hl.1
    obtain ⟨kk, hkk⟩ := List.getElem?_of_mem (xll_mem (q := (_, _)).mpr hlo)
    exact lv_iincW hx hb (ht _ (xlook hd)).1 hl.2.1 hkk (by simp) (by rw [← hn]; exact xlt hlo) rfl (fun ls' h' => k ls' (hl.put (by rw [← hn]; exact xlt hlo) rfl h'))) k
theorem xi_tableIn {dflt lw hi : Int} {offs : Array Int} {len : Nat} {x : Int32} {off : Int} {tgt : Nat} (hd : decode M.2.1 pc = .ok (.tableswitch dflt lw hi offs, len)) (h1 : ¬ x.toInt < lw) (h2 : ¬ hi < x.toInt) (hof : offs[(x.toInt - lw).toNat]? = some off) (htg : (pc : Int) + off = (tgt : Int)) (k : xw G d M tgt lo st σ Q) : xw G d M pc lo (.int x :: st) σ Q :=
  xw.of_step (fun p e R s m args below meth c H locs cells slots Qw ls hx hb ho hts hK ht hr hl k => lv_tableIn hx hb hd h1 h2 hof htg (k ls hl)) k
theorem xi_tableOut {dflt lw hi : Int} {offs : Array Int} {len : Nat} {x : Int32} {tgt : Nat} (hd : decode M.2.1 pc = .ok (.tableswitch dflt lw hi offs, len)) (h : x.toInt < lw ∨ hi < x.toInt) (htg : (pc : Int) + dflt = (tgt : Int)) (k : xw G d M tgt lo st σ Q) : xw G d M pc lo (.int x :: st) σ Q :=
  xw.of_step (fun p e R s m args below meth c H locs cells slots Qw ls hx hb ho hts hK ht hr hl k => lv_tableOut hx hb hd h htg (k ls hl)) k
theorem xi_lookup {dflt : Int} {ps : Array (Int × Int)} {len : Nat} {x : Int32} {off : Int} {tgt : Nat} (hd : decode M.2.1 pc = .ok (.lookupswitch dflt ps, len)) (hp : (ps.toList.zip (ps.toList.drop 1)).all (fun (a, next) => a.1 < next.1) = true) (hof : Op.lookupswitch.offset ps.toList dflt x.toInt = off) (htg : (pc : Int) + off = (tgt : Int)) (k : xw G d M tgt lo st σ Q) : xw G d M pc lo (.int x :: st) σ Q :=
  xw.of_step (fun p e R s m args below meth c H locs cells slots Qw ls hx hb ho hts hK ht hr hl k => lv_lookup hx hb hd hp hof htg (k ls hl)) k
theorem xi_ret_i (hd : M.2.2.2.2.lookup pc = some ((172, 0, 0), 1)) {x : Int32} {ty : FieldType} (hty : M.2.2.2.1 = some ty) (hn : narrow ty (.int x) = .int x) (hq : Q (some (.int x)) σ) : xw G d M pc lo [.int x] σ Q := by
  refine ⟨_, σ, hq, Nat.le_refl _, Nat.le_refl _, fun n0 s0 p e R s m args below meth c H locs ls C a1 a2 hr hf hl => ?_⟩
  obtain ⟨hx, hb, -, hre, hlk, -, -, -, -, -, -, -, -, ht, -⟩ := C
  exact W.zret hx hb (hre.trans hty) hn (fun t ht2 hW => ⟨rfl, by rw [ht2]; exact hr, fun q hq2 => by rw [ht2]; exact hf.1 q hq2⟩) hf.2 (ht _ (xlook hd)).1 hlk
theorem xi_ret_v (hd : M.2.2.2.2.lookup pc = some ((177, 0, 0), 1)) (hty : M.2.2.2.1 = none) (hq : Q (none) σ) : xw G d M pc lo [] σ Q := by
  refine ⟨_, σ, hq, Nat.le_refl _, Nat.le_refl _, fun n0 s0 p e R s m args below meth c H locs ls C a1 a2 hr hf hl => ?_⟩
  obtain ⟨hx, hb, -, hre, hlk, -, -, -, -, -, -, -, -, ht, -⟩ := C
  exact W.vret hx hb (hre.trans hty) (fun t ht2 hW => ⟨rfl, by rw [ht2]; exact hr, fun q hq2 => by rw [ht2]; exact hf.1 q hq2⟩) hf.2 (ht _ (xlook hd)).1 hlk
theorem xi_ret_a (hd : M.2.2.2.2.lookup pc = some ((176, 0, 0), 1)) {v : Value} {ty : FieldType} (hty : M.2.2.2.1 = some ty) (hn : (∃ n, ty = .object n) ∨ ∃ t, ty = .array t) (hv : v = .null ∨ ∃ a, v = .ref a) (hq : Q (some v) σ) : xw G d M pc lo [v] σ Q := by
  refine ⟨_, σ, hq, Nat.le_refl _, Nat.le_refl _, fun n0 s0 p e R s m args below meth c H locs ls C a1 a2 hr hf hl => ?_⟩
  obtain ⟨hx, hb, -, hre, hlk, -, -, -, -, -, -, -, -, ht, -⟩ := C
  exact W.aret hx hb (hre.trans hty) hn hv (fun t ht2 hW => ⟨rfl, by rw [ht2]; exact hr, fun q hq2 => by rw [ht2]; exact hf.1 q hq2⟩) hf.2 (ht _ (xlook hd)).1 hlk
end X2
