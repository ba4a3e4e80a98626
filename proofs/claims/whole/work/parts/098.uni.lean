section X7
variable {G : xG} {d : Nat} {M M' : xM} {pc : Nat} {lo : xL} {st : List Value} {σ : xS} {Q Q' : Option Value → xS → Prop}
/-- getfield -/
theorem xg (cn : Nat) (hcn : xcn cn = M.1.cls) {idx a ci k : Nat} {fs : List Value} {v : Value} (hd : M.2.2.2.2.lookup pc = some ((180, idx, 0), 3)) (hf : (xfls cn).lookup idx = some (ci, k)) (ha : σ.1 a = some (ci, fs)) (hv : fs[k]? = some v) (kk : xw G d M (pc + 3) lo (v :: st) σ Q) : xw G d M pc lo (rf G a :: st) σ Q :=
  xi_get hd (by rw [← hcn]; exact xfls_ok hf) ha hv kk
/-- putfield; the state goes on under a new name -/
theorem xp (cn : Nat) (hcn : xcn cn = M.1.cls) {idx a ci k : Nat} {fs : List Value} {v : Value} (hd : M.2.2.2.2.lookup pc = some ((181, idx, 0), 3)) (hf : (xfls cn).lookup idx = some (ci, k)) (ha : σ.1 a = some (ci, fs)) (hfin : xFin ci k = false) (hn : narrow (xTy ci k) v = v) (hfit : fits (xTy ci k) v = true)
    (kk : ∀ σ1 : xS, σ1.1 a = some (ci, fs.set k v) → (∀ q, q ≠ a → σ1.1 q = σ.1 q) → σ1.2 = σ.2 → xw G d M (pc + 3) lo st σ1 Q) : xw G d M pc lo (v :: rf G a :: st) σ Q :=
  xi_put hd (by rw [← hcn]; exact xfls_ok hf) ha hfin hn hfit (kk _ (if_pos rfl) (fun q hq => if_neg hq) rfl)
theorem xpF {idx a ci k : Nat} {fs : List Value} {v : Value} (hd : M.2.2.2.2.lookup pc = some ((181, idx, 0), 3)) (hf : ∃ r : vw_C, vwCl[ci]? = some r ∧ k < r.2.2 ∧ (r.2.1 k).1 = M.1.cls ∧ Cond.fieldLink M.1.cls idx (r.2.1 k).1 (r.2.1 k).2.1 (r.2.1 k).2.2.1 ∈ xGw) (hini : M.1.name = "<init>") (ha : σ.1 a = some (ci, fs)) (hfin : xFin ci k = true) (hn : narrow (xTy ci k) v = v) (hfit : fits (xTy ci k) v = true)
    (kk : ∀ σ1 : xS, σ1.1 a = some (ci, fs.set k v) → (∀ q, q ≠ a → σ1.1 q = σ.1 q) → σ1.2 = σ.2 → xw G d M (pc + 3) lo st σ1 Q) : xw G d M pc lo (v :: rf G a :: st) σ Q :=
  xi_putF hd hf hini ha hfin hn hfit (kk _ (if_pos rfl) (fun q hq => if_neg hq) rfl)
theorem xsi {a : Nat} {i x : Int32} {vs : List Value} (hd : M.2.2.2.2.lookup pc = some ((79, 0, 0), 1)) (ha : σ.1 a = some (11, vs)) (h0 : ¬ i < 0) (hv : i.toNatClampNeg < vs.length) (kk : ∀ σ1 : xS, σ1.1 a = some (11, vs.set i.toNatClampNeg (.int x)) → (∀ q, q ≠ a → σ1.1 q = σ.1 q) → σ1.2 = σ.2 → xw G d M (pc + 1) lo st σ1 Q) : xw G d M pc lo (.int x :: .int i :: rf G a :: st) σ Q :=
  xi_iast hd ha h0 hv (kk _ (if_pos rfl) (fun q hq => if_neg hq) rfl)
theorem xsb {a : Nat} {i x : Int32} {vs : List Value} (hd : M.2.2.2.2.lookup pc = some ((84, 0, 0), 1)) (ha : σ.1 a = some (10, vs)) (h0 : ¬ i < 0) (hv : i.toNatClampNeg < vs.length) (kk : ∀ σ1 : xS, σ1.1 a = some (10, vs.set i.toNatClampNeg (.int x.toInt8.toInt32)) → (∀ q, q ≠ a → σ1.1 q = σ.1 q) → σ1.2 = σ.2 → xw G d M (pc + 1) lo st σ1 Q) : xw G d M pc lo (.int x :: .int i :: rf G a :: st) σ Q :=
  xi_bast hd ha h0 hv (kk _ (if_pos rfl) (fun q hq => if_neg hq) rfl)
theorem xsz {a : Nat} {i x : Int32} {vs : List Value} (hd : M.2.2.2.2.lookup pc = some ((84, 0, 0), 1)) (ha : σ.1 a = some (12, vs)) (h0 : ¬ i < 0) (hv : i.toNatClampNeg < vs.length) (hx1 : x &&& 1 = x) (kk : ∀ σ1 : xS, σ1.1 a = some (12, vs.set i.toNatClampNeg (.int x)) → (∀ q, q ≠ a → σ1.1 q = σ.1 q) → σ1.2 = σ.2 → xw G d M (pc + 1) lo st σ1 Q) : xw G d M pc lo (.int x :: .int i :: rf G a :: st) σ Q :=
  xi_zast hd ha h0 hv hx1 (kk _ (if_pos rfl) (fun q hq => if_neg hq) rfl)
theorem xsa {a b t : Nat} {i : Int32} {vs fs : List Value} (hd : M.2.2.2.2.lookup pc = some ((83, 0, 0), 1)) (ha : σ.1 a = some (t, vs)) (h1 : 13 ≤ t) (h2 : t ≤ 15) (hb' : σ.1 b = some (xel t, fs)) (h0 : ¬ i < 0) (hv : i.toNatClampNeg < vs.length) (kk : ∀ σ1 : xS, σ1.1 a = some (t, vs.set i.toNatClampNeg (rf G b)) → (∀ q, q ≠ a → σ1.1 q = σ.1 q) → σ1.2 = σ.2 → xw G d M (pc + 1) lo st σ1 Q) : xw G d M pc lo (rf G b :: .int i :: rf G a :: st) σ Q :=
  xi_aast hd ha h1 h2 hb' h0 hv (kk _ (if_pos rfl) (fun q hq => if_neg hq) rfl)
theorem xsn {a t : Nat} {i : Int32} {vs : List Value} (hd : M.2.2.2.2.lookup pc = some ((83, 0, 0), 1)) (ha : σ.1 a = some (t, vs)) (h1 : 13 ≤ t) (h2 : t ≤ 15) (h0 : ¬ i < 0) (hv : i.toNatClampNeg < vs.length) (kk : ∀ σ1 : xS, σ1.1 a = some (t, vs.set i.toNatClampNeg .null) → (∀ q, q ≠ a → σ1.1 q = σ.1 q) → σ1.2 = σ.2 → xw G d M (pc + 1) lo st σ1 Q) : xw G d M pc lo (.null :: .int i :: rf G a :: st) σ Q :=
  xi_aastN hd ha h1 h2 h0 hv (kk _ (if_pos rfl) (fun q hq => if_neg hq) rfl)
/-- a virtual call -/
theorem xcV (cn : Nat) (hcn : xcn cn = M.1.cls) {idx b ci n j : Nat} {fs As rest : List Value} (hd : M.2.2.2.2.lookup pc = some ((182, idx, 0), 3)) (hl : (xmls cn).lookup idx = some j) (hm : xm G d M' (rf G b :: As) σ Q') (hj : xmeth j = M') (hml : xml M' n) (hin : ∀ w ∈ [Cond.instanceMethod M'.1, Cond.selects M'.1.cls M'.1 M'.1], w ∈ xGw)
    (ha : σ.1 b = some (ci, fs)) (hc : ∃ r : vw_C, vwCl[ci]? = some r ∧ r.1 = M'.1.cls) (hn : As.length = n) (hst : st = As.reverse ++ rf G b :: rest) (hrest : (rest.map fun v => v.category).sum ≤ 8)
    (kk : ∀ v σ', Q' v σ' → xw G (d + 1) M (pc + 3) lo (v.toList ++ rest) σ' Q) : xw G (d + 1) M pc lo st σ Q :=
  xi_callV hd hml hin (by rw [← hcn, ← hj]; exact xmls_ok hl) hm ha hc hn hst hrest kk
theorem xcI (cn : Nat) (hcn : xcn cn = M.1.cls) {idx b n j : Nat} {As rest : List Value} (hd : M.2.2.2.2.lookup pc = some ((183, idx, 0), 3)) (hl : (xmls cn).lookup idx = some j) (hm : xm G d M' (rf G b :: As) σ Q') (hj : xmeth j = M') (hml : xml M' n) (hin : Cond.instanceMethod M'.1 ∈ xGw) (hret : M'.2.2.2.1 = none) (hini : M'.1.name = "<init>")
    (hn : As.length = n) (hst : st = As.reverse ++ rf G b :: rest) (hrest : (rest.map fun v => v.category).sum ≤ 8)
    (kk : ∀ v σ', Q' v σ' → xw G (d + 1) M (pc + 3) lo (v.toList ++ rest) σ' Q) : xw G (d + 1) M pc lo st σ Q :=
  xi_callI hd hret hini hml hin (by rw [← hcn, ← hj]; exact xmls_ok hl) hm hn hst hrest kk
theorem xcS (cn : Nat) (hcn : xcn cn = M.1.cls) {idx n j : Nat} {As rest : List Value} (hd : M.2.2.2.2.lookup pc = some ((184, idx, 0), 3)) (hl : (xmls cn).lookup idx = some j) (hm : xm G d M' As σ Q') (hj : xmeth j = M') (hml : xml M' n) (hin : Cond.static M'.1 ∈ xGw)
    (hn : As.length = n) (hst : st = As.reverse ++ rest) (hrest : (rest.map fun v => v.category).sum ≤ 8)
    (kk : ∀ v σ', Q' v σ' → xw G (d + 1) M (pc + 3) lo (v.toList ++ rest) σ' Q) : xw G (d + 1) M pc lo st σ Q :=
  xi_callS hd hml hin (by rw [← hcn, ← hj]; exact xmls_ok hl) hm hn hst hrest kk
end X7
