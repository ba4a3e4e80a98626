/-- simple instructions up to the place stop, at most n -/
def xrunT (tb : List (Nat × xE)) (stop : Nat) : Nat → Nat → xL → List Value → Nat × xL × List Value
  | 0, pc, lo, st => (pc, lo, st)
  | n + 1, pc, lo, st => match tb.lookup pc with
    | none => (pc, lo, st)
    | some e => match x1 e pc lo st with
      | none => (pc, lo, st)
      | some (pc', lo', st') => if pc' = stop then (pc', lo', st') else xrunT tb stop n pc' lo' st'
theorem xrs (n : Nat) : List.replicate (n + 1) (none : Option Value) = none :: List.replicate n none := rfl
theorem xr0 : List.replicate 0 (none : Option Value) = [] := rfl
section X9
variable {G : xG} {d : Nat} {M : xM} {pc : Nat} {lo : xL} {st : List Value} {σ : xS} {Q : Option Value → xS → Prop}
theorem xto (stop n : Nat) {pc' : Nat} {lo' : xL} {st' : List Value} (h : xrunT M.2.2.2.2 stop n pc lo st = (pc', lo', st')) (k : xw G d M pc' lo' st' σ Q) : xw G d M pc lo st σ Q := by
  induction n generalizing pc lo st with
  | zero => cases h; exact k
  | succ n ih =>
    unfold xrunT at h
    split at h
    next => cases h; exact k
    next e he =>
      split at h
      next => cases h; exact k
      next q1 q2 q3 h1 =>
        split at h
        next => cases h; exact xw.of_step (x1_step he h1) k
        next => exact xw.of_step (x1_step he h1) (ih h)
theorem xm_at {As : List Value} (n : Nat) (hn : M.2.2.1 = n) (hp : plainName M.1.cls = true) (hlen : As.length ≤ n) (hcat : ∀ v ∈ As, v.category = 1) (ht : xtok M.2.1 M.2.2.2.2) (h : xw G d M 0 (xlo0 As n) [] σ Q) : xm G d M As σ Q := by
  subst hn
  exact xm_of hp hlen hcat ht h
end X9
