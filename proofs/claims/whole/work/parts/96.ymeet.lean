theorem suit_iff {K : cV} {nd : Int32 × Int32 × Int32} (hz : nd.2.2 = 0 ∨ nd.2.2 = 1) : suit K nd = true ↔ K.1.1 = nd.1 ∧ (if nd.2.2 = 0 then K.1.2.1.toInt ≤ nd.2.1.toInt else K.1.2.1 = nd.2.1) := by
  unfold suit
  rcases hz with e | e
  · simp [e, i_le]
  · simp [e]
