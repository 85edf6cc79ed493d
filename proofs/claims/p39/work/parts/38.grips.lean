theorem zge_self {n i : Nat} (h : n = i) : nI n ≤ nI i := by rw [h]; exact Int32.le_refl _
