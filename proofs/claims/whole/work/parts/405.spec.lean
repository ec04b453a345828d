theorem bst_c {n i : Nat} (h : n ≤ 100) (hi : i < 2 ^ 30) : nI 100 - nI n < nI i ↔ 100 - n < i := by
  rw [pk_sub h]
  exact nI_ltI (by omega) (by omega)
