theorem bst_c {n i : Nat} (h : n ≤ 100) (hi : i < 2 ^ 30) : nI 100 - nI n < nI i ↔ 100 - n < i := by
  rw [pk_sub h]
  exact nI_ltI (by omega) (by omega)
theorem nI_m1 {i : Nat} (h : i < 2 ^ 31) : ¬ nI i ≤ -1 := by
  intro q
  rw [Int32.le_iff_toInt_le, nI_toInt h] at q
  have h1 : (-1 : Int32).toInt = -1 := rfl
  omega
