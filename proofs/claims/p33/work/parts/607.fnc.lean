/-! FUNCTIONS: what the class tells of them (pure) -/
section FNC
variable {v : Nat → Int32} (hv : ∀ g : Nat, g < 201 → inL (v g))
theorem of0 (v : Nat → Int32) : ∃ c : Nat, c ≤ 201 ∧ facFv v 0 = nI c := by
  refine ⟨stpN v 200 + 1, by have := stpN_le v 200; omega, ?_⟩
  unfold facFv
  rw [if_pos rfl, stepsV_n v (Nat.le_refl 200)]
theorem of1 (v : Nat → Int32) : facFv v 1 = lstV v 0 201 := by
  unfold facFv
  rw [if_neg (by decide), if_pos rfl, show min 201 201 - 0 = 201 from rfl]
theorem of2 (v : Nat → Int32) : facFv v 2 = grtV v 0 201 := by
  unfold facFv
  rw [if_neg (by decide), if_neg (by decide), if_pos rfl, show min 201 201 - 0 = 201 from rfl]
theorem of3 (v : Nat → Int32) : facFv v 3 = fgrV v 200 := by
  unfold facFv
  rw [if_neg (by decide), if_neg (by decide), if_neg (by decide), if_pos rfl]
theorem of4 (v : Nat → Int32) : facFv v 4 = arwV v 0 100 := by
  unfold facFv
  rw [if_neg (by decide), if_neg (by decide), if_neg (by decide), if_neg (by decide)]
theorem grt_ok (hv : ∀ g : Nat, g < 201 → inL (v g)) : (∀ o : Nat, o < 201 → (v o).toInt ≤ (grtV v 0 201).toInt) ∧ ∃ o : Nat, o < 201 ∧ grtV v 0 201 = v o := by
  obtain ⟨h1, h2, -⟩ := grtV_h v 0 201 (by omega) hv
  obtain ⟨o, -, a2, a3⟩ := h2 (by omega)
  exact ⟨fun o ho => h1 o (by omega) (by omega), o, by omega, a3⟩
theorem lst_ok (hv : ∀ g : Nat, g < 201 → inL (v g)) : (∀ o : Nat, o < 201 → (lstV v 0 201).toInt ≤ (v o).toInt) ∧ ∃ o : Nat, o < 201 ∧ lstV v 0 201 = v o := by
  obtain ⟨h1, h2, -⟩ := lstV_h v 0 201 (by omega) hv
  obtain ⟨o, -, a2, a3⟩ := h2 (by omega)
  exact ⟨fun o ho => h1 o (by omega) (by omega), o, by omega, a3⟩
theorem of12 (hv : ∀ g : Nat, g < 201 → inL (v g)) : ¬ facFv v 2 < facFv v 1 := by
  obtain ⟨h1, -⟩ := grt_ok hv
  obtain ⟨h2, -⟩ := lst_ok hv
  rw [of1, of2, Int32.lt_iff_toInt_lt]
  have := h1 0 (by omega)
  have := h2 0 (by omega)
  omega
theorem fgr_ok (v : Nat → Int32) (n : Nat) (hn : n ≤ 200) : ∃ j : Nat, j ≤ n ∧ fgrV v n = nI j ∧ ∀ o : Nat, o ≤ n → (v o).toInt ≤ (v j).toInt := by
  induction n with
  | zero => exact ⟨0, Nat.le_refl _, rfl, fun o ho => by rw [show o = 0 by omega]; exact Int.le_refl _⟩
  | succ n ih =>
    obtain ⟨j, h1, h2, h3⟩ := ih (by omega)
    rw [fgrV_s, h2, atV_n (by omega), atV_n (by omega)]
    by_cases c : v (n + 1) ≤ v j
    · rw [if_pos c]
      rw [Int32.le_iff_toInt_le] at c
      refine ⟨j, by omega, rfl, fun o ho => ?_⟩
      by_cases e : o = n + 1
      · rw [e]
        exact c
      · exact h3 o (by omega)
    · rw [if_neg c]
      rw [Int32.le_iff_toInt_le] at c
      refine ⟨n + 1, Nat.le_refl _, rfl, fun o ho => ?_⟩
      by_cases e : o = n + 1
      · rw [e]
        exact Int.le_refl _
      · have := h3 o (by omega)
        omega
/-- the first grain with the greatest value: a grain, and its value is that -/
theorem of3_ok (hv : ∀ g : Nat, g < 201 → inL (v g)) : ∃ j : Nat, j < 201 ∧ facFv v 3 = nI j ∧ atV v (nI j) = facFv v 2 := by
  obtain ⟨j, h1, h2, h3⟩ := fgr_ok v 200 (Nat.le_refl _)
  obtain ⟨a1, o, a2, a3⟩ := grt_ok hv
  refine ⟨j, by omega, (of3 v).trans h2, ?_⟩
  rw [of2, atV_n (by omega)]
  have b1 := a1 j (by omega)
  have b2 := h3 o (by omega)
  rw [← a3] at b2
  exact Int32.toInt_inj.mp (by omega)
/-- areas as whole numbers -/
def areI (v : Nat → Int32) (q : Nat → Bool) (n : Nat) : Int := itr (fun i c => if q (2 * i + 1) = true then c + (v (2 * i + 1)).toInt else c) n 0
theorem areI_s (v : Nat → Int32) (q : Nat → Bool) (n : Nat) : areI v q (n + 1) = if q (2 * n + 1) = true then areI v q n + (v (2 * n + 1)).toInt else areI v q n := rfl
theorem areI_b (hv : ∀ g : Nat, g < 201 → inL (v g)) (q : Nat → Bool) {n : Nat} (hn : n ≤ 100) : -10000 * (n : Int) ≤ areI v q n ∧ areI v q n ≤ 10000 * (n : Int) := by
  induction n with
  | zero => exact ⟨Int.le_refl _, Int.le_refl _⟩
  | succ n ih =>
    obtain ⟨h1, h2⟩ := ih (by omega)
    have h3 := hv (2 * n + 1) (by omega)
    unfold inL at h3
    rw [areI_s]
    split <;> omega
theorem aro_t (hv : ∀ g : Nat, g < 201 → inL (v g)) (f : Nat → Int32) {n : Nat} (hn : n ≤ 100) : (aroV v f n).toInt = areI v (pB f) n := by
  induction n with
  | zero => rfl
  | succ n ih =>
    have h1 := areI_b hv (pB f) (n := n) (by omega)
    have h3 := hv (2 * n + 1) (by omega)
    unfold inL at h3
    rw [aroV_s, areI_s]
    by_cases c : holdZ f (nI (2 * n + 1)) = 0
    · rw [if_pos c, if_neg (by rw [pB_n.mpr c]; decide)]
      exact ih (by omega)
    · rw [if_neg c, if_pos (pB_y.mpr c), atV_n (by omega), Int32.toInt_add, ih (by omega)]
      exact Int.bmod_eq_of_le (by omega) (by omega)
theorem arw_t (hv : ∀ g : Nat, g < 201 → inL (v g)) {n : Nat} (hn : n ≤ 100) : (arwV v 0 n).toInt = areI v (fun _ => true) n := by
  induction n with
  | zero => rfl
  | succ n ih =>
    have h1 := areI_b hv (fun _ => true) (n := n) (by omega)
    have h3 := hv (2 * n + 1) (by omega)
    unfold inL at h3
    rw [arwV_s, areI_s, if_pos rfl, show 2 * (0 + n) + 1 = 2 * n + 1 by omega, atV_n (by omega), Int32.toInt_add, ih (by omega)]
    exact Int.bmod_eq_of_le (by omega) (by omega)
/-- between the least and the greatest value times the length: of what is in the set, and of all else -/
theorem are_in {lo hi : Int} (h : ∀ o : Nat, o < 201 → lo ≤ (v o).toInt ∧ (v o).toInt ≤ hi) (q : Nat → Bool) {n : Nat} (hn : n ≤ 100) : ∃ a : Nat, a ≤ n ∧ a = oddB q (2 * n + 1) ∧ lo * (a : Int) ≤ areI v q n ∧ areI v q n ≤ hi * (a : Int) ∧ lo * ((n : Int) - a) ≤ areI v (fun _ => true) n - areI v q n ∧ areI v (fun _ => true) n - areI v q n ≤ hi * ((n : Int) - a) := by
  induction n with
  | zero => exact ⟨0, Nat.le_refl _, (oddB_e q (n := 0) rfl).symm, by simp [areI, itr], by simp [areI, itr], by simp [areI, itr], by simp [areI, itr]⟩
  | succ n ih =>
    obtain ⟨a, h0, h1, h2, h3, h4, h5⟩ := ih (by omega)
    obtain ⟨b1, b2⟩ := h (2 * n + 1) (by omega)
    have e : oddB q (2 * (n + 1) + 1) = oddB q (2 * n + 1 + 1) := oddB_e _ (by omega)
    rw [e, oddB_s, ← h1, areI_s, areI_s, if_pos rfl]
    by_cases c : q (2 * n + 1) = true
    · rw [if_pos ⟨c, by omega⟩, if_pos c]
      refine ⟨a + 1, by omega, rfl, ?_, ?_, ?_, ?_⟩
      · rw [show (((a + 1 : Nat)) : Int) = (a : Int) + 1 by omega, Int.mul_add, Int.mul_one]
        omega
      · rw [show (((a + 1 : Nat)) : Int) = (a : Int) + 1 by omega, Int.mul_add, Int.mul_one]
        omega
      · rw [show ((n + 1 : Nat) : Int) - ((a + 1 : Nat) : Int) = (n : Int) - a by omega]
        omega
      · rw [show ((n + 1 : Nat) : Int) - ((a + 1 : Nat) : Int) = (n : Int) - a by omega]
        omega
    · rw [if_neg fun z => c z.1, if_neg c]
      refine ⟨a, by omega, rfl, h2, h3, ?_, ?_⟩
      · rw [show ((n + 1 : Nat) : Int) - (a : Int) = ((n : Int) - a) + 1 by omega, Int.mul_add, Int.mul_one]
        omega
      · rw [show ((n + 1 : Nat) : Int) - (a : Int) = ((n : Int) - a) + 1 by omega, Int.mul_add, Int.mul_one]
        omega
theorem mul_t {a : Nat} {x : Int32} (ha : a ≤ 100) (hx : inL x) : (nI a * x).toInt = (a : Int) * x.toInt := by
  rw [Int32.toInt_mul, nI_toInt (by omega)]
  unfold inL at hx
  have h1 : (a : Int) * x.toInt ≤ 100 * 10000 := by
    rcases Int.le_total 0 x.toInt with h | h
    · exact Int.le_trans (Int.mul_le_mul_of_nonneg_left hx.2 (by omega)) (by omega)
    · have := Int.mul_nonpos_of_nonneg_of_nonpos (a := (a : Int)) (b := x.toInt) (by omega) h
      omega
  have h2 : -(100 * 10000) ≤ (a : Int) * x.toInt := by
    rcases Int.le_total 0 x.toInt with h | h
    · have := Int.mul_nonneg (a := (a : Int)) (b := x.toInt) (by omega) h
      omega
    · have h3 : (a : Int) * (-10000) ≤ (a : Int) * x.toInt := Int.mul_le_mul_of_nonneg_left hx.1 (by omega)
      omega
  exact Int.bmod_eq_of_le (by omega) (by omega)
/-- the four comparisons of areas that the law makes -/
theorem are_ok (hv : ∀ g : Nat, g < 201 → inL (v g)) (f : Nat → Int32) : ∃ len : Nat, len ≤ 100 ∧ len = oddB (pB f) 201 ∧ ¬ nI len * facFv v 2 < aroV v f 100 ∧ ¬ aroV v f 100 < nI len * facFv v 1 ∧ ¬ (nI 100 - nI len) * facFv v 2 < facFv v 4 - aroV v f 100 ∧ ¬ facFv v 4 - aroV v f 100 < (nI 100 - nI len) * facFv v 1 := by
  obtain ⟨g1, go, g2, g3⟩ := grt_ok hv
  obtain ⟨l1, lo, l2, l3⟩ := lst_ok hv
  have hg : inL (grtV v 0 201) := by rw [g3]; exact hv go g2
  have hl : inL (lstV v 0 201) := by rw [l3]; exact hv lo l2
  obtain ⟨a, h0, h1, h2, h3, h4, h5⟩ := are_in (v := v) (lo := (lstV v 0 201).toInt) (hi := (grtV v 0 201).toInt) (fun o ho => ⟨l1 o ho, g1 o ho⟩) (pB f) (n := 100) (Nat.le_refl _)
  have b1 := areI_b hv (pB f) (n := 100) (Nat.le_refl _)
  have b2 := areI_b hv (fun _ => true) (n := 100) (Nat.le_refl _)
  have e1 := aro_t hv f (n := 100) (Nat.le_refl _)
  have e2 := arw_t hv (n := 100) (Nat.le_refl _)
  have e3 : (arwV v 0 100 - aroV v f 100).toInt = areI v (fun _ => true) 100 - areI v (pB f) 100 := by
    rw [Int32.toInt_sub, e1, e2]
    exact Int.bmod_eq_of_le (by omega) (by omega)
  have e4 : nI 100 - nI a = nI (100 - a) := pk_sub h0
  refine ⟨a, h0, h1, ?_, ?_, ?_, ?_⟩
  · rw [of2, Int32.lt_iff_toInt_lt, mul_t h0 hg, e1, Int.mul_comm]
    omega
  · rw [of1, Int32.lt_iff_toInt_lt, mul_t h0 hl, e1, Int.mul_comm]
    omega
  · rw [of2, of4, e4, Int32.lt_iff_toInt_lt, mul_t (by omega) hg, e3, Int.mul_comm, show ((100 - a : Nat) : Int) = ((100 : Nat) : Int) - a by omega]
    omega
  · rw [of1, of4, e4, Int32.lt_iff_toInt_lt, mul_t (by omega) hl, e3, Int.mul_comm, show ((100 - a : Nat) : Int) = ((100 : Nat) : Int) - a by omega]
    omega
theorem bst_0 (v : Nat → Int32) : (bstV v 100 (100 - 100)).1 = nI 0 := rfl
end FNC
