/-! RUNS: where the one begins and ends that a grain is in -/
def runR (f : Nat → Int32) : Nat → Nat → Nat
  | 0, g => g
  | n + 1, g => if holdZ f (nI (g + 1)) = 0 then g else runR f n (g + 1)
theorem runR_0 (f : Nat → Int32) (g : Nat) : runR f 0 g = g := rfl
theorem runR_s (f : Nat → Int32) (n g : Nat) : runR f (n + 1) g = if holdZ f (nI (g + 1)) = 0 then g else runR f n (g + 1) := rfl
def lrN (f : Nat → Int32) (g : Nat) : Nat := runR f (200 - g) g
def runL (f : Nat → Int32) : Nat → Nat
  | 0 => 0
  | g + 1 => if holdZ f (nI g) = 0 then g + 1 else runL f g
theorem runL_0 (f : Nat → Int32) : runL f 0 = 0 := rfl
theorem runL_s (f : Nat → Int32) (g : Nat) : runL f (g + 1) = if holdZ f (nI g) = 0 then g + 1 else runL f g := rfl
theorem runR_spec (f : Nat → Int32) (n : Nat) : ∀ g : Nat, g ≤ runR f n g ∧ runR f n g ≤ g + n ∧ (∀ j : Nat, g < j → j ≤ runR f n g → ¬ holdZ f (nI j) = 0) ∧ (runR f n g < g + n → holdZ f (nI (runR f n g + 1)) = 0) := by
  induction n with
  | zero =>
    intro g
    rw [runR_0]
    exact ⟨Nat.le_refl _, Nat.le_refl _, fun j h1 h2 => absurd h2 (by omega), fun h => absurd h (by omega)⟩
  | succ n ih =>
    intro g
    rw [runR_s]
    by_cases h : holdZ f (nI (g + 1)) = 0
    · rw [if_pos h]
      exact ⟨Nat.le_refl _, by omega, fun j h1 h2 => absurd h2 (by omega), fun _ => h⟩
    · rw [if_neg h]
      obtain ⟨h1, h2, h3, h4⟩ := ih (g + 1)
      refine ⟨by omega, by omega, fun j h5 h6 => ?_, fun h5 => h4 (by omega)⟩
      by_cases e : j = g + 1
      · rw [e]
        exact h
      · exact h3 j (by omega) h6
theorem lrN_spec (f : Nat → Int32) {g : Nat} (hg : g ≤ 200) : g ≤ lrN f g ∧ lrN f g ≤ 200 ∧ (∀ j : Nat, g < j → j ≤ lrN f g → ¬ holdZ f (nI j) = 0) ∧ (lrN f g < 200 → holdZ f (nI (lrN f g + 1)) = 0) := by
  obtain ⟨h1, h2, h3, h4⟩ := runR_spec f (200 - g) g
  unfold lrN
  exact ⟨h1, by omega, h3, fun h => h4 (by omega)⟩
theorem runL_spec (f : Nat → Int32) (g : Nat) : runL f g ≤ g ∧ (∀ j : Nat, runL f g ≤ j → j < g → ¬ holdZ f (nI j) = 0) ∧ (0 < runL f g → holdZ f (nI (runL f g - 1)) = 0) := by
  induction g with
  | zero =>
    rw [runL_0]
    exact ⟨Nat.le_refl _, fun j h1 h2 => absurd h2 (by omega), fun h => absurd h (by omega)⟩
  | succ g ih =>
    rw [runL_s]
    by_cases h : holdZ f (nI g) = 0
    · rw [if_pos h]
      exact ⟨Nat.le_refl _, fun j h1 h2 => absurd h2 (by omega), fun _ => h⟩
    · rw [if_neg h]
      obtain ⟨h1, h2, h3⟩ := ih
      refine ⟨by omega, fun j h5 h6 => ?_, h3⟩
      by_cases e : j = g
      · rw [e]
        exact h
      · exact h2 j h5 (by omega)
theorem dec_n {a b : Nat} (h : b + 1 = a) : nI a + (-1) = nI b := by
  subst h
  rw [← inc_1, Int32.add_assoc, show (Int32.ofInt 1 + (-1) : Int32) = 0 from by decide, Int32.add_zero]
