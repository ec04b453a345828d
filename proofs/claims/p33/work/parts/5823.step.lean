/-! STRETCHED -/
def srcN (tt g : Nat) : Nat := if g % (2 * tt) = 0 then 2 * (g / (2 * tt)) else 2 * (g / (2 * tt)) + 1
def stF (tt a : Nat) : Nat := if a % 2 = 0 then a * tt else (a - 1) * tt + 1
def stT (tt b : Nat) : Nat := if b % 2 = 0 then b * tt else (b + 1) * tt - 1
theorem tt_cases {tt : Nat} (h1 : 2 ≤ tt) (h2 : tt ≤ 10) : tt = 2 ∨ tt = 3 ∨ tt = 4 ∨ tt = 5 ∨ tt = 6 ∨ tt = 7 ∨ tt = 8 ∨ tt = 9 ∨ tt = 10 := by omega
theorem stF_le {tt a g : Nat} (h1 : 2 ≤ tt) (h2 : tt ≤ 10) : stF tt a ≤ g ↔ a ≤ srcN tt g := by
  unfold stF srcN
  rcases tt_cases h1 h2 with rfl | rfl | rfl | rfl | rfl | rfl | rfl | rfl | rfl <;> simp only [Nat.reduceMul] <;> split <;> split <;> omega
theorem stT_le {tt b g : Nat} (h1 : 2 ≤ tt) (h2 : tt ≤ 10) : g ≤ stT tt b ↔ srcN tt g ≤ b := by
  unfold stT srcN
  rcases tt_cases h1 h2 with rfl | rfl | rfl | rfl | rfl | rfl | rfl | rfl | rfl <;> simp only [Nat.reduceMul] <;> split <;> split <;> omega
theorem st_sep {tt a b : Nat} (h1 : 2 ≤ tt) (h2 : tt ≤ 10) (h : b + 2 ≤ a) : stT tt b + 2 ≤ stF tt a := by
  unfold stT stF
  rcases tt_cases h1 h2 with rfl | rfl | rfl | rfl | rfl | rfl | rfl | rfl | rfl <;> split <;> split <;> omega
theorem st_ft {tt a b : Nat} (h1 : 2 ≤ tt) (h2 : tt ≤ 10) (h : a ≤ b) : stF tt a ≤ stT tt b := by
  unfold stT stF
  rcases tt_cases h1 h2 with rfl | rfl | rfl | rfl | rfl | rfl | rfl | rfl | rfl <;> split <;> split <;> omega
theorem st_big {tt a : Nat} (h1 : 2 ≤ tt) (h2 : tt ≤ 10) (h : a ≤ 200) : a * tt ≤ 2000 ∧ (a - 1) * tt ≤ 2000 ∧ (a + 1) * tt ≤ 2010 := by
  rcases tt_cases h1 h2 with rfl | rfl | rfl | rfl | rfl | rfl | rfl | rfl | rfl <;> omega
abbrev stB (p : Nat → Bool) (tt : Nat) : Nat → Bool := fun g => p (srcN tt g)
def sfN (L : SL) (tt i : Nat) : Nat := if i = 0 then 0 else min 201 (stT tt (L.2.2 (i - 1)) + 1)
theorem sfN_0 (L : SL) (tt : Nat) : sfN L tt 0 = 0 := if_pos rfl
theorem sfN_s (L : SL) (tt i : Nat) : sfN L tt (i + 1) = min 201 (stT tt (L.2.2 i) + 1) := by
  unfold sfN
  rw [if_neg (Nat.succ_ne_zero i), Nat.add_sub_cancel]
section STS
variable {p : Nat → Bool} {L S : SL} {tt i : Nat}
theorem sf_no {g : Nat} (h : Rep p 201 L) (h1 : 2 ≤ tt) (h2 : tt ≤ 10) (hi : i < L.1) (a1 : sfN L tt i ≤ g) (a2 : g < stF tt (L.2.1 i)) (a3 : g < 201) : p (srcN tt g) = false := by
  have e2 : srcN tt g < L.2.1 i := Nat.lt_of_not_le fun q => absurd ((stF_le h1 h2).mpr q) (by omega)
  refine h.fr_no hi ?_ e2
  rcases Nat.eq_zero_or_pos i with e | e
  · subst e
    rw [frN_0]
    omega
  · obtain ⟨j, rfl⟩ : ∃ j : Nat, i = j + 1 := ⟨i - 1, by omega⟩
    rw [sfN_s] at a1
    rw [frN_s]
    have e3 : ¬ srcN tt g ≤ L.2.2 j := fun q => absurd ((stT_le h1 h2).mpr q) (by omega)
    omega
theorem st_y (h : Rep p 201 L) (h1 : 2 ≤ tt) (h2 : tt ≤ 10) (hi : i < L.1) (hS : Rep (stB p tt) (sfN L tt i) S) (hlt : stF tt (L.2.1 i) ≤ 200) : Rep (stB p tt) (sfN L tt (i + 1)) (snocS S (stF tt (L.2.1 i)) (min 200 (stT tt (L.2.2 i)))) := by
  have h0 := h.sp hi
  have h3 := st_ft h1 h2 h0.1
  have hle : sfN L tt i ≤ stF tt (L.2.1 i) ∧ (0 < stF tt (L.2.1 i) → sfN L tt i ≤ stF tt (L.2.1 i) - 1) := by
    rcases Nat.eq_zero_or_pos i with e | e
    · subst e
      rw [sfN_0]
      exact ⟨Nat.zero_le _, fun _ => Nat.zero_le _⟩
    · obtain ⟨j, rfl⟩ : ∃ j : Nat, i = j + 1 := ⟨i - 1, by omega⟩
      rw [sfN_s]
      have := st_sep h1 h2 (h.mono (show j < j + 1 by omega) hi)
      omega
  have h4 := hS.snoc (x := stF tt (L.2.1 i)) (y := min 200 (stT tt (L.2.2 i))) hle.1 (by omega) (by omega) (fun g a1 a2 => sf_no h h1 h2 hi a1 a2 (by omega)) (fun g a1 a2 => h.has hi ((stF_le h1 h2).mp a1) ((stT_le h1 h2).mp (by omega))) (fun a1 => sf_no h h1 h2 hi (hle.2 a1) (by omega) (by omega))
  rw [sfN_s]
  have e : min 201 (stT tt (L.2.2 i) + 1) = min 200 (stT tt (L.2.2 i)) + 1 := by omega
  rw [e]
  exact h4
theorem st_n (h : Rep p 201 L) (h1 : 2 ≤ tt) (h2 : tt ≤ 10) (hi : i < L.1) (hS : Rep (stB p tt) (sfN L tt i) S) (hlt : ¬ stF tt (L.2.1 i) ≤ 200) : Rep (stB p tt) (sfN L tt (i + 1)) S := by
  have h0 := h.sp hi
  have h3 := st_ft h1 h2 h0.1
  have hle : sfN L tt i ≤ 201 := by
    unfold sfN
    split <;> omega
  rw [sfN_s, show min 201 (stT tt (L.2.2 i) + 1) = 201 by omega]
  exact hS.skip hle fun g a1 a2 => sf_no h h1 h2 hi a1 (by omega) a2
theorem st_e (h : Rep p 201 L) (h1 : 2 ≤ tt) (h2 : tt ≤ 10) (hS : Rep (stB p tt) (sfN L tt L.1) S) : Rep (stB p tt) 201 S := by
  have hle : sfN L tt L.1 ≤ 201 := by
    unfold sfN
    split <;> omega
  refine hS.skip hle fun g a1 a2 => ?_
  have hsr : srcN tt g < 201 := by
    have e1 : srcN tt g ≤ 200 := (stT_le h1 h2).mp (by
      unfold stT
      rw [if_pos (by decide)]
      have : 200 * 2 ≤ 200 * tt := Nat.mul_le_mul (Nat.le_refl _) h1
      omega)
    omega
  refine h.fr_end ?_ hsr
  rcases Nat.eq_zero_or_pos L.1 with e | e
  · rw [e, frN_0]
    omega
  · rw [show L.1 = L.1 - 1 + 1 by omega, sfN_s] at a1
    rw [show L.1 = L.1 - 1 + 1 by omega, frN_s]
    have e3 : ¬ srcN tt g ≤ L.2.2 (L.1 - 1) := fun q => absurd ((stT_le h1 h2).mpr q) (by omega)
    omega
end STS
/-! CHANGED -/
theorem rep_nil {q : Nat → Bool} (a b : Nat → Nat) (h : ∀ g : Nat, g < 201 → q g = false) : Rep q 201 (0, a, b) := (Rep.nil q a b).skip (by omega) fun g _ hg => h g hg
theorem rep_one {q : Nat → Bool} (a b : Nat → Nat) {x y : Nat} (hxy : x ≤ y) (hy : y ≤ 200) (h : ∀ g : Nat, g < 201 → (q g = true ↔ x ≤ g ∧ g ≤ y)) : Rep q 201 (snocS (0, a, b) x y) := by
  have hn : ∀ g : Nat, g < 201 → ¬ (x ≤ g ∧ g ≤ y) → q g = false := fun g hg c => Bool.eq_false_iff.mpr fun q9 => c ((h g hg).mp q9)
  exact ((Rep.nil q a b).snoc (x := x) (y := y) (Nat.zero_le _) hxy hy (fun g _ a2 => hn g (by omega) (by omega)) (fun g a1 a2 => (h g (by omega)).mpr ⟨a1, a2⟩) (fun a1 => hn _ (by omega) (by omega))).skip (by omega) fun g a1 a2 => hn g a2 (by omega)
section CHG
variable {p q : Nat → Bool} {L S : SL} {i : Nat}
theorem q_no (e : ∀ j : Nat, j < 201 → q j = true → p j = true) {g : Nat} (hg : g < 201) (h : p g = false) : q g = false := Bool.eq_false_iff.mpr fun q9 => by
  rw [e g hg q9] at h
  cases h
def opX (a : Nat) : Nat := if a % 2 = 0 ∧ 0 < a then a + 1 else a
def opY (b : Nat) : Nat := if b % 2 = 0 ∧ b < 200 then b - 1 else b
abbrev opQ (p q : Nat → Bool) : Prop := ∀ j : Nat, j < 201 → (q j = true ↔ p j = true ∧ (j % 2 = 1 ∨ ((j = 0 ∨ p (j - 1) = true) ∧ (j = 200 ∨ p (j + 1) = true))))
theorem op_l (hq : opQ p q) {g : Nat} (hg : g < 201) (h0 : g % 2 = 0) (h1 : 0 < g) (h : p (g - 1) = false) : q g = false := Bool.eq_false_iff.mpr fun q9 => by
  obtain ⟨-, e | ⟨e | e, -⟩⟩ := (hq g hg).mp q9
  · omega
  · omega
  · rw [h] at e
    cases e
theorem op_r (hq : opQ p q) {g : Nat} (hg : g < 200) (h0 : g % 2 = 0) (h : p (g + 1) = false) : q g = false := Bool.eq_false_iff.mpr fun q9 => by
  obtain ⟨-, e | ⟨-, e | e⟩⟩ := (hq g (by omega)).mp q9
  · omega
  · omega
  · rw [h] at e
    cases e
theorem op_y (h : Rep p 201 L) (hq : opQ p q) (hi : i < L.1) (hS : Rep q (frN L i) S) (c1 : ¬ (opX (L.2.1 i) = 0 ∧ L.2.2 i = 0)) (c2 : ¬ (opY (L.2.2 i) = 200 ∧ L.2.1 i = 200)) (c3 : opX (L.2.1 i) ≤ opY (L.2.2 i)) : Rep q (frN L (i + 1)) (snocS S (opX (L.2.1 i)) (opY (L.2.2 i))) := by
  have h0 := h.sp hi
  have hf := h.fr_lt hi
  have hn := fun (g : Nat) (hg : g < 201) (h9 : p g = false) => q_no (fun j hj q9 => ((hq j hj).mp q9).1) hg h9
  have hx : L.2.1 i ≤ opX (L.2.1 i) ∧ (opX (L.2.1 i) = L.2.1 i ∨ (opX (L.2.1 i) = L.2.1 i + 1 ∧ L.2.1 i % 2 = 0 ∧ 0 < L.2.1 i)) ∧ (opX (L.2.1 i) = L.2.1 i → L.2.1 i % 2 = 0 → L.2.1 i = 0) := by
    unfold opX
    split <;> omega
  have hy : opY (L.2.2 i) ≤ L.2.2 i ∧ (opY (L.2.2 i) = L.2.2 i ∨ (opY (L.2.2 i) = L.2.2 i - 1 ∧ L.2.2 i % 2 = 0 ∧ L.2.2 i < 200)) ∧ (opY (L.2.2 i) = L.2.2 i → L.2.2 i % 2 = 0 → 200 ≤ L.2.2 i ∨ L.2.2 i = 0) := by
    unfold opY
    split <;> omega
  generalize opX (L.2.1 i) = x at *
  generalize opY (L.2.2 i) = y at *
  have ha : 0 < L.2.1 i → L.2.1 i % 2 = 0 → q (L.2.1 i) = false := fun a1 a2 => op_l hq (by omega) a2 a1 (h.prv hi a1)
  have h4 := hS.snoc (x := x) (y := y) (by omega) c3 (by omega) (fun g a1 a2 => by
    by_cases e : g = L.2.1 i
    · rw [e]
      exact ha (by omega) (by omega)
    · exact hn g (by omega) (h.fr_no hi a1 (by omega))) (fun g a1 a2 => (hq g (by omega)).mpr ⟨h.has hi (by omega) (by omega), by
    by_cases o : g % 2 = 1
    · exact Or.inl o
    · refine Or.inr ⟨?_, ?_⟩
      · by_cases e : g = L.2.1 i
        · left
          omega
        · right
          exact h.has hi (by omega) (by omega)
      · by_cases e : g = L.2.2 i
        · left
          omega
        · right
          exact h.has hi (by omega) (by omega)⟩) (fun a1 => by
    by_cases e : x = L.2.1 i
    · rw [e]
      exact hn _ (by omega) (h.prv hi (by omega))
    · rw [show x - 1 = L.2.1 i by omega]
      exact ha (by omega) (by omega))
  rw [frN_s]
  exact h4.skip (by omega) fun g a1 a2 => by
    have e : g = L.2.2 i := by omega
    rw [e]
    exact op_r hq (by omega) (by omega) (h.nxt hi (by omega))
theorem op_n (h : Rep p 201 L) (hq : opQ p q) (hi : i < L.1) (hS : Rep q (frN L i) S) (c : (opX (L.2.1 i) = 0 ∧ L.2.2 i = 0) ∨ (opY (L.2.2 i) = 200 ∧ L.2.1 i = 200) ∨ ¬ opX (L.2.1 i) ≤ opY (L.2.2 i)) : Rep q (frN L (i + 1)) S := by
  have h0 := h.sp hi
  have hf := h.fr_lt hi
  have he : L.2.1 i = L.2.2 i ∧ L.2.1 i % 2 = 0 := by
    unfold opX opY at c
    split at c <;> split at c <;> omega
  rw [frN_s]
  refine hS.skip (by omega) fun g a1 a2 => ?_
  by_cases e : g = L.2.1 i
  · rw [e]
    rcases Nat.eq_zero_or_pos (L.2.1 i) with z | z
    · exact op_r hq (by omega) he.2 (by rw [he.1]; exact h.nxt hi (by omega))
    · exact op_l hq (by omega) he.2 z (h.prv hi z)
  · exact q_no (fun j hj q9 => ((hq j hj).mp q9).1) (by omega) (h.fr_no hi a1 (by omega))
/-- closed -/
abbrev clQ (p q : Nat → Bool) : Prop := ∀ j : Nat, j < 201 → (q j = true ↔ p j = true ∨ (j % 2 = 0 ∧ ((0 < j ∧ p (j - 1) = true) ∨ p (j + 1) = true)))
def cfN (L : SL) (i : Nat) : Nat := if i = 0 then 0 else L.2.2 (i - 1) + L.2.2 (i - 1) % 2 + 1
theorem cfN_0 (L : SL) : cfN L 0 = 0 := if_pos rfl
theorem cfN_s (L : SL) (i : Nat) : cfN L (i + 1) = L.2.2 i + L.2.2 i % 2 + 1 := by
  unfold cfN
  rw [if_neg (Nat.succ_ne_zero i), Nat.add_sub_cancel]
theorem cl_no (h : Rep p 201 L) (hq : clQ p q) (hi : i < L.1) {g : Nat} (a1 : cfN L i ≤ g) (a2 : g + 1 < L.2.1 i ∨ (g < L.2.1 i ∧ g % 2 = 1)) : q g = false := by
  have h0 := h.sp hi
  have hfr : frN L i ≤ g ∧ (0 < i → g % 2 = 0 → frN L i < g) := by
    rcases Nat.eq_zero_or_pos i with e | e
    · subst e
      rw [frN_0]
      exact ⟨Nat.zero_le _, fun q9 => absurd q9 (Nat.lt_irrefl 0)⟩
    · obtain ⟨j, rfl⟩ : ∃ j : Nat, i = j + 1 := ⟨i - 1, by omega⟩
      rw [cfN_s] at a1
      rw [frN_s]
      exact ⟨by omega, fun _ _ => by omega⟩
  refine Bool.eq_false_iff.mpr fun q9 => ?_
  rcases (hq g (by omega)).mp q9 with e | ⟨e0, ⟨e1, e⟩ | e⟩
  · rw [h.fr_no hi hfr.1 (by omega)] at e
    cases e
  · rcases Nat.eq_zero_or_pos i with z | z
    · subst z
      rw [h.bef hi (by omega)] at e
      cases e
    · have := hfr.2 z e0
      rw [h.fr_no hi (by omega) (by omega)] at e
      cases e
  · rw [h.fr_no hi (by omega) (by omega)] at e
    cases e
theorem cl_in (h : Rep p 201 L) (hq : clQ p q) (hi : i < L.1) {g : Nat} (a1 : L.2.1 i - L.2.1 i % 2 ≤ g) (a2 : g ≤ L.2.2 i + L.2.2 i % 2) : q g = true := by
  have h0 := h.sp hi
  refine (hq g (by omega)).mpr ?_
  by_cases c1 : g < L.2.1 i
  · refine Or.inr ⟨by omega, Or.inr (h.has hi (by omega) (by omega))⟩
  · by_cases c2 : L.2.2 i < g
    · exact Or.inr ⟨by omega, Or.inl ⟨by omega, h.has hi (by omega) (by omega)⟩⟩
    · exact Or.inl (h.has hi (by omega) (by omega))
theorem cl_s (h : Rep p 201 L) (hq : clQ p q) (hi : i < L.1) (hS : Rep q (cfN L i) S) (hst : (i = 0 ∧ S.1 = 0) ∨ (0 < i ∧ 0 < S.1 ∧ S.2.2 (S.1 - 1) + 1 = cfN L i)) (c : ¬ (0 < S.1 ∧ L.2.1 i - L.2.1 i % 2 ≤ S.2.2 (S.1 - 1) + 1)) : Rep q (cfN L (i + 1)) (snocS S (L.2.1 i - L.2.1 i % 2) (L.2.2 i + L.2.2 i % 2)) := by
  have h0 := h.sp hi
  rw [cfN_s]
  refine hS.snoc ?_ (by omega) (by omega) (fun g a1 a2 => cl_no h hq hi a1 (by omega)) (fun g a1 a2 => cl_in h hq hi a1 a2) (fun a1 => cl_no h hq hi ?_ (by omega))
  · rcases hst with ⟨e, -⟩ | ⟨e1, e2, e3⟩
    · rw [e, cfN_0]
      exact Nat.zero_le _
    · omega
  · rcases hst with ⟨e, -⟩ | ⟨e1, e2, e3⟩
    · rw [e, cfN_0]
      exact Nat.zero_le _
    · omega
theorem cl_m (h : Rep p 201 L) (hq : clQ p q) (hi : i < L.1) (hS : Rep q (cfN L i) S) (hst : (i = 0 ∧ S.1 = 0) ∨ (0 < i ∧ 0 < S.1 ∧ S.2.2 (S.1 - 1) + 1 = cfN L i)) (c : 0 < S.1 ∧ L.2.1 i - L.2.1 i % 2 ≤ S.2.2 (S.1 - 1) + 1) : Rep q (cfN L (i + 1)) (moreS S (L.2.2 i + L.2.2 i % 2)) := by
  have h0 := h.sp hi
  have h1 : 0 < i ∧ S.2.2 (S.1 - 1) + 1 = cfN L i := by omega
  have h2 : cfN L i ≤ L.2.2 i + L.2.2 i % 2 + 1 := by
    have e1 : cfN L i = L.2.2 (i - 1) + L.2.2 (i - 1) % 2 + 1 := if_neg (by omega)
    have e2 : L.2.2 (i - 1) + 2 ≤ L.2.1 i := h.mono (by omega) hi
    omega
  rw [cfN_s]
  refine hS.more c.1 h1.2 h2 (by omega) fun g a1 a2 => cl_in h hq hi (by omega) a2
/-- points alone -/
abbrev loQ (p q : Nat → Bool) : Prop := ∀ j : Nat, j < 201 → (q j = true ↔ p j = true ∧ j % 2 = 0 ∧ ¬ (0 < j ∧ p (j - 1) = true) ∧ ¬ p (j + 1) = true)
theorem lo_y (h : Rep p 201 L) (hq : loQ p q) (h201 : p 201 = false) (hi : i < L.1) (hS : Rep q (frN L i) S) (c1 : L.2.1 i = L.2.2 i) (c2 : L.2.1 i % 2 = 0) : Rep q (frN L (i + 1)) (snocS S (L.2.1 i) (L.2.1 i)) := by
  have h0 := h.sp hi
  have hf := h.fr_lt hi
  have hn := fun (g : Nat) (hg : g < 201) (h9 : p g = false) => q_no (fun j hj q9 => ((hq j hj).mp q9).1) hg h9
  rw [frN_s, ← c1]
  refine hS.snoc hf.1 (Nat.le_refl _) (by omega) (fun g a1 a2 => hn g (by omega) (h.fr_no hi a1 a2)) (fun g a1 a2 => ?_) (fun a1 => hn _ (by omega) (h.prv hi a1))
  have e : g = L.2.1 i := by omega
  rw [e]
  refine (hq _ (by omega)).mpr ⟨h.has hi (by omega) (by omega), c2, fun ⟨a3, a4⟩ => ?_, fun a4 => ?_⟩
  · rw [h.prv hi a3] at a4
    cases a4
  · rw [c1] at a4
    by_cases e2 : L.2.2 i < 200
    · rw [h.nxt hi e2] at a4
      cases a4
    · rw [show L.2.2 i = 200 by omega, h201] at a4
      cases a4
theorem lo_n (h : Rep p 201 L) (hq : loQ p q) (hi : i < L.1) (hS : Rep q (frN L i) S) (c : ¬ (L.2.1 i = L.2.2 i ∧ L.2.1 i % 2 = 0)) : Rep q (frN L (i + 1)) S := by
  have h0 := h.sp hi
  have hf := h.fr_lt hi
  rw [frN_s]
  refine hS.skip (by omega) fun g a1 a2 => ?_
  by_cases e : g < L.2.1 i
  · exact q_no (fun j hj q9 => ((hq j hj).mp q9).1) (by omega) (h.fr_no hi a1 e)
  · refine Bool.eq_false_iff.mpr fun q9 => ?_
    obtain ⟨-, e1, e2, e3⟩ := (hq g (by omega)).mp q9
    by_cases c1 : L.2.1 i < g
    · exact e2 ⟨by omega, h.has hi (by omega) (by omega)⟩
    · exact e3 (h.has hi (by omega) (by omega))
/-- mirrored -/
def rfN (L : SL) (i : Nat) : Nat := if i = 0 then 0 else 201 - L.2.1 (L.1 - i)
theorem mi_s (h : Rep p 201 L) (hq : ∀ j : Nat, j < 201 → q j = p (200 - j)) (hi : i < L.1) (hS : Rep q (rfN L i) S) : Rep q (rfN L (i + 1)) (snocS S (200 - L.2.2 (L.1 - 1 - i)) (200 - L.2.1 (L.1 - 1 - i))) := by
  have h0 := h.sp (i := L.1 - 1 - i) (by omega)
  have hnx : ∀ g : Nat, L.2.2 (L.1 - 1 - i) < g → g < 201 → (i = 0 ∨ g < L.2.1 (L.1 - i)) → p g = false := fun g a1 a2 a3 => by
    rcases Nat.eq_zero_or_pos i with e | e
    · subst e
      exact h.aft (by omega) (by simpa using a1) a2
    · refine h.btw (k := L.1 - 1 - i) (by omega) a1 ?_
      rw [show L.1 - 1 - i + 1 = L.1 - i by omega]
      omega
  have hle : rfN L i ≤ 200 - L.2.2 (L.1 - 1 - i) := by
    unfold rfN
    by_cases e : i = 0
    · rw [if_pos e]
      omega
    · rw [if_neg e]
      have h9 := h.mono (i := L.1 - 1 - i) (j := L.1 - i) (by omega) (by omega)
      omega
  have e9 : rfN L (i + 1) = 200 - L.2.1 (L.1 - 1 - i) + 1 := by
    unfold rfN
    rw [if_neg (Nat.succ_ne_zero i), show L.1 - (i + 1) = L.1 - 1 - i by omega]
    omega
  rw [e9]
  refine hS.snoc hle (by omega) (by omega) (fun g a1 a2 => ?_) (fun g a1 a2 => ?_) (fun a1 => ?_)
  · rw [hq g (by omega)]
    refine hnx _ (by omega) (by omega) ?_
    unfold rfN at a1
    by_cases e : i = 0
    · exact Or.inl e
    · rw [if_neg e] at a1
      have := h.sp (i := L.1 - i) (by omega)
      omega
  · rw [hq g (by omega)]
    exact h.has (k := L.1 - 1 - i) (by omega) (by omega) (by omega)
  · rw [hq _ (by omega)]
    rw [show 200 - (200 - L.2.2 (L.1 - 1 - i) - 1) = L.2.2 (L.1 - 1 - i) + 1 by omega]
    exact h.nxt (by omega) (by omega)
theorem mi_e (h : Rep p 201 L) (hq : ∀ j : Nat, j < 201 → q j = p (200 - j)) (hS : Rep q (rfN L L.1) S) : Rep q 201 S := by
  have hle : rfN L L.1 ≤ 201 := by
    unfold rfN
    split <;> omega
  refine hS.skip hle fun g a1 a2 => ?_
  rw [hq g a2]
  unfold rfN at a1
  by_cases e : L.1 = 0
  · exact h.emp e (by omega)
  · rw [if_neg e, Nat.sub_self] at a1
    exact h.bef (by omega) (by have := h.sp (i := 0) (by omega); omega)
/-- one span alone is left -/
theorem on_y (h : Rep p 201 L) {m : Nat} (hq : ∀ j : Nat, j < 201 → (q j = true ↔ L.2.1 m ≤ j ∧ j ≤ L.2.2 m)) (hm : m < L.1) (hS : Rep q (frN L m) S) : Rep q (frN L (m + 1)) (snocS S (L.2.1 m) (L.2.2 m)) := by
  have h0 := h.sp hm
  have hf := h.fr_lt hm
  have hn : ∀ g : Nat, g < 201 → ¬ (L.2.1 m ≤ g ∧ g ≤ L.2.2 m) → q g = false := fun g hg c => Bool.eq_false_iff.mpr fun q9 => c ((hq g hg).mp q9)
  rw [frN_s]
  exact hS.snoc hf.1 h0.1 h0.2 (fun g a1 a2 => hn g (by omega) (by omega)) (fun g a1 a2 => (hq g (by omega)).mpr ⟨a1, a2⟩) (fun a1 => hn _ (by omega) (by omega))
theorem on_n (h : Rep p 201 L) {m : Nat} (hq : ∀ j : Nat, j < 201 → (q j = true ↔ L.2.1 m ≤ j ∧ j ≤ L.2.2 m)) (hm : m < L.1) (hi : i < L.1) (hne : i ≠ m) (hS : Rep q (frN L i) S) : Rep q (frN L (i + 1)) S := by
  have h0 := h.sp hi
  have h9 := h.sp hm
  have hf := h.fr_lt hi
  rw [frN_s]
  refine hS.skip (by omega) fun g a1 a2 => Bool.eq_false_iff.mpr fun q9 => ?_
  have e := (hq g (by omega)).mp q9
  rcases Nat.lt_or_ge i m with c | c
  · have := h.mono c hm
    omega
  · have c : m < i := by omega
    have e2 : L.2.2 m + 1 ≤ frN L i := by
      rw [show i = i - 1 + 1 by omega, frN_s]
      rcases Nat.lt_or_ge m (i - 1) with c2 | c2
      · have := h.mono c2 (by omega)
        have := h.sp (i := i - 1) (by omega)
        omega
      · rw [show i - 1 = m by omega]
        omega
    omega
theorem on_e (h : Rep p 201 L) {m : Nat} (hq : ∀ j : Nat, j < 201 → (q j = true ↔ L.2.1 m ≤ j ∧ j ≤ L.2.2 m)) (hm : m < L.1) (hS : Rep q (frN L L.1) S) : Rep q 201 S := by
  refine hS.skip (h.fr_le (Nat.le_refl _)) fun g a1 a2 => Bool.eq_false_iff.mpr fun q9 => ?_
  have e := (hq g a2).mp q9
  have e3 := h.fr_end a1 a2
  rw [h.has hm e.1 e.2] at e3
  cases e3
end CHG
