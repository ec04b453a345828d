/-! ROWS OF SPANS GROW: one more, the last one longer, none (pure) -/
abbrev snocS (s : SL) (x y : Nat) : SL := (s.1 + 1, updN s.2.1 s.1 x, updN s.2.2 s.1 y)
abbrev moreS (s : SL) (y : Nat) : SL := (s.1, s.2.1, updN s.2.2 (s.1 - 1) y)
theorem Rep.congr {p q : Nat → Bool} {n : Nat} {s : SL} (h : Rep p n s) (e : ∀ g : Nat, g < n → q g = p g) : Rep q n s := ⟨h.1, h.2.1, fun g hg => by rw [e g hg]; exact h.2.2 g hg⟩
theorem Rep.nil (p : Nat → Bool) (a b : Nat → Nat) : Rep p 0 (0, a, b) := ⟨fun k hk => absurd hk (Nat.not_lt_zero k), fun k hk => absurd hk (Nat.not_lt_zero k), fun g hg => absurd hg (Nat.not_lt_zero g)⟩
theorem Rep.has {p : Nat → Bool} {n k g : Nat} {s : SL} (h : Rep p n s) (hk : k < s.1) (h1 : s.2.1 k ≤ g) (h2 : g ≤ s.2.2 k) : p g = true := (h.2.2 g (by have := h.2.1 k hk; omega)).mpr ⟨k, hk, h1, h2⟩
/-- between two spans, before the first and behind the last there is none -/
theorem Rep.btw {p : Nat → Bool} {n k g : Nat} {s : SL} (h : Rep p n s) (hk : k + 1 < s.1) (h1 : s.2.2 k < g) (h2 : g < s.2.1 (k + 1)) : p g = false := by
  have h3 := h.2.1 (k + 1) hk
  have h4 := h.1 (k + 1) hk
  refine Bool.eq_false_iff.mpr fun q => ?_
  obtain ⟨j, hj, a1, a2⟩ := (h.2.2 g (by omega)).mp q
  rcases Nat.lt_trichotomy j k with r | r | r
  · have := h.mono r (by omega)
    have := h.1 k (by omega)
    omega
  · subst r
    omega
  · rcases Nat.lt_or_ge (k + 1) j with r2 | r2
    · have := h.mono r2 hj
      omega
    · have : j = k + 1 := by omega
      subst this
      omega
theorem Rep.bef {p : Nat → Bool} {n g : Nat} {s : SL} (h : Rep p n s) (hk : 0 < s.1) (h2 : g < s.2.1 0) : p g = false := by
  have h3 := h.2.1 0 hk
  have h4 := h.1 0 hk
  refine Bool.eq_false_iff.mpr fun q => ?_
  obtain ⟨j, hj, a1, a2⟩ := (h.2.2 g (by omega)).mp q
  rcases Nat.eq_zero_or_pos j with r | r
  · subst r
    omega
  · have := h.mono r hj
    omega
theorem Rep.aft {p : Nat → Bool} {n g : Nat} {s : SL} (h : Rep p n s) (hk : 0 < s.1) (h1 : s.2.2 (s.1 - 1) < g) (h2 : g < n) : p g = false := by
  refine Bool.eq_false_iff.mpr fun q => ?_
  obtain ⟨j, hj, a1, a2⟩ := (h.2.2 g h2).mp q
  rcases Nat.lt_or_ge j (s.1 - 1) with r | r
  · have := h.mono r (by omega)
    have := h.1 (s.1 - 1) (by omega)
    omega
  · have : j = s.1 - 1 := by omega
    subst this
    omega
theorem Rep.emp {p : Nat → Bool} {n g : Nat} {s : SL} (h : Rep p n s) (hk : s.1 = 0) (h2 : g < n) : p g = false := by
  refine Bool.eq_false_iff.mpr fun q => ?_
  obtain ⟨j, hj, -⟩ := (h.2.2 g h2).mp q
  omega
theorem Rep.skip {p : Nat → Bool} {n m : Nat} {s : SL} (h : Rep p n s) (hnm : n ≤ m) (h0 : ∀ g : Nat, n ≤ g → g < m → p g = false) : Rep p m s := by
  refine ⟨h.1, fun k hk => Nat.lt_of_lt_of_le (h.2.1 k hk) hnm, fun g hg => ?_⟩
  rcases Nat.lt_or_ge g n with q | q
  · exact h.2.2 g q
  · refine ⟨fun q2 => absurd q2 (by rw [h0 g q hg]; decide), ?_⟩
    rintro ⟨j, hj, a1, a2⟩
    have := h.2.1 j hj
    omega
theorem Rep.snoc {p : Nat → Bool} {n x y : Nat} {s : SL} (h : Rep p n s) (hnx : n ≤ x) (hxy : x ≤ y) (hy : y ≤ 200) (h0 : ∀ g : Nat, n ≤ g → g < x → p g = false) (h1 : ∀ g : Nat, x ≤ g → g ≤ y → p g = true) (h2 : 0 < x → p (x - 1) = false) : Rep p (y + 1) (snocS s x y) := by
  have h3 := h.skip hnx h0
  have hlt : ∀ k : Nat, k < s.1 → s.2.2 k + 2 ≤ x := fun k hk => by
    have e1 := h3.2.1 k hk
    have e2 := (h3.1 k hk).1
    by_cases e : s.2.2 k + 1 = x
    · exfalso
      have e3 := h3.has hk e2 (Nat.le_refl _)
      rw [show s.2.2 k = x - 1 by omega, h2 (by omega)] at e3
      cases e3
    · omega
  obtain ⟨m, a, b⟩ := s
  dsimp only at hlt
  refine ⟨fun k hk => ?_, fun k hk => ?_, fun g hg => ?_⟩
  · have hk : k < m + 1 := hk
    show updN a m x k ≤ updN b m y k ∧ updN b m y k ≤ 200 ∧ ∀ j : Nat, k < j → j < m + 1 → updN b m y k + 2 ≤ updN a m x j
    by_cases e : k = m
    · subst e
      rw [updN_s, updN_s]
      exact ⟨hxy, hy, fun j q1 q2 => by omega⟩
    · rw [updN_n _ _ e, updN_n _ _ e]
      have e1 := h3.1 k (show k < m by omega)
      refine ⟨e1.1, e1.2.1, fun j q1 q2 => ?_⟩
      by_cases e2 : j = m
      · subst e2
        rw [updN_s]
        exact hlt k q1
      · rw [updN_n _ _ e2]
        exact e1.2.2 j q1 (show j < m by omega)
  · have hk : k < m + 1 := hk
    show updN b m y k < y + 1
    by_cases e : k = m
    · subst e
      rw [updN_s]
      omega
    · rw [updN_n _ _ e]
      have := hlt k (by omega)
      omega
  · constructor
    · intro q
      rcases Nat.lt_or_ge g x with c | c
      · obtain ⟨j, hj, a1, a2⟩ := (h3.2.2 g c).mp q
        have hj : j < m := hj
        refine ⟨j, show j < m + 1 by omega, ?_, ?_⟩
        · show updN a m x j ≤ g
          rw [updN_n _ _ (by omega)]
          exact a1
        · show g ≤ updN b m y j
          rw [updN_n _ _ (by omega)]
          exact a2
      · refine ⟨m, show m < m + 1 by omega, ?_, ?_⟩
        · show updN a m x m ≤ g
          rw [updN_s]
          exact c
        · show g ≤ updN b m y m
          rw [updN_s]
          omega
    · rintro ⟨j, hj, a1, a2⟩
      have hj : j < m + 1 := hj
      have a1 : updN a m x j ≤ g := a1
      have a2 : g ≤ updN b m y j := a2
      by_cases e : j = m
      · subst e
        rw [updN_s] at a1 a2
        exact h1 g a1 a2
      · rw [updN_n _ _ e] at a1 a2
        exact h3.has (show j < m by omega) a1 a2
theorem Rep.more {p : Nat → Bool} {n y : Nat} {s : SL} (h : Rep p n s) (hs : 0 < s.1) (hl : s.2.2 (s.1 - 1) + 1 = n) (hny : n ≤ y + 1) (hy : y ≤ 200) (h1 : ∀ g : Nat, n ≤ g → g ≤ y → p g = true) : Rep p (y + 1) (moreS s y) := by
  obtain ⟨m, a, b⟩ := s
  dsimp only at hs hl
  refine ⟨fun k hk => ?_, fun k hk => ?_, fun g hg => ?_⟩
  · have hk : k < m := hk
    have e1 := h.1 k hk
    dsimp only at e1
    show a k ≤ updN b (m - 1) y k ∧ updN b (m - 1) y k ≤ 200 ∧ ∀ j : Nat, k < j → j < m → updN b (m - 1) y k + 2 ≤ a j
    by_cases e : k = m - 1
    · subst e
      rw [updN_s]
      exact ⟨by omega, hy, fun j q1 q2 => by omega⟩
    · rw [updN_n _ _ e]
      exact e1
  · have hk : k < m := hk
    show updN b (m - 1) y k < y + 1
    have e1 : b k < n := h.2.1 k hk
    by_cases e : k = m - 1
    · subst e
      rw [updN_s]
      omega
    · rw [updN_n _ _ e]
      omega
  · have e1 := h.1 (m - 1) (show m - 1 < m by omega)
    dsimp only at e1
    constructor
    · intro q
      rcases Nat.lt_or_ge g n with c | c
      · obtain ⟨j, hj, a1, a2⟩ := (h.2.2 g c).mp q
        have hj : j < m := hj
        have a2 : g ≤ b j := a2
        refine ⟨j, hj, a1, ?_⟩
        show g ≤ updN b (m - 1) y j
        by_cases e : j = m - 1
        · subst e
          rw [updN_s]
          omega
        · rw [updN_n _ _ e]
          exact a2
      · refine ⟨m - 1, show m - 1 < m by omega, show a (m - 1) ≤ g by omega, ?_⟩
        show g ≤ updN b (m - 1) y (m - 1)
        rw [updN_s]
        omega
    · rintro ⟨j, hj, a1, a2⟩
      have hj : j < m := hj
      have a1 : a j ≤ g := a1
      have a2 : g ≤ updN b (m - 1) y j := a2
      by_cases e : j = m - 1
      · subst e
        rcases Nat.lt_or_ge g n with c | c
        · exact h.has (s := (m, a, b)) hj a1 (show g ≤ b (m - 1) by omega)
        · rw [updN_s] at a2
          exact h1 g c a2
      · rw [updN_n _ _ e] at a2
        exact h.has (s := (m, a, b)) hj a1 a2
/-- how many grains: counted one by one, and span by span -/
def cntB (p : Nat → Bool) (n : Nat) : Nat := itr (fun g c => if p g = true then c + 1 else c) n 0
theorem cntB_y {p : Nat → Bool} {n : Nat} (h : p n = true) : cntB p (n + 1) = cntB p n + 1 := if_pos h
theorem cntB_n {p : Nat → Bool} {n : Nat} (h : ¬ p n = true) : cntB p (n + 1) = cntB p n := if_neg h
theorem cntB_le (p : Nat → Bool) (n : Nat) : cntB p n ≤ n := by
  induction n with
  | zero => exact Nat.le_refl _
  | succ n ih =>
    by_cases c : p n = true
    · rw [cntB_y c]
      omega
    · rw [cntB_n c]
      omega
theorem cntB_sum (p : Nat → Bool) (n : Nat) : ((cntB p n : Nat) : Int) = sumW (fun _ => 1) p n := by
  induction n with
  | zero => rfl
  | succ n ih =>
    by_cases c : p n = true
    · rw [cntB_y c, sumW_y c, ← ih]
      omega
    · rw [cntB_n c, sumW_n c, ih]
theorem cntB_ext {p q : Nat → Bool} {n : Nat} (h : ∀ g : Nat, g < n → p g = q g) : cntB p n = cntB q n := by
  induction n with
  | zero => rfl
  | succ n ih =>
    have h1 := ih fun g hg => h g (by omega)
    have h2 := h n (Nat.lt_succ_self n)
    by_cases c : p n = true
    · rw [cntB_y c, cntB_y (by rw [← h2]; exact c), h1]
    · rw [cntB_n c, cntB_n (by rw [← h2]; exact c), h1]
/-- the sum over the spans that Stones.count makes -/
def cntL (s : SL) (n : Nat) : Nat := itr (fun k c => c + (s.2.2 k - s.2.1 k + 1)) n 0
theorem cntL_s (s : SL) (n : Nat) : cntL s (n + 1) = cntL s n + (s.2.2 n - s.2.1 n + 1) := rfl
theorem cntL_spn {s : SL} (h : Sep s) {n : Nat} (hn : n ≤ s.1) : ((cntL s n : Nat) : Int) = spnW (fun _ => 1) s n := by
  induction n with
  | zero => rfl
  | succ n ih =>
    have h1 := h n (by omega)
    have h2 := ih (by omega)
    rw [spnW_s, ← h2, totW_one, totW_one, cntL_s]
    omega
theorem Rep.count {p : Nat → Bool} {n : Nat} {s : SL} (h : Rep p n s) : cntL s s.1 = cntB p n := by
  have h1 := cntL_spn h.1 (Nat.le_refl _)
  have h2 := cntB_sum p n
  rw [h.sum] at h2
  omega
