/-! ROWS OF SPANS: a set told by its spans; sums over sets (pure) -/
abbrev SL : Type := Nat × (Nat → Nat) × (Nat → Nat)
def updN (f : Nat → Nat) (k v : Nat) : Nat → Nat := fun j => if j = k then v else f j
theorem updN_s (f : Nat → Nat) (k v : Nat) : updN f k v k = v := if_pos rfl
theorem updN_n (f : Nat → Nat) {k j : Nat} (v : Nat) (h : j ≠ k) : updN f k v j = f j := if_neg h
def inS (s : SL) (g : Nat) : Prop := ∃ k : Nat, k < s.1 ∧ s.2.1 k ≤ g ∧ g ≤ s.2.2 k
/-- spans one behind the other, with gaps between -/
def Sep (s : SL) : Prop := ∀ k : Nat, k < s.1 → s.2.1 k ≤ s.2.2 k ∧ s.2.2 k ≤ 200 ∧ ∀ j : Nat, k < j → j < s.1 → s.2.2 k + 2 ≤ s.2.1 j
theorem Sep.two {s : SL} (h : Sep s) : ∀ k : Nat, k < s.1 → 2 * k ≤ s.2.1 k := by
  intro k
  induction k with
  | zero => intro _; omega
  | succ k ih =>
    intro hk
    have h1 := ih (by omega)
    have h2 := h k (by omega)
    have h3 := h2.2.2 (k + 1) (by omega) hk
    omega
theorem Sep.le {s : SL} (h : Sep s) : s.1 ≤ 101 := by
  by_cases c : s.1 = 0
  · omega
  · have h1 := h.two (s.1 - 1) (by omega)
    have h2 := h (s.1 - 1) (by omega)
    omega
/-- the grains p, below n, are those of the spans s -/
def Rep (p : Nat → Bool) (n : Nat) (s : SL) : Prop := Sep s ∧ (∀ k : Nat, k < s.1 → s.2.2 k < n) ∧ ∀ g : Nat, g < n → (p g = true ↔ inS s g)
/-- the spans of the grains p, from left to right -/
def spF (p : Nat → Bool) (g : Nat) (s : SL) : SL := if p g = true then (if 0 < g ∧ p (g - 1) = true then (s.1, s.2.1, updN s.2.2 (s.1 - 1) g) else (s.1 + 1, updN s.2.1 s.1 g, updN s.2.2 s.1 g)) else s
def spS (p : Nat → Bool) (n : Nat) : SL := itr (spF p) n (0, fun _ => 0, fun _ => 0)
theorem spS_0 (p : Nat → Bool) : spS p 0 = (0, fun _ => 0, fun _ => 0) := rfl
theorem spS_s (p : Nat → Bool) (n : Nat) : spS p (n + 1) = spF p n (spS p n) := rfl
theorem spF_n {p : Nat → Bool} {g : Nat} {s : SL} (h : ¬ p g = true) : spF p g s = s := if_neg h
theorem spF_x {p : Nat → Bool} {g : Nat} {s : SL} (h : p g = true) (h2 : 0 < g ∧ p (g - 1) = true) : spF p g s = (s.1, s.2.1, updN s.2.2 (s.1 - 1) g) := by
  unfold spF
  rw [if_pos h, if_pos h2]
theorem spF_b {p : Nat → Bool} {g : Nat} {s : SL} (h : p g = true) (h2 : ¬ (0 < g ∧ p (g - 1) = true)) : spF p g s = (s.1 + 1, updN s.2.1 s.1 g, updN s.2.2 s.1 g) := by
  unfold spF
  rw [if_pos h, if_neg h2]
theorem spS_ok (p : Nat → Bool) {n : Nat} (hn : n ≤ 201) : Rep p n (spS p n) ∧ (0 < n → p (n - 1) = true → 0 < (spS p n).1 ∧ (spS p n).2.2 ((spS p n).1 - 1) = n - 1) := by
  induction n with
  | zero =>
    rw [spS_0]
    exact ⟨⟨fun k hk => absurd hk (Nat.not_lt_zero k), fun k hk => absurd hk (Nat.not_lt_zero k), fun g hg => absurd hg (Nat.not_lt_zero g)⟩, fun h => absurd h (Nat.lt_irrefl 0)⟩
  | succ n ih =>
    obtain ⟨⟨h1, h2, h3⟩, h4⟩ := ih (by omega)
    rw [spS_s]
    generalize spS p n = s at h1 h2 h3 h4
    obtain ⟨m, a, b⟩ := s
    by_cases c : p n = true
    · by_cases c2 : 0 < n ∧ p (n - 1) = true
      · obtain ⟨h5, h6⟩ := h4 c2.1 c2.2
        rw [spF_x c c2]
        dsimp only at h1 h2 h3 h5 h6 ⊢
        have hb : ∀ k : Nat, k < m → k ≠ m - 1 → updN b (m - 1) n k = b k := fun k _ h => updN_n b n h
        refine ⟨⟨fun k hk => ?_, fun k hk => ?_, fun g hg => ?_⟩, fun _ _ => ⟨h5, ?_⟩⟩
        · have hk : k < m := hk
          have e1 := h1 k hk
          by_cases e : k = m - 1
          · subst e
            show a (m - 1) ≤ updN b (m - 1) n (m - 1) ∧ updN b (m - 1) n (m - 1) ≤ 200 ∧ _
            rw [updN_s]
            dsimp only at e1
            exact ⟨by omega, by omega, fun j h7 h8 => by have h8 : j < m := h8; omega⟩
          · show a k ≤ updN b (m - 1) n k ∧ updN b (m - 1) n k ≤ 200 ∧ ∀ j : Nat, k < j → j < m → updN b (m - 1) n k + 2 ≤ a j
            rw [updN_n b n e]
            exact e1
        · show updN b (m - 1) n k < n + 1
          have hk : k < m := hk
          by_cases e : k = m - 1
          · rw [e, updN_s]
            omega
          · rw [updN_n b n e]
            have : b k < n := h2 k hk
            omega
        · by_cases e : g = n
          · subst e
            refine ⟨fun _ => ⟨m - 1, by show m - 1 < m; omega, ?_, ?_⟩, fun _ => c⟩
            · show a (m - 1) ≤ g
              have e1 := (h1 (m - 1) (by dsimp only; omega)).1
              dsimp only at e1
              omega
            · show g ≤ updN b (m - 1) g (m - 1)
              rw [updN_s]
              exact Nat.le_refl _
          · refine (h3 g (by omega)).trans ⟨?_, ?_⟩
            · rintro ⟨k, hk, h7, h8⟩
              refine ⟨k, hk, h7, ?_⟩
              show g ≤ updN b (m - 1) n k
              by_cases e2 : k = m - 1
              · rw [e2, updN_s]
                omega
              · rw [updN_n b n e2]
                exact h8
            · rintro ⟨k, hk, h7, h8⟩
              refine ⟨k, hk, h7, ?_⟩
              have h8 : g ≤ updN b (m - 1) n k := h8
              show g ≤ b k
              by_cases e2 : k = m - 1
              · rw [e2]
                omega
              · rw [updN_n b n e2] at h8
                exact h8
        · show updN b (m - 1) n (m - 1) = n + 1 - 1
          rw [updN_s]
          omega
      · rw [spF_b c c2]
        dsimp only at h1 h2 h3 ⊢
        have hgap : ∀ k : Nat, k < m → b k + 2 ≤ n := fun k hk => by
          have e1 : b k < n := h2 k hk
          by_cases e : b k + 1 = n
          · exfalso
            refine c2 ⟨by omega, ?_⟩
            have e2 := (h1 k hk).1
            dsimp only at e2
            exact (h3 (n - 1) (by omega)).mpr ⟨k, hk, by show a k ≤ n - 1; omega, by show n - 1 ≤ b k; omega⟩
          · omega
        refine ⟨⟨fun k hk => ?_, fun k hk => ?_, fun g hg => ?_⟩, fun _ _ => ⟨Nat.succ_pos m, ?_⟩⟩
        · have hk : k < m + 1 := hk
          show updN a m n k ≤ updN b m n k ∧ updN b m n k ≤ 200 ∧ ∀ j : Nat, k < j → j < m + 1 → updN b m n k + 2 ≤ updN a m n j
          by_cases e : k = m
          · rw [e, updN_s, updN_s]
            exact ⟨Nat.le_refl _, by omega, fun j h7 h8 => by omega⟩
          · rw [updN_n a n e, updN_n b n e]
            have e1 := h1 k (show k < m by omega)
            refine ⟨e1.1, e1.2.1, fun j h7 h8 => ?_⟩
            by_cases e2 : j = m
            · rw [e2, updN_s]
              exact hgap k (by omega)
            · rw [updN_n a n e2]
              exact e1.2.2 j h7 (show j < m by omega)
        · have hk : k < m + 1 := hk
          show updN b m n k < n + 1
          by_cases e : k = m
          · rw [e, updN_s]
            omega
          · rw [updN_n b n e]
            have : b k < n := h2 k (show k < m by omega)
            omega
        · by_cases e : g = n
          · subst e
            refine ⟨fun _ => ⟨m, Nat.lt_succ_self m, ?_, ?_⟩, fun _ => c⟩
            · show updN a m g m ≤ g
              rw [updN_s]
              exact Nat.le_refl _
            · show g ≤ updN b m g m
              rw [updN_s]
              exact Nat.le_refl _
          · refine (h3 g (by omega)).trans ⟨?_, ?_⟩
            · rintro ⟨k, hk, h7, h8⟩
              have hk : k < m := hk
              refine ⟨k, show k < m + 1 by omega, ?_, ?_⟩
              · show updN a m n k ≤ g
                rw [updN_n a n (by omega)]
                exact h7
              · show g ≤ updN b m n k
                rw [updN_n b n (by omega)]
                exact h8
            · rintro ⟨k, hk, h7, h8⟩
              have hk : k < m + 1 := hk
              have h7 : updN a m n k ≤ g := h7
              have h8 : g ≤ updN b m n k := h8
              by_cases e2 : k = m
              · exfalso
                rw [e2, updN_s] at h7
                omega
              · rw [updN_n a n e2] at h7
                rw [updN_n b n e2] at h8
                exact ⟨k, show k < m by omega, h7, h8⟩
        · show updN b m n (m + 1 - 1) = n + 1 - 1
          rw [show m + 1 - 1 = m by omega, updN_s]
          omega
    · rw [spF_n c]
      refine ⟨⟨h1, fun k hk => Nat.lt_succ_of_lt (h2 k hk), fun g hg => ?_⟩, fun _ h => absurd h c⟩
      by_cases e : g = n
      · subst e
        refine ⟨fun h => absurd h c, ?_⟩
        rintro ⟨k, hk, h7, h8⟩
        exact absurd (h2 k hk) (by omega)
      · exact h3 g (by omega)
/-- spans are told by their grains -/
theorem Rep.start {p : Nat → Bool} {n : Nat} {s : SL} (h : Rep p n s) {k : Nat} (hk : k < s.1) : p (s.2.1 k) = true ∧ (0 < s.2.1 k → ¬ p (s.2.1 k - 1) = true) := by
  have h1 := h.1 k hk
  have h2 := h.2.1 k hk
  refine ⟨(h.2.2 _ (by omega)).mpr ⟨k, hk, Nat.le_refl _, h1.1⟩, fun h0 q => ?_⟩
  obtain ⟨j, hj, h3, h4⟩ := (h.2.2 _ (by omega)).mp q
  rcases Nat.lt_trichotomy j k with e | e | e
  · have := (h.1 j hj).2.2 k e hk
    omega
  · subst e
    omega
  · have := h1.2.2 j e hj
    omega
theorem Rep.stop {p : Nat → Bool} {n : Nat} {s : SL} (h : Rep p n s) {k : Nat} (hk : k < s.1) : p (s.2.2 k) = true ∧ (s.2.2 k + 1 < n → ¬ p (s.2.2 k + 1) = true) := by
  have h1 := h.1 k hk
  have h2 := h.2.1 k hk
  refine ⟨(h.2.2 _ h2).mpr ⟨k, hk, h1.1, Nat.le_refl _⟩, fun h0 q => ?_⟩
  obtain ⟨j, hj, h3, h4⟩ := (h.2.2 _ h0).mp q
  rcases Nat.lt_trichotomy j k with e | e | e
  · have := (h.1 j hj).2.2 k e hk
    omega
  · subst e
    omega
  · have := h1.2.2 j e hj
    omega
theorem Rep.uniq {p : Nat → Bool} {n : Nat} {s t : SL} (h : Rep p n s) (h2 : Rep p n t) : ∀ k : Nat, k < s.1 → k < t.1 ∧ s.2.1 k = t.2.1 k ∧ s.2.2 k = t.2.2 k := by
  intro k
  induction k using Nat.strongRecOn with
  | _ k ih =>
    intro hk
    have a1 := h.start hk
    have a2 := h.stop hk
    have a3 := h.1 k hk
    have a4 := h.2.1 k hk
    obtain ⟨j, hj, b1, b2⟩ := (h2.2.2 _ (by omega)).mp a1.1
    have c1 := h2.start hj
    have c2 := h2.stop hj
    have c3 := h2.1 j hj
    have c4 := h2.2.1 j hj
    -- the span of t that the beginning lies in
    have e1 : t.2.1 j = s.2.1 k := by
      rcases Nat.lt_or_ge (t.2.1 j) (s.2.1 k) with q | q
      · exfalso
        exact a1.2 (by omega) ((h2.2.2 _ (by omega)).mpr ⟨j, hj, by omega, by omega⟩)
      · omega
    have e2 : t.2.2 j = s.2.2 k := by
      rcases Nat.lt_trichotomy (t.2.2 j) (s.2.2 k) with q | q | q
      · exfalso
        exact c2.2 (by omega) ((h.2.2 _ (by omega)).mpr ⟨k, hk, by omega, by omega⟩)
      · exact q
      · exfalso
        exact a2.2 (by omega) ((h2.2.2 _ (by omega)).mpr ⟨j, hj, by omega, by omega⟩)
    have e3 : j = k := by
      rcases Nat.lt_trichotomy j k with q | q | q
      · exfalso
        obtain ⟨-, d1, d2⟩ := ih j q (by omega)
        have d3 := (h.1 j (by omega)).2.2 k q hk
        omega
      · exact q
      · exfalso
        -- the spans of t before j: k of them at least, those of s
        have d : ∃ i : Nat, i < s.1 ∧ s.2.1 i ≤ t.2.1 k ∧ t.2.1 k ≤ s.2.2 i := by
          have d0 := h2.1 k (by omega)
          have d1 := h2.2.1 k (by omega)
          exact (h.2.2 _ (by omega)).mp ((h2.2.2 _ (by omega)).mpr ⟨k, by omega, Nat.le_refl _, d0.1⟩)
        obtain ⟨i, hi, d1, d2⟩ := d
        have d3 := (h2.1 k (by omega)).2.2 j q hj
        have d4 := h2.1 k (by omega)
        rcases Nat.lt_or_ge i k with r | r
        · obtain ⟨-, f1, f2⟩ := ih i r hi
          have f3 := (h2.1 i (by omega)).2.2 k r (by omega)
          omega
        · rcases Nat.lt_or_ge k i with r2 | r2
          · have f3 := a3.2.2 i r2 hi
            omega
          · have f4 : i = k := by omega
            subst f4
            omega
    subst e3
    exact ⟨hj, e1.symm, e2.symm⟩
theorem Rep.uniqN {p : Nat → Bool} {n : Nat} {s t : SL} (h : Rep p n s) (h2 : Rep p n t) : s.1 = t.1 := by
  rcases Nat.lt_trichotomy s.1 t.1 with e | e | e
  · exact absurd (h2.uniq h s.1 e).1 (Nat.lt_irrefl _)
  · exact e
  · exact absurd (h.uniq h2 t.1 e).1 (Nat.lt_irrefl _)
/-- sums of weights: of all grains below n, of those that p has -/
def totW (w : Nat → Int) (n : Nat) : Int := itr (fun g c => c + w g) n 0
def sumW (w : Nat → Int) (p : Nat → Bool) (n : Nat) : Int := itr (fun g c => if p g = true then c + w g else c) n 0
def spnW (w : Nat → Int) (s : SL) (n : Nat) : Int := itr (fun k c => c + (totW w (s.2.2 k + 1) - totW w (s.2.1 k))) n 0
theorem totW_s (w : Nat → Int) (n : Nat) : totW w (n + 1) = totW w n + w n := rfl
theorem sumW_y {w : Nat → Int} {p : Nat → Bool} {n : Nat} (h : p n = true) : sumW w p (n + 1) = sumW w p n + w n := if_pos h
theorem sumW_n {w : Nat → Int} {p : Nat → Bool} {n : Nat} (h : ¬ p n = true) : sumW w p (n + 1) = sumW w p n := if_neg h
theorem spnW_s (w : Nat → Int) (s : SL) (n : Nat) : spnW w s (n + 1) = spnW w s n + (totW w (s.2.2 n + 1) - totW w (s.2.1 n)) := rfl
theorem sumW_all {w : Nat → Int} {p : Nat → Bool} {a : Nat} (d : Nat) (h : ∀ g : Nat, a ≤ g → g < a + d → p g = true) : sumW w p (a + d) = sumW w p a + (totW w (a + d) - totW w a) := by
  induction d with
  | zero => show sumW w p a = sumW w p a + (totW w a - totW w a); omega
  | succ d ih =>
    have h1 := ih fun g h1 h2 => h g h1 (by omega)
    have h2 : sumW w p (a + d + 1) = sumW w p (a + d) + w (a + d) := sumW_y (h (a + d) (by omega) (by omega))
    have h3 := totW_s w (a + d)
    show sumW w p (a + d + 1) = sumW w p a + (totW w (a + d + 1) - totW w a)
    omega
theorem sumW_none {w : Nat → Int} {p : Nat → Bool} {a : Nat} (d : Nat) (h : ∀ g : Nat, a ≤ g → g < a + d → ¬ p g = true) : sumW w p (a + d) = sumW w p a := by
  induction d with
  | zero => rfl
  | succ d ih =>
    have h1 := ih fun g h1 h2 => h g h1 (by omega)
    have h2 : sumW w p (a + d + 1) = sumW w p (a + d) := sumW_n (h (a + d) (by omega) (by omega))
    exact h2.trans h1
theorem Rep.mono {p : Nat → Bool} {n : Nat} {s : SL} (h : Rep p n s) {i j : Nat} (hij : i < j) (hj : j < s.1) : s.2.2 i + 2 ≤ s.2.1 j := (h.1 i (by omega)).2.2 j hij hj
theorem Rep.sumA {w : Nat → Int} {p : Nat → Bool} {n : Nat} {s : SL} (h : Rep p n s) : ∀ k : Nat, k < s.1 → sumW w p (s.2.1 k) = spnW w s k := by
  intro k
  induction k with
  | zero =>
    intro hk
    have h1 := h.2.1 0 hk
    have h2 := h.1 0 hk
    have e : sumW w p (0 + s.2.1 0) = sumW w p 0 := sumW_none _ fun g _ hg q => by
      obtain ⟨j, hj, h3, h4⟩ := (h.2.2 g (by omega)).mp q
      rcases Nat.eq_zero_or_pos j with e | e
      · subst e
        omega
      · have := h.mono e hj
        omega
    rw [Nat.zero_add] at e
    exact e
  | succ k ih =>
    intro hk
    have h0 := ih (by omega)
    have h1 := h.1 k (by omega)
    have h2 := h.2.1 (k + 1) hk
    have h3 := h.1 (k + 1) hk
    have h4 : s.2.2 k + 2 ≤ s.2.1 (k + 1) := h.mono (Nat.lt_succ_self k) hk
    have h5 := h.2.1 k (by omega)
    have e1 : sumW w p (s.2.1 k + (s.2.2 k + 1 - s.2.1 k)) = sumW w p (s.2.1 k) + (totW w (s.2.1 k + (s.2.2 k + 1 - s.2.1 k)) - totW w (s.2.1 k)) := sumW_all _ fun g g1 g2 => (h.2.2 g (by omega)).mpr ⟨k, by omega, g1, by omega⟩
    rw [show s.2.1 k + (s.2.2 k + 1 - s.2.1 k) = s.2.2 k + 1 by omega] at e1
    have e2 : sumW w p (s.2.2 k + 1 + (s.2.1 (k + 1) - (s.2.2 k + 1))) = sumW w p (s.2.2 k + 1) := sumW_none _ fun g g1 g2 q => by
      obtain ⟨j, hj, g3, g4⟩ := (h.2.2 g (by omega)).mp q
      rcases Nat.lt_trichotomy j k with r | r | r
      · have := h.mono r (by omega)
        omega
      · subst r
        omega
      · rcases Nat.lt_or_ge (k + 1) j with r2 | r2
        · have := h.mono r2 hj
          have := h.1 (k + 1) hk
          omega
        · have : j = k + 1 := by omega
          subst this
          omega
    rw [show s.2.2 k + 1 + (s.2.1 (k + 1) - (s.2.2 k + 1)) = s.2.1 (k + 1) by omega] at e2
    rw [e2, e1, h0, spnW_s]
/-- a sum over a set is that over its spans -/
theorem Rep.sum {w : Nat → Int} {p : Nat → Bool} {n : Nat} {s : SL} (h : Rep p n s) : sumW w p n = spnW w s s.1 := by
  by_cases c : s.1 = 0
  · have e : sumW w p (0 + n) = sumW w p 0 := sumW_none _ fun g _ hg q => by
      obtain ⟨j, hj, -, -⟩ := (h.2.2 g (by omega)).mp q
      omega
    rw [Nat.zero_add] at e
    rw [e, c]
    rfl
  · obtain ⟨m, hm⟩ : ∃ m : Nat, s.1 = m + 1 := ⟨s.1 - 1, by omega⟩
    have h0 := h.sumA (w := w) m (by omega)
    have h1 := h.1 m (by omega)
    have h2 := h.2.1 m (by omega)
    have e1 : sumW w p (s.2.1 m + (s.2.2 m + 1 - s.2.1 m)) = sumW w p (s.2.1 m) + (totW w (s.2.1 m + (s.2.2 m + 1 - s.2.1 m)) - totW w (s.2.1 m)) := sumW_all _ fun g g1 g2 => (h.2.2 g (by omega)).mpr ⟨m, by omega, g1, by omega⟩
    rw [show s.2.1 m + (s.2.2 m + 1 - s.2.1 m) = s.2.2 m + 1 by omega] at e1
    have e2 : sumW w p (s.2.2 m + 1 + (n - (s.2.2 m + 1))) = sumW w p (s.2.2 m + 1) := sumW_none _ fun g g1 g2 q => by
      obtain ⟨j, hj, g3, g4⟩ := (h.2.2 g (by omega)).mp q
      rcases Nat.lt_or_ge j m with r | r
      · have := h.mono r (by omega)
        omega
      · have : j = m := by omega
        subst this
        omega
    rw [show s.2.2 m + 1 + (n - (s.2.2 m + 1)) = n by omega] at e2
    rw [e2, e1, h0, hm, spnW_s]
theorem totW_one (n : Nat) : totW (fun _ => 1) n = n := by
  induction n with
  | zero => rfl
  | succ n ih => rw [totW_s, ih]; omega
theorem totW_odd (n : Nat) : totW (fun g => ((g % 2 : Nat) : Int)) n = ((n / 2 : Nat) : Int) := by
  induction n with
  | zero => rfl
  | succ n ih => rw [totW_s, ih]; omega
