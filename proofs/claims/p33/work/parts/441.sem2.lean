/-! WHAT THE CLASS'S ROWS OF GRAINS BECOME, the others -/
theorem hold_pB (f : Nat → Int32) (g : Nat) : holdZ f (nI g) = if pB f g = true then nI 1 else nI 0 := by
  rcases holdZ_01 f (nI g) with h | h
  · rw [h, if_neg]
    rw [pB_n.mpr h]
    decide
  · rw [h, if_pos (pB_y.mpr (by rw [h]; decide))]
theorem hold_eq {f g : Nat → Int32} {i : Nat} (h : pB f i = pB g i) : holdZ f (nI i) = holdZ g (nI i) := by rw [hold_pB, hold_pB, h]
/-- two rows with the same grains answer alike wherever they are asked -/
theorem hold_ext {f g : Nat → Int32} (h : ∀ j : Nat, j < 201 → pB f j = pB g j) : holdZ f = holdZ g := by
  funext x
  by_cases c1 : x < 0
  · rw [holdZ_neg c1, holdZ_neg c1]
  · obtain ⟨j, hj, rfl⟩ := nI_of c1
    rcases Nat.lt_or_ge j 201 with q | q
    · exact hold_eq (h j q)
    · rw [holdZ_out q hj, holdZ_out q hj]
theorem dropZ_h (f : Nat → Int32) (n : Nat) (hn : n ≤ 101) : ∀ j : Nat, j < 201 → pB (dropZ f n) j = if j % 2 = 0 ∧ j < 2 * n ∧ ¬ ((j = 0 ∨ pL f j = true) ∧ (j = 200 ∨ pB f (j + 1) = true)) then false else pB f j := by
  induction n with
  | zero =>
    intro j hj
    rw [if_neg (by omega)]
    rfl
  | succ n ih =>
    intro j hj
    have h := ih (by omega)
    have hL : pL (dropZ f n) (2 * n) = pL f (2 * n) := by
      unfold pL
      by_cases e : 2 * n = 0
      · rw [if_pos e, if_pos e]
      · rw [if_neg e, if_neg e, h (2 * n - 1) (by omega), if_neg (by omega)]
    have hR : pB (dropZ f n) (2 * n + 1) = pB f (2 * n + 1) := by
      rcases Nat.lt_or_ge (2 * n + 1) 201 with q | q
      · rw [h _ q, if_neg (by omega)]
      · rw [pB_out q (by omega), pB_out q (by omega)]
    have hc1 : (¬ holdZ (dropZ f n) (nI (2 * n) - nI 1) = 0) ↔ pL f (2 * n) = true := by
      rw [hold_left _ (by omega), hL]
      cases pL f (2 * n) <;> decide
    have hc2 : (¬ holdZ (dropZ f n) (nI (2 * n + 1)) = 0) ↔ pB f (2 * n + 1) = true := by
      rw [← hR]
      exact pB_y.symm
    have hc : ((2 * n = 0 ∨ ¬ holdZ (dropZ f n) (nI (2 * n) - nI 1) = 0) ∧ (2 * n = 200 ∨ ¬ holdZ (dropZ f n) (nI (2 * n + 1)) = 0)) ↔ ((2 * n = 0 ∨ pL f (2 * n) = true) ∧ (2 * n = 200 ∨ pB f (2 * n + 1) = true)) := by rw [hc1, hc2]
    rw [dropZ_s]
    by_cases c : (2 * n = 0 ∨ ¬ holdZ (dropZ f n) (nI (2 * n) - nI 1) = 0) ∧ (2 * n = 200 ∨ ¬ holdZ (dropZ f n) (nI (2 * n + 1)) = 0)
    · rw [if_pos c, h j hj]
      by_cases e : j = 2 * n
      · subst e
        rw [if_neg (by omega), if_neg]
        exact fun q => q.2.2 (hc.mp c)
      · by_cases e2 : j % 2 = 0 ∧ j < 2 * n ∧ ¬ ((j = 0 ∨ pL f j = true) ∧ (j = 200 ∨ pB f (j + 1) = true))
        · rw [if_pos e2, if_pos ⟨e2.1, by omega, e2.2.2⟩]
        · rw [if_neg e2, if_neg fun q => e2 ⟨q.1, by omega, q.2.2⟩]
    · rw [if_neg c, pB_wr (by omega) hj]
      by_cases e : j = 2 * n
      · subst e
        rw [if_pos rfl, if_pos ⟨by omega, by omega, fun q => c (hc.mpr q)⟩]
        decide
      · rw [if_neg e, h j hj]
        by_cases e2 : j % 2 = 0 ∧ j < 2 * n ∧ ¬ ((j = 0 ∨ pL f j = true) ∧ (j = 200 ∨ pB f (j + 1) = true))
        · rw [if_pos e2, if_pos ⟨e2.1, by omega, e2.2.2⟩]
        · rw [if_neg e2, if_neg fun q => e2 ⟨q.1, by omega, q.2.2⟩]
theorem dec_01 (f : Nat → Int32) (i : Nat) : decide (¬ holdZ f (nI i) = 0) = pB f i := rfl
theorem mirZ_h (f : Nat → Int32) (n : Nat) (hn : n ≤ 100) : ∀ j : Nat, j < 201 → pB (mirZ f n) j = if j < n ∨ 200 < j + n then pB f (200 - j) else pB f j := by
  induction n with
  | zero =>
    intro j hj
    rw [if_neg (by omega)]
    rfl
  | succ n ih =>
    intro j hj
    have h := ih (by omega)
    rw [mirZ_s, pk_sub (a := 200) (b := n) (by omega), pB_wr (by omega) hj, dec_01]
    by_cases e : j = 200 - n
    · rw [if_pos e, if_pos (by omega), h n (by omega), if_neg (by omega), show 200 - j = n by omega]
    · rw [if_neg e, pB_wr (by omega) hj, dec_01]
      by_cases e2 : j = n
      · rw [if_pos e2, if_pos (by omega), h (200 - n) (by omega), if_neg (by omega), e2]
      · rw [if_neg e2, h j hj]
        by_cases e3 : j < n ∨ 200 < j + n
        · rw [if_pos e3, if_pos (by omega)]
        · rw [if_neg e3, if_neg (by omega)]
theorem mirZ_a (f : Nat → Int32) {j : Nat} (hj : j < 201) : pB (mirZ f 100) j = pB f (200 - j) := by
  rw [mirZ_h f 100 (Nat.le_refl _) j hj]
  by_cases e : j < 100 ∨ 200 < j + 100
  · rw [if_pos e]
  · rw [if_neg e, show 200 - j = j by omega]
def bI (b : Bool) : Int32 := if b = true then nI 1 else nI 0
def joiB (x y : Bool) (k : Nat) : Bool := decide (¬ joiZ (bI x) (bI y) k = 0)
theorem jnZ_h (F : Nat → Nat → Int32) (to one other k : Nat) : ∀ j : Nat, j < 201 → pB (jnZ F to one other k 201) j = joiB (pB (F one) j) (pB (F other) j) k := by
  intro j hj
  have h := itr_h (G := fun i g => wrZ g (nI i) (joiZ (holdZ (va_up F to g one) (nI i)) (holdZ (va_up F to g other) (nI i)) k)) (val := fun i => joiB (pB (F one) i) (pB (F other) i) k) (F to) (n := 201) (fun i s hi hs j hj => by
    rw [pB_wr (by omega) hj]
    have h2 := hs i (by omega)
    rw [if_neg (Nat.lt_irrefl i)] at h2
    have h3 : ∀ q : Nat, holdZ (va_up F to s q) (nI i) = bI (pB (F q) i) := fun q => by
      by_cases e : q = to
      · rw [e, va_up_s, hold_pB, h2]
        rfl
      · rw [va_up_n _ _ e, hold_pB]
        rfl
    rw [h3, h3]
    rfl) j hj
  rw [if_pos hj] at h
  exact h
theorem movZ_h (F : Nat → Nat → Int32) {k : Nat} (d : Int32) (hk : k < 8) : ∀ j : Nat, j < 201 → pB (movZ (va_up F 8 (copyZ (F 8) (F k) 201)) k d 201) j = decide (¬ holdZ (F k) (nI j - d) = 0) := by
  intro j hj
  have h := itr_h (G := fun i g => wrZ g (nI i) (holdZ (va_up (va_up F 8 (copyZ (F 8) (F k) 201)) k g 8) (nI i - d))) (val := fun i => decide (¬ holdZ (F k) (nI i - d) = 0)) ((va_up F 8 (copyZ (F 8) (F k) 201)) k) (n := 201) (fun i s hi hs j hj => by
    rw [pB_wr (by omega) hj, va_up_n _ _ (show (8 : Nat) ≠ k by omega), va_up_s, hold_ext (copyZ_h (F 8) (F k))]) j hj
  rw [if_pos hj] at h
  exact h
theorem whrZ_h (g f : Nat → Int32) (lo hi : Int32) : ∀ j : Nat, j < 201 → pB (whrZ g f lo hi 201) j = (decide (¬ atV f (nI j) < lo) && decide (¬ hi < atV f (nI j))) := by
  intro j hj
  have h := itr_h (G := fun i s => wrZ s (nI i) (if atV f (nI i) < lo then nI 0 else if hi < atV f (nI i) then nI 0 else nI 1)) (val := fun i => decide (¬ atV f (nI i) < lo) && decide (¬ hi < atV f (nI i))) g (n := 201) (fun i s h1 hs j hj => by
    rw [pB_wr (by omega) hj]
    by_cases c1 : atV f (nI i) < lo
    · rw [if_pos c1, decide_eq_false (p := ¬ atV f (nI i) < lo) (fun q => q c1)]
      rfl
    · rw [if_neg c1, decide_eq_true (p := ¬ atV f (nI i) < lo) c1]
      by_cases c2 : hi < atV f (nI i)
      · rw [if_pos c2, decide_eq_false (p := ¬ hi < atV f (nI i)) (fun q => q c2)]
        rfl
      · rw [if_neg c2, decide_eq_true (p := ¬ hi < atV f (nI i)) c2]
        rfl) j hj
  rw [if_pos hj] at h
  exact h
/-- the grains that one grain becomes, stretched -/
def img (tt i g : Nat) : Prop := if i % 2 = 1 then (i - 1) * tt + 1 ≤ g ∧ g + 1 ≤ (i + 1) * tt else g = i * tt
theorem pstZ_h (f : Nat → Int32) {i tt : Nat} (hi : i < 201) (h1 : 2 ≤ tt) (h2 : tt ≤ 10) : ∀ g : Nat, g < 201 → (pB (pstZ f i tt) g = true ↔ img tt i g ∨ pB f g = true) := by
  intro g hg
  have hm2 : (i + 1) * tt ≤ 2010 := Nat.le_trans (Nat.mul_le_mul (show i + 1 ≤ 201 by omega) h2) (by decide)
  have hm3 : 2 ≤ (i + 1) * tt := Nat.le_trans (show 2 ≤ 1 * 2 by decide) (Nat.mul_le_mul (show 1 ≤ i + 1 by omega) h1)
  have hm4 : i * tt ≤ 2000 := Nat.le_trans (Nat.mul_le_mul (show i ≤ 200 by omega) h2) (by decide)
  unfold pstZ img
  by_cases c : i % 2 = 1
  · rw [if_pos c, if_pos c]
    generalize (i - 1) * tt = u
    generalize (i + 1) * tt = w at hm2 hm3
    by_cases e : u + 1 ≤ 201
    · rw [fillS_h f (nI 1) _ _ (by omega) g hg]
      by_cases e2 : u + 1 ≤ g ∧ g < u + 1 + (min (w - 1 + 1) 201 - (u + 1))
      · rw [if_pos e2]
        exact ⟨fun _ => Or.inl ⟨e2.1, by omega⟩, fun _ => by decide⟩
      · rw [if_neg e2]
        refine ⟨Or.inr, fun q => q.elim (fun q => absurd q (by omega)) id⟩
    · rw [show min (w - 1 + 1) 201 - (u + 1) = 0 by omega]
      show pB f g = true ↔ _
      exact ⟨Or.inr, fun q => q.elim (fun q => absurd q (by omega)) id⟩
  · rw [if_neg c, if_neg c]
    rcases Nat.lt_or_ge (i * tt) 201 with q | q
    · rw [pB_wr q hg]
      by_cases e : g = i * tt
      · rw [if_pos e]
        exact ⟨fun _ => Or.inl e, fun _ => by decide⟩
      · rw [if_neg e]
        exact ⟨Or.inr, fun q => q.elim (fun q => absurd q e) id⟩
    · rw [wrZ_o q (by omega)]
      exact ⟨Or.inr, fun q2 => q2.elim (fun q2 => absurd q2 (by omega)) id⟩
theorem strZ_h (F : Nat → Nat → Int32) {k tt : Nat} (hk : k < 8) (h1 : 2 ≤ tt) (h2 : tt ≤ 10) (n : Nat) (hn : n ≤ 201) : ∀ g : Nat, g < 201 → (pB (strZ (va_up F 8 (copyZ (F 8) (F k) 201)) k tt n) g = true ↔ ∃ i : Nat, i < n ∧ pB (F k) i = true ∧ img tt i g) := by
  induction n with
  | zero =>
    intro g hg
    rw [strZ_0, fillS_h _ _ _ _ (by omega) g hg, if_pos (by omega)]
    refine ⟨fun q => absurd q (by decide), ?_⟩
    rintro ⟨i, hi, -⟩
    exact absurd hi (Nat.not_lt_zero i)
  | succ n ih =>
    intro g hg
    have h := ih (by omega)
    have e8 : holdZ (va_up (va_up F 8 (copyZ (F 8) (F k) 201)) k (strZ (va_up F 8 (copyZ (F 8) (F k) 201)) k tt n) 8) (nI n) = holdZ (F k) (nI n) := by
      rw [va_up_n _ _ (show (8 : Nat) ≠ k by omega), va_up_s, hold_ext (copyZ_h (F 8) (F k))]
    rw [strZ_s, e8]
    by_cases c : holdZ (F k) (nI n) = 0
    · rw [if_pos c, h g hg]
      constructor
      · rintro ⟨i, hi, h3⟩
        exact ⟨i, by omega, h3⟩
      · rintro ⟨i, hi, h3, h4⟩
        refine ⟨i, ?_, h3, h4⟩
        rcases Nat.lt_or_ge i n with q | q
        · exact q
        · exfalso
          have : i = n := by omega
          subst this
          exact pB_y.mp h3 c
    · rw [if_neg c, pstZ_h _ (by omega) h1 h2 g hg, h g hg]
      constructor
      · rintro (q | ⟨i, hi, h3⟩)
        · exact ⟨n, Nat.lt_succ_self n, pB_y.mpr c, q⟩
        · exact ⟨i, by omega, h3⟩
      · rintro ⟨i, hi, h3, h4⟩
        rcases Nat.lt_or_ge i n with q | q
        · exact Or.inr ⟨i, q, h3, h4⟩
        · have : i = n := by omega
          subst this
          exact Or.inl h4
