/-! PINS: as many as spans of one set; no more than spans of all; THICKER (pure) -/
/-- the ends of runs -/
def endB (p : Nat → Bool) (g : Nat) : Bool := p g && !p (g + 1)
theorem endB_y {p : Nat → Bool} {g : Nat} : endB p g = true ↔ p g = true ∧ p (g + 1) = false := by
  unfold endB
  cases p g <;> cases p (g + 1) <;> simp
theorem end_cnt (p : Nat → Bool) (n : Nat) : (spS p (n + 1)).1 = cntB (endB p) n + (if p n = true then 1 else 0) := by
  induction n with
  | zero =>
    rw [spS_s]
    by_cases c : p 0 = true
    · rw [spF_b c (by omega), if_pos c]
      rfl
    · rw [spF_n c, if_neg c]
      rfl
  | succ n ih =>
    rw [spS_s]
    by_cases c : p (n + 1) = true
    · have e : ¬ endB p n = true := fun q => by
        have := (endB_y.mp q).2
        rw [c] at this
        cases this
      rw [cntB_n e, if_pos c]
      by_cases c2 : p n = true
      · rw [spF_x c ⟨Nat.succ_pos n, c2⟩]
        show (spS p (n + 1)).1 = _
        rw [ih, if_pos c2]
      · rw [spF_b c (fun q => c2 q.2)]
        show (spS p (n + 1)).1 + 1 = _
        rw [ih, if_neg c2]
    · rw [spF_n c, if_neg c, ih]
      by_cases c2 : p n = true
      · rw [cntB_y (endB_y.mpr ⟨c2, Bool.eq_false_iff.mpr c⟩), if_pos c2]
      · rw [cntB_n (fun q => c2 (endB_y.mp q).1), if_neg c2]
theorem end_runs (f : Nat → Int32) : cntB (endB (pB f)) 201 = (runs f).1 := by
  have h := end_cnt (pB f) 200
  have e : (runs f).1 = (spS (pB f) (200 + 1)).1 := rfl
  have e2 : pB f (200 + 1) = false := pB_out (by omega) (by omega)
  rw [e, h]
  by_cases c : pB f 200 = true
  · rw [if_pos c]
    exact cntB_y (endB_y.mpr ⟨c, e2⟩)
  · rw [if_neg c]
    exact cntB_n fun q => c (endB_y.mp q).1
/-- a sum over the first m sets -/
def sumK (a : Nat → Nat) (m : Nat) : Nat := itr (fun k c => c + a k) m 0
theorem sumK_s (a : Nat → Nat) (m : Nat) : sumK a (m + 1) = sumK a m + a m := rfl
theorem sumK_le {a b : Nat → Nat} {m : Nat} (h : ∀ k : Nat, k < m → a k ≤ b k) : sumK a m ≤ sumK b m := by
  induction m with
  | zero => exact Nat.le_refl _
  | succ m ih =>
    have h1 := ih fun k hk => h k (by omega)
    have h2 := h m (Nat.lt_succ_self m)
    rw [sumK_s, sumK_s]
    omega
theorem sumK_lt {a b : Nat → Nat} {m k : Nat} (h : ∀ k : Nat, k < m → a k ≤ b k) (hk : k < m) (h2 : a k + 1 ≤ b k) : sumK a m + 1 ≤ sumK b m := by
  induction m with
  | zero => omega
  | succ m ih =>
    have h3 := h m (Nat.lt_succ_self m)
    rw [sumK_s, sumK_s]
    by_cases e : k = m
    · subst e
      have := sumK_le (a := a) (b := b) (m := k) fun j hj => h j (by omega)
      omega
    · have := ih (fun j hj => h j (by omega)) (by omega)
      omega
theorem sumK_e {a b : Nat → Nat} {m : Nat} (h : ∀ k : Nat, k < m → a k = b k) : sumK a m = sumK b m := by
  induction m with
  | zero => rfl
  | succ m ih => rw [sumK_s, sumK_s, ih fun k hk => h k (by omega), h m (Nat.lt_succ_self m)]
/-- no more pins than spans of all sets -/
theorem pin_le (F : Nat → Nat → Int32) (fam n : Nat) : ∃ c : Nat, (cpS F fam n).1 = nI c ∧ c ≤ sumK (fun k => cntB (endB (pB (F k))) n) 8 := by
  induction n with
  | zero => exact ⟨0, rfl, Nat.zero_le _⟩
  | succ n ih =>
    obtain ⟨c, h1, h2⟩ := ih
    have hmono : ∀ k : Nat, k < 8 → cntB (endB (pB (F k))) n ≤ cntB (endB (pB (F k))) (n + 1) := fun k _ => by
      by_cases q : endB (pB (F k)) n = true
      · rw [cntB_y q]
        omega
      · rw [cntB_n q]
        exact Nat.le_refl _
    rw [cpS_s]
    by_cases c0 : epZ F fam n (cpS F fam n).2 = 0
    · rw [if_pos c0]
      exact ⟨c, h1, Nat.le_trans h2 (sumK_le hmono)⟩
    · rw [if_neg c0]
      refine ⟨c + 1, by show (cpS F fam n).1 + 1 = _; rw [h1]; exact nI_1 _, ?_⟩
      have hex : ∃ k : Nat, k < 8 ∧ epP F fam n (cpS F fam n).2 k := Classical.byContradiction fun q => c0 (epZ_n fun k hk q2 => q ⟨k, hk, q2⟩)
      obtain ⟨k, hk, -, a2, a3, -⟩ := hex
      have he : endB (pB (F k)) n = true := endB_y.mpr ⟨pB_y.mpr a2, pB_n.mpr a3⟩
      have := sumK_lt (k := k) hmono hk (by rw [cntB_y he]; exact Nat.le_refl _)
      omega
theorem pin_all (F : Nat → Nat → Int32) : ∃ c : Nat, (cpS F 255 201).1 = nI c ∧ c ≤ sumK (fun k => (runs (F k)).1) 8 := by
  obtain ⟨c, h1, h2⟩ := pin_le F 255 201
  rw [sumK_e fun k _ => end_runs (F k)] at h2
  exact ⟨c, h1, h2⟩
/-- as many as spans of one set -/
theorem pin_one (F : Nat → Nat → Int32) {k : Nat} (hk : k < 8) (n : Nat) (hn : n ≤ 201) : (cpS F (2 ^ k) n).1 = nI (cntB (endB (pB (F k))) n) ∧ ((cpS F (2 ^ k) n).2 = -1 ∨ ∃ e : Nat, e < n ∧ (cpS F (2 ^ k) n).2 = nI e ∧ endB (pB (F k)) e = true) := by
  induction n with
  | zero => exact ⟨rfl, Or.inl rfl⟩
  | succ n ih =>
    obtain ⟨h1, h2⟩ := ih (by omega)
    rw [cpS_s]
    by_cases c : endB (pB (F k)) n = true
    · obtain ⟨a1, a2⟩ := endB_y.mp c
      have hr := runL_spec (F k) n
      have hl : ¬ nI (runL (F k) n) ≤ (cpS F (2 ^ k) n).2 := by
        rcases h2 with h2 | ⟨e, b1, b2, b3⟩
        · rw [h2]
          exact nI_m1 (by omega)
        · rw [b2, nI_leI (by omega) (by omega)]
          intro q
          obtain ⟨-, d2⟩ := endB_y.mp b3
          by_cases z : e + 1 = n
          · rw [z, a1] at d2
            cases d2
          · exact hr.2.1 (e + 1) (by omega) (by omega) (pB_n.mp d2)
      rw [epZ_y hk ⟨(two_fam hk hk).mpr rfl, pB_y.mp a1, pB_n.mp a2, hl⟩, if_neg (by decide), cntB_y c]
      exact ⟨by show (cpS F (2 ^ k) n).1 + 1 = _; rw [h1]; exact nI_1 _, Or.inr ⟨n, Nat.lt_succ_self n, rfl, c⟩⟩
    · have h0 : epZ F (2 ^ k) n (cpS F (2 ^ k) n).2 = nI 0 := epZ_n fun j hj q => by
        obtain ⟨b1, b2, b3, -⟩ := q
        have e := (two_fam hk hj).mp b1
        subst e
        exact c (endB_y.mpr ⟨pB_y.mpr b2, pB_n.mpr b3⟩)
      rw [h0, if_pos (show nI 0 = 0 from rfl), cntB_n c]
      exact ⟨h1, h2.imp id fun ⟨e, b1, b2⟩ => ⟨e, by omega, b2⟩⟩
theorem pin_self (F : Nat → Nat → Int32) {k : Nat} (hk : k < 8) : (cpS F (2 ^ k) 201).1 = nI (runs (F k)).1 := by rw [(pin_one F hk 201 (Nat.le_refl _)).1, end_runs]
/-- how many grains are m thick or more -/
def cthN (F : Nat → Nat → Int32) (fam m n : Nat) : Nat := itr (fun i c => if thkN F fam i 8 < m then c else c + 1) n 0
theorem cthN_s (F : Nat → Nat → Int32) (fam m n : Nat) : cthN F fam m (n + 1) = if thkN F fam n 8 < m then cthN F fam m n else cthN F fam m n + 1 := rfl
theorem cthZ_n (F : Nat → Nat → Int32) (fam : Nat) {m : Nat} (hm : m < 2 ^ 31) (n : Nat) : cthZ F fam (nI m) n = nI (cthN F fam m n) := by
  induction n with
  | zero => rfl
  | succ n ih =>
    have h := thkN_le F fam n 8
    rw [cthZ_s, cthN_s, ih, thkZ_n]
    by_cases c : thkN F fam n 8 < m
    · rw [if_pos ((nI_ltI (by omega) hm).mpr c), if_pos c]
    · rw [if_neg fun q => c ((nI_ltI (by omega) hm).mp q), if_neg c]
      exact nI_1 _
theorem cthN_0 (F : Nat → Nat → Int32) (fam n : Nat) : cthN F fam 0 n = n := by
  induction n with
  | zero => rfl
  | succ n ih => rw [cthN_s, if_neg (Nat.not_lt_zero _), ih]
theorem cthN_9 (F : Nat → Nat → Int32) (fam n : Nat) : cthN F fam 9 n = 0 := by
  induction n with
  | zero => rfl
  | succ n ih =>
    have h := thkN_le F fam n 8
    rw [cthN_s, if_pos (by omega), ih]
theorem cthN_le (F : Nat → Nat → Int32) (fam n : Nat) {a b : Nat} (h : a ≤ b) : cthN F fam b n ≤ cthN F fam a n ∧ cthN F fam a n ≤ n := by
  induction n with
  | zero => exact ⟨Nat.le_refl _, Nat.le_refl _⟩
  | succ n ih =>
    rw [cthN_s, cthN_s]
    split <;> split <;> omega
