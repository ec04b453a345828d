/-! WHAT THE CLASS'S ROWS OF GRAINS BECOME, grain by grain (pure) -/
theorem holdZ_neg {f : Nat → Int32} {g : Int32} (h : g < 0) : holdZ f g = nI 0 := by
  unfold holdZ
  rw [if_pos h]
theorem holdZ_big {f : Nat → Int32} {g : Int32} (h : nI 201 ≤ g) : holdZ f g = nI 0 := by
  unfold holdZ
  by_cases c : g < 0
  · rw [if_pos c]
  · rw [if_neg c, if_pos h]
theorem holdZ_out {f : Nat → Int32} {g : Nat} (h : 201 ≤ g) (h2 : g < 2 ^ 31) : holdZ f (nI g) = nI 0 := holdZ_big ((nI_leI (by decide) h2).mpr h)
theorem holdZ_01 (f : Nat → Int32) (g : Int32) : holdZ f g = nI 0 ∨ holdZ f g = nI 1 := by
  unfold holdZ
  split
  · exact Or.inl rfl
  · split
    · exact Or.inl rfl
    · split
      · exact Or.inl rfl
      · exact Or.inr rfl
/-- whether a set has a grain -/
def pB (f : Nat → Int32) (g : Nat) : Bool := decide (¬ holdZ f (nI g) = 0)
theorem pB_y {f : Nat → Int32} {g : Nat} : pB f g = true ↔ ¬ holdZ f (nI g) = 0 := by
  unfold pB
  exact decide_eq_true_iff
theorem pB_n {f : Nat → Int32} {g : Nat} : pB f g = false ↔ holdZ f (nI g) = 0 := by
  unfold pB
  rw [decide_eq_false_iff_not]
  exact Classical.not_not
theorem pB_out {f : Nat → Int32} {g : Nat} (h : 201 ≤ g) (h2 : g < 2 ^ 31) : pB f g = false := pB_n.mpr (holdZ_out h h2)
theorem pB_wr {f : Nat → Int32} {i g : Nat} {v : Int32} (hi : i < 201) (hg : g < 201) : pB (wrZ f (nI i) v) g = if g = i then decide (¬ v = 0) else pB f g := by
  unfold pB
  rw [wrZ_n hi, holdZ_n hg, holdZ_n hg]
  by_cases e : g = i
  · rw [if_pos e, e, pk_us]
    by_cases c : v = 0
    · have h1 : decide (¬ v = 0) = false := decide_eq_false fun q => q c
      rw [if_pos c, h1]
      decide
    · have h1 : decide (¬ v = 0) = true := decide_eq_true c
      rw [if_neg c, h1]
      decide
  · rw [if_neg e, pk_un e]
theorem wrZ_o {f : Nat → Int32} {i : Nat} {v : Int32} (hi : 201 ≤ i) (h2 : i < 2 ^ 31) : wrZ f (nI i) v = f := by
  unfold wrZ
  by_cases c : nI i < 0
  · rw [if_pos c]
  · rw [if_neg c, if_pos ((nI_leI (by decide) h2).mpr hi)]
theorem holdZ_v {f : Nat → Int32} {g : Nat} {v : Int32} (h : holdZ f (nI g) = v) : pB f g = decide (¬ v = 0) := by
  unfold pB
  rw [h]
/-- a part filled -/
theorem fillS_h (f : Nat → Int32) (v : Int32) (lo n : Nat) (hn : lo + n ≤ 201) : ∀ g : Nat, g < 201 → pB (fillS f v lo n).1 g = if lo ≤ g ∧ g < lo + n then decide (¬ v = 0) else pB f g := by
  induction n with
  | zero =>
    intro g hg
    rw [if_neg (by omega)]
    rfl
  | succ n ih =>
    intro g hg
    have h := ih (by omega)
    rw [fillS_s]
    by_cases c : holdZ (fillS f v lo n).1 (nI (lo + n)) = v
    · rw [if_pos c]
      by_cases e : g = lo + n
      · subst e
        rw [if_pos (by omega)]
        exact holdZ_v c
      · rw [h g hg]
        by_cases e2 : lo ≤ g ∧ g < lo + n
        · rw [if_pos e2, if_pos (by omega)]
        · rw [if_neg e2, if_neg (by omega)]
    · rw [if_neg c]
      show pB (wrZ (fillS f v lo n).1 (nI (lo + n)) v) g = _
      rw [pB_wr (by omega) hg]
      by_cases e : g = lo + n
      · subst e
        rw [if_pos rfl, if_pos (by omega)]
      · rw [if_neg e, h g hg]
        by_cases e2 : lo ≤ g ∧ g < lo + n
        · rw [if_pos e2, if_pos (by omega)]
        · rw [if_neg e2, if_neg (by omega)]
/-- how many grains of a part are not as they are to be -/
def chgN (p : Nat → Bool) (b : Bool) (lo n : Nat) : Nat := itr (fun k c => if p (lo + k) = b then c else c + 1) n 0
theorem chgN_s (p : Nat → Bool) (b : Bool) (lo n : Nat) : chgN p b lo (n + 1) = if p (lo + n) = b then chgN p b lo n else chgN p b lo n + 1 := rfl
theorem fillS_c (f : Nat → Int32) (v : Int32) (lo n : Nat) (hn : lo + n ≤ 201) (hv : v = nI 0 ∨ v = nI 1) : (fillS f v lo n).2 = nI (chgN (pB f) (decide (¬ v = 0)) lo n) := by
  induction n with
  | zero => rfl
  | succ n ih =>
    have h := ih (by omega)
    have h2 := fillS_h f v lo n (by omega) (lo + n) (by omega)
    rw [if_neg (by omega)] at h2
    rw [fillS_s, chgN_s]
    by_cases c : holdZ (fillS f v lo n).1 (nI (lo + n)) = v
    · rw [if_pos c, if_pos (by rw [← h2]; exact holdZ_v c)]
      exact h
    · rw [if_neg c, if_neg]
      · show (fillS f v lo n).2 + 1 = _
        rw [h]
        exact nI_1 _
      · rw [← h2]
        intro q
        refine c ?_
        rcases holdZ_01 (fillS f v lo n).1 (nI (lo + n)) with h8 | h8
        · rw [h8]
          rcases hv with hv | hv
          · exact hv.symm
          · exfalso
            rw [pB_n.mpr h8, hv] at q
            exact absurd q (by decide)
        · rw [h8]
          rcases hv with hv | hv
          · exfalso
            rw [pB_y.mpr (by rw [h8]; decide), hv] at q
            exact absurd q (by decide)
          · exact hv.symm
/-- grains changed one by one: what the row is when it is done -/
theorem itr_h {G : Nat → (Nat → Int32) → Nat → Int32} {val : Nat → Bool} (f : Nat → Int32) {n : Nat} (hG : ∀ (i : Nat) (s : Nat → Int32), i < n → (∀ j : Nat, j < 201 → pB s j = if j < i then val j else pB f j) → ∀ j : Nat, j < 201 → pB (G i s) j = if j = i then val i else pB s j) : ∀ g : Nat, g < 201 → pB (itr G n f) g = if g < n then val g else pB f g := by
  induction n with
  | zero =>
    intro g hg
    rw [if_neg (Nat.not_lt_zero g)]
    rfl
  | succ n ih =>
    intro g hg
    have h := ih fun i s hi => hG i s (by omega)
    rw [itr_s, hG n _ (Nat.lt_succ_self n) h g hg]
    by_cases e : g = n
    · subst e
      rw [if_pos rfl, if_pos (Nat.lt_succ_self g)]
    · rw [if_neg e, h g hg]
      by_cases e2 : g < n
      · rw [if_pos e2, if_pos (by omega)]
      · rw [if_neg e2, if_neg (by omega)]
theorem dec_hold (f : Nat → Int32) (x : Int32) : decide (¬ holdZ f x = 0) = decide (¬ holdZ f x = 0) := rfl
theorem copyZ_h (f g : Nat → Int32) : ∀ j : Nat, j < 201 → pB (copyZ f g 201) j = pB g j := by
  intro j hj
  have h := itr_h (G := fun i s => wrZ s (nI i) (holdZ g (nI i))) (val := fun i => pB g i) f (n := 201) (fun i s hi _ j hj => pB_wr (by omega) hj) j hj
  rw [if_pos hj] at h
  exact h
theorem invZ_h (f : Nat → Int32) : ∀ j : Nat, j < 201 → pB (invZ f 201) j = !pB f j := by
  intro j hj
  have h := itr_h (G := fun i s => wrZ s (nI i) (if holdZ s (nI i) = 0 then nI 1 else nI 0)) (val := fun i => !pB f i) f (n := 201) (fun i s hi hs j hj => by
    rw [pB_wr (by omega) hj]
    by_cases e : j = i
    · rw [if_pos e, if_pos e]
      have h2 := hs i (by omega)
      rw [if_neg (Nat.lt_irrefl i)] at h2
      rw [← h2]
      by_cases c : holdZ s (nI i) = 0
      · rw [if_pos c, pB_n.mpr c]
        decide
      · rw [if_neg c, pB_y.mpr c]
        decide
    · rw [if_neg e, if_neg e]) j hj
  rw [if_pos hj] at h
  exact h
theorem oddZ_h (f : Nat → Int32) (n : Nat) (hn : n ≤ 100) : ∀ j : Nat, j < 201 → pB (oddZ f n) j = if j % 2 = 1 ∧ j < 2 * n then false else pB f j := by
  induction n with
  | zero =>
    intro j hj
    rw [if_neg (by omega), oddZ_0]
  | succ n ih =>
    intro j hj
    rw [oddZ_s, pB_wr (by omega) hj, ih (by omega) j hj]
    by_cases e : j = 2 * n + 1
    · rw [if_pos e, if_pos (by omega)]
      decide
    · rw [if_neg e]
      by_cases e2 : j % 2 = 1 ∧ j < 2 * n
      · rw [if_pos e2, if_pos (by omega)]
      · rw [if_neg e2, if_neg (by omega)]
/-- whether a grain at the side of an even one is there; before the first there is none -/
def pL (f : Nat → Int32) (g : Nat) : Bool := if g = 0 then false else pB f (g - 1)
theorem hold_left (f : Nat → Int32) {g : Nat} (hg : g < 201) : holdZ f (nI g - nI 1) = 0 ↔ pL f g = false := by
  unfold pL
  by_cases e : g = 0
  · subst e
    rw [if_pos rfl]
    exact ⟨fun _ => rfl, fun _ => holdZ_neg (by decide)⟩
  · rw [if_neg e, pk_sub (by omega)]
    exact pB_n.symm
theorem edgZ_h (v : Int32) (f : Nat → Int32) (n : Nat) (hn : n ≤ 101) : ∀ j : Nat, j < 201 → pB (edgZ v f n) j = if j % 2 = 0 ∧ j < 2 * n ∧ (pL f j = true ∨ pB f (j + 1) = true) then decide (¬ v = 0) else pB f j := by
  induction n with
  | zero =>
    intro j hj
    rw [if_neg (by omega)]
    rfl
  | succ n ih =>
    intro j hj
    have h := ih (by omega)
    have hL : pL (edgZ v f n) (2 * n) = pL f (2 * n) := by
      unfold pL
      by_cases e : 2 * n = 0
      · rw [if_pos e, if_pos e]
      · rw [if_neg e, if_neg e, h (2 * n - 1) (by omega), if_neg (by omega)]
    have hR : pB (edgZ v f n) (2 * n + 1) = pB f (2 * n + 1) := by
      rcases Nat.lt_or_ge (2 * n + 1) 201 with q | q
      · rw [h _ q, if_neg (by omega)]
      · rw [pB_out q (by omega), pB_out q (by omega)]
    rw [edgZ_s]
    by_cases c : holdZ (edgZ v f n) (nI (2 * n) - nI 1) = 0 ∧ holdZ (edgZ v f n) (nI (2 * n + 1)) = 0
    · have c1 := (hold_left _ (by omega)).mp c.1
      have c2 := pB_n.mpr c.2
      rw [hL] at c1
      rw [hR] at c2
      rw [if_pos c, h j hj]
      by_cases e : j = 2 * n
      · subst e
        rw [if_neg (by omega), if_neg]
        rintro ⟨-, -, q | q⟩
        · rw [c1] at q
          cases q
        · rw [c2] at q
          cases q
      · by_cases e2 : j % 2 = 0 ∧ j < 2 * n ∧ (pL f j = true ∨ pB f (j + 1) = true)
        · rw [if_pos e2, if_pos ⟨e2.1, by omega, e2.2.2⟩]
        · rw [if_neg e2, if_neg fun q => e2 ⟨q.1, by omega, q.2.2⟩]
    · rw [if_neg c, pB_wr (by omega) hj]
      by_cases e : j = 2 * n
      · subst e
        rw [if_pos rfl, if_pos]
        refine ⟨by omega, by omega, ?_⟩
        by_cases c1 : holdZ (edgZ v f n) (nI (2 * n) - nI 1) = 0
        · refine Or.inr ?_
          rw [← hR]
          exact pB_y.mpr fun q => c ⟨c1, q⟩
        · refine Or.inl ?_
          rw [← hL]
          cases hq : pL (edgZ v f n) (2 * n) with
          | true => rfl
          | false => exact absurd ((hold_left _ (by omega)).mpr hq) c1
      · rw [if_neg e, h j hj]
        by_cases e2 : j % 2 = 0 ∧ j < 2 * n ∧ (pL f j = true ∨ pB f (j + 1) = true)
        · rw [if_pos e2, if_pos ⟨e2.1, by omega, e2.2.2⟩]
        · rw [if_neg e2, if_neg fun q => e2 ⟨q.1, by omega, q.2.2⟩]
