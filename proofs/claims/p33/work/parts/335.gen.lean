/-! WHAT THE CLASS'S CALLS DO, in general: beside, change, stretch -/
theorem sub_or {f g : Nat → Int32} {r : Int32} (h : (r = nI 1 ∧ ∀ j : Nat, j < 201 → ¬ holdZ f (nI j) = 0 → ¬ holdZ g (nI j) = 0) ∨ (r = nI 0 ∧ ∃ j : Nat, j < 201 ∧ ¬ holdZ f (nI j) = 0 ∧ holdZ g (nI j) = 0)) : (r = 0 → ¬ subZ f g) ∧ (¬ r = 0 → subZ f g) := by
  rcases h with ⟨h1, h2⟩ | ⟨h1, j, h2, h3, h4⟩
  · exact ⟨fun q => absurd (h1.symm.trans q) (by decide), fun _ => h2⟩
  · exact ⟨fun _ q => q j h2 h3 h4, fun q => absurd h1 q⟩
noncomputable def besV (f g : Nat → Int32) : Int32 := @ite Int32 (subZ f g) (Classical.propDecidable _) (@ite Int32 (subZ g f) (Classical.propDecidable _) (nI 0) (nI 1)) (@ite Int32 (subZ g f) (Classical.propDecidable _) (nI 2) (@ite Int32 (lieA f g (nI 2 * nI 0)) (Classical.propDecidable _) (nI 4) (nI 3)))
theorem bes_0 {f g : Nat → Int32} {r1 r2 : Int32} (h1 : (r1 = nI 1 ∧ ∀ j : Nat, j < 201 → ¬ holdZ f (nI j) = 0 → ¬ holdZ g (nI j) = 0) ∨ (r1 = nI 0 ∧ ∃ j : Nat, j < 201 ∧ ¬ holdZ f (nI j) = 0 ∧ holdZ g (nI j) = 0)) (h2 : (r2 = nI 1 ∧ ∀ j : Nat, j < 201 → ¬ holdZ g (nI j) = 0 → ¬ holdZ f (nI j) = 0) ∨ (r2 = nI 0 ∧ ∃ j : Nat, j < 201 ∧ ¬ holdZ g (nI j) = 0 ∧ holdZ f (nI j) = 0)) (c1 : ¬ r1 = 0) (c2 : ¬ r2 = 0) : besV f g = nI 0 := by
  unfold besV
  rw [if_pos ((sub_or h1).2 c1), if_pos ((sub_or h2).2 c2)]
theorem bes_1 {f g : Nat → Int32} {r1 r2 : Int32} (h1 : (r1 = nI 1 ∧ ∀ j : Nat, j < 201 → ¬ holdZ f (nI j) = 0 → ¬ holdZ g (nI j) = 0) ∨ (r1 = nI 0 ∧ ∃ j : Nat, j < 201 ∧ ¬ holdZ f (nI j) = 0 ∧ holdZ g (nI j) = 0)) (h2 : (r2 = nI 1 ∧ ∀ j : Nat, j < 201 → ¬ holdZ g (nI j) = 0 → ¬ holdZ f (nI j) = 0) ∨ (r2 = nI 0 ∧ ∃ j : Nat, j < 201 ∧ ¬ holdZ g (nI j) = 0 ∧ holdZ f (nI j) = 0)) (c1 : ¬ r1 = 0) (c2 : r2 = 0) : besV f g = nI 1 := by
  unfold besV
  rw [if_pos ((sub_or h1).2 c1), if_neg ((sub_or h2).1 c2)]
theorem bes_2 {f g : Nat → Int32} {r1 r2 : Int32} (h1 : (r1 = nI 1 ∧ ∀ j : Nat, j < 201 → ¬ holdZ f (nI j) = 0 → ¬ holdZ g (nI j) = 0) ∨ (r1 = nI 0 ∧ ∃ j : Nat, j < 201 ∧ ¬ holdZ f (nI j) = 0 ∧ holdZ g (nI j) = 0)) (h2 : (r2 = nI 1 ∧ ∀ j : Nat, j < 201 → ¬ holdZ g (nI j) = 0 → ¬ holdZ f (nI j) = 0) ∨ (r2 = nI 0 ∧ ∃ j : Nat, j < 201 ∧ ¬ holdZ g (nI j) = 0 ∧ holdZ f (nI j) = 0)) (c1 : r1 = 0) (c2 : ¬ r2 = 0) : besV f g = nI 2 := by
  unfold besV
  rw [if_neg ((sub_or h1).1 c1), if_pos ((sub_or h2).2 c2)]
theorem bes_4 {f g : Nat → Int32} {r1 r2 r3 : Int32} (h1 : (r1 = nI 1 ∧ ∀ j : Nat, j < 201 → ¬ holdZ f (nI j) = 0 → ¬ holdZ g (nI j) = 0) ∨ (r1 = nI 0 ∧ ∃ j : Nat, j < 201 ∧ ¬ holdZ f (nI j) = 0 ∧ holdZ g (nI j) = 0)) (h2 : (r2 = nI 1 ∧ ∀ j : Nat, j < 201 → ¬ holdZ g (nI j) = 0 → ¬ holdZ f (nI j) = 0) ∨ (r2 = nI 0 ∧ ∃ j : Nat, j < 201 ∧ ¬ holdZ g (nI j) = 0 ∧ holdZ f (nI j) = 0)) (h3 : (r3 = nI 1 ∧ ∀ i : Nat, i < 201 → lieP f g (nI 2 * nI 0) i) ∨ (r3 = nI 0 ∧ ∃ i : Nat, i < 201 ∧ ¬ lieP f g (nI 2 * nI 0) i)) (c1 : r1 = 0) (c2 : r2 = 0) (c3 : ¬ r3 = 0) : besV f g = nI 4 := by
  unfold besV
  rw [if_neg ((sub_or h1).1 c1), if_neg ((sub_or h2).1 c2), if_pos ((lie_or h3).2 c3)]
theorem bes_3 {f g : Nat → Int32} {r1 r2 r3 : Int32} (h1 : (r1 = nI 1 ∧ ∀ j : Nat, j < 201 → ¬ holdZ f (nI j) = 0 → ¬ holdZ g (nI j) = 0) ∨ (r1 = nI 0 ∧ ∃ j : Nat, j < 201 ∧ ¬ holdZ f (nI j) = 0 ∧ holdZ g (nI j) = 0)) (h2 : (r2 = nI 1 ∧ ∀ j : Nat, j < 201 → ¬ holdZ g (nI j) = 0 → ¬ holdZ f (nI j) = 0) ∨ (r2 = nI 0 ∧ ∃ j : Nat, j < 201 ∧ ¬ holdZ g (nI j) = 0 ∧ holdZ f (nI j) = 0)) (h3 : (r3 = nI 1 ∧ ∀ i : Nat, i < 201 → lieP f g (nI 2 * nI 0) i) ∨ (r3 = nI 0 ∧ ∃ i : Nat, i < 201 ∧ ¬ lieP f g (nI 2 * nI 0) i)) (c1 : r1 = 0) (c2 : r2 = 0) (c3 : r3 = 0) : besV f g = nI 3 := by
  unfold besV
  rw [if_neg ((sub_or h1).1 c1), if_neg ((sub_or h2).1 c2), if_neg ((lie_or h3).1 c3)]
/-- the spans that are read: first and last grains -/
def rrP (s : SRs) : Prop := s.2.2 ≤ 201 ∧ ∀ j : Nat, j < s.2.2 → (∃ a : Nat, a ≤ 200 ∧ s.1 j = nI a) ∧ ∃ b : Nat, b ≤ 200 ∧ s.2.1 j = nI b
theorem rrP_ext {s : SRs} {g : Nat} (h : s.2.2 ≤ 201) (h1 : ∀ j : Nat, j < s.2.2 → ∃ a : Nat, a ≤ 200 ∧ s.1 j = nI a) (h2 : ∀ j : Nat, j + 1 < s.2.2 → ∃ b : Nat, b ≤ 200 ∧ s.2.1 j = nI b) (hg : g ≤ 200) : rrP (extR s (nI g)) := by
  unfold extR
  by_cases c1 : s.2.2 ≤ 0
  · rw [if_pos c1]
    exact ⟨h, fun j hj => absurd hj (by omega)⟩
  · rw [if_neg c1]
    by_cases c2 : 201 < s.2.2
    · exact absurd h (by omega)
    · rw [if_neg c2]
      refine ⟨h, fun j hj => ⟨h1 j hj, ?_⟩⟩
      have hj : j < s.2.2 := hj
      show ∃ b : Nat, b ≤ 200 ∧ upd s.2.1 (s.2.2 - 1) (nI g) j = nI b
      by_cases e : j = s.2.2 - 1
      · exact ⟨g, hg, by rw [e]; exact pk_us⟩
      · rw [pk_un e]
        exact h2 j (by omega)
theorem rr_val (f : Nat → Int32) (v : Int32) (s : SRs) {n : Nat} (hn : n ≤ 201) : rrP (rrR f v s n) := by
  induction n with
  | zero => exact ⟨Nat.zero_le _, fun j hj => absurd hj (Nat.not_lt_zero j)⟩
  | succ n ih =>
    have h := ih (by omega)
    rw [rrR_s]
    generalize rrR f v s n = u at h
    by_cases c1 : holdZ f (nI n) = v
    · rw [if_pos c1]
      by_cases c2 : n = 0 ∨ ¬ holdZ f (nI n - nI 1) = v
      · rw [if_pos c2]
        refine rrP_ext (bgnR_le h.1) (fun j hj => ?_) (fun j hj => ?_) (by omega)
        · unfold bgnR at hj ⊢
          by_cases c3 : 201 ≤ u.2.2
          · rw [if_pos c3] at hj ⊢
            exact (h.2 j hj).1
          · rw [if_neg c3] at hj ⊢
            have hj : j < u.2.2 + 1 := hj
            show ∃ a : Nat, a ≤ 200 ∧ upd u.1 u.2.2 (nI n) j = nI a
            by_cases e : j = u.2.2
            · exact ⟨n, by omega, by rw [e]; exact pk_us⟩
            · rw [pk_un e]
              exact (h.2 j (by omega)).1
        · unfold bgnR at hj ⊢
          by_cases c3 : 201 ≤ u.2.2
          · rw [if_pos c3] at hj ⊢
            exact (h.2 j (by omega)).2
          · rw [if_neg c3] at hj ⊢
            have hj : j + 1 < u.2.2 + 1 := hj
            exact (h.2 j (by omega)).2
      · rw [if_neg c2]
        exact rrP_ext h.1 (fun j hj => (h.2 j hj).1) (fun j hj => (h.2 j (by omega)).2) (by omega)
    · rw [if_neg c1]
      exact h
def fsN (s : SRs) (k : Int32) : Nat := (fstR s k).toNatClampNeg
def laN (s : SRs) (k : Int32) : Nat := ((lasR s k).toInt + 1).toNat
theorem fsN_e (f : Nat → Int32) (v : Int32) (s : SRs) (k : Int32) : fstR (rrR f v s 201) k = nI (fsN (rrR f v s 201) k) ∧ fsN (rrR f v s 201) k ≤ 200 := by
  have h := rr_val f v s (Nat.le_refl 201)
  generalize rrR f v s 201 = u at h
  have h2 : ∃ a : Nat, a ≤ 200 ∧ fstR u k = nI a := by
    unfold fstR
    by_cases c1 : k < 0
    · rw [if_pos c1]
      exact ⟨0, by omega, rfl⟩
    · rw [if_neg c1]
      obtain ⟨q, hq, rfl⟩ := nI_of c1
      by_cases c2 : nI u.2.2 ≤ nI q
      · rw [if_pos c2]
        exact ⟨0, by omega, rfl⟩
      · rw [if_neg c2]
        have h3 : q < u.2.2 := Nat.lt_of_not_le fun h9 => c2 ((nI_leI (by have := h.1; omega) hq).mpr h9)
        by_cases c3 : nI 201 ≤ nI q
        · rw [if_pos c3]
          exact ⟨0, by omega, rfl⟩
        · rw [if_neg c3, nI_clamp hq]
          exact (h.2 q h3).1
  obtain ⟨a, ha, hf⟩ := h2
  unfold fsN
  rw [hf, nI_clamp (by omega)]
  exact ⟨rfl, ha⟩
theorem laN_e (f : Nat → Int32) (v : Int32) (s : SRs) (k : Int32) : (lasR (rrR f v s 201) k).toInt + 1 = (laN (rrR f v s 201) k : Int) ∧ laN (rrR f v s 201) k ≤ 201 := by
  have h := rr_val f v s (Nat.le_refl 201)
  generalize rrR f v s 201 = u at h
  have h2 : lasR u k = -1 ∨ ∃ a : Nat, a ≤ 200 ∧ lasR u k = nI a := by
    unfold lasR
    by_cases c1 : k < 0
    · rw [if_pos c1]
      exact Or.inl rfl
    · rw [if_neg c1]
      obtain ⟨q, hq, rfl⟩ := nI_of c1
      by_cases c2 : nI u.2.2 ≤ nI q
      · rw [if_pos c2]
        exact Or.inl rfl
      · rw [if_neg c2]
        have h3 : q < u.2.2 := Nat.lt_of_not_le fun h9 => c2 ((nI_leI (by have := h.1; omega) hq).mpr h9)
        by_cases c3 : nI 201 ≤ nI q
        · rw [if_pos c3]
          exact Or.inl rfl
        · rw [if_neg c3, nI_clamp hq]
          exact Or.inr (h.2 q h3).2
  unfold laN
  rcases h2 with h2 | ⟨a, ha, h2⟩
  · rw [h2]
    exact ⟨by decide, by decide⟩
  · rw [h2, nI_toInt (by omega)]
    exact ⟨by omega, by omega⟩
/-- change -/
def klgZ (f : Nat → Int32) (s : SRs) : Nat → Int32 := (fillS (fillS f (nI 0) 0 (min 201 201 - 0)).1 (nI 1) (fsN s (lngR s (s.2.2 - 1))) (min (laN s (lngR s (s.2.2 - 1))) 201 - fsN s (lngR s (s.2.2 - 1)))).1
def gapZ (f : Nat → Int32) (s : SRs) : Nat → Int32 := (fillS f (nI 1) (fsN s (nI 0)) (min (laN s (nI s.2.2 - nI 1)) 201 - fsN s (nI 0))).1
def chgS (f : Nat → Int32) (s : SRs) (how : Nat) : SRs := if how = 5 then rrR f (nI 1) s 201 else if how = 6 then rrR f (nI 1) s 201 else s
def chgG (f : Nat → Int32) (s : SRs) (how : Nat) : Nat → Int32 := if how = 0 then invZ f 201 else if how = 1 then dropZ f 101 else if how = 2 then edgZ (nI 1) f 101 else if how = 3 then oddZ (edgZ (nI 0) f 101) 100 else if how = 4 then mirZ f 100 else if how = 5 then klgZ f (rrR f (nI 1) s 201) else if how = 6 then gapZ f (rrR f (nI 1) s 201) else (fillS f (nI 0) 0 (min 201 201 - 0)).1
theorem chgS_le {f : Nat → Int32} {s : SRs} {how : Nat} (h : s.2.2 ≤ 201) : (chgS f s how).2.2 ≤ 201 := by
  unfold chgS
  split
  · exact rrR_le _ _ _ _
  · split
    · exact rrR_le _ _ _ _
    · exact h
/-- stretch -/
theorem pt_odd {g : Nat} (hg : g < 2 ^ 31) : ptZ (nI g) = 0 ↔ g % 2 = 1 := by
  unfold ptZ
  rw [pk_andN (show g < 2 ^ 32 by omega) 1 rfl]
  have h2 : g % 2 = 0 ∨ g % 2 = 1 := by omega
  show (if ¬ nI (g % 2) = 0 then nI 0 else nI 1) = 0 ↔ g % 2 = 1
  rcases h2 with h | h
  · rw [h]
    decide
  · rw [h]
    decide
def pstZ (f : Nat → Int32) (g tt : Nat) : Nat → Int32 := if g % 2 = 1 then (fillS f (nI 1) ((g - 1) * tt + 1) (min ((g + 1) * tt - 1 + 1) 201 - ((g - 1) * tt + 1))).1 else wrZ f (nI (g * tt)) (nI 1)
def strZ (G : Nat → Nat → Int32) (k tt n : Nat) : Nat → Int32 := itr (fun i g => if holdZ (va_up G k g 8) (nI i) = 0 then g else pstZ g i tt) n (fillS (G k) (nI 0) 0 (min 201 201 - 0)).1
theorem strZ_0 (G : Nat → Nat → Int32) (k tt : Nat) : strZ G k tt 0 = (fillS (G k) (nI 0) 0 (min 201 201 - 0)).1 := rfl
theorem strZ_s (G : Nat → Nat → Int32) (k tt n : Nat) : strZ G k tt (n + 1) = if holdZ (va_up G k (strZ G k tt n) 8) (nI n) = 0 then strZ G k tt n else pstZ (strZ G k tt n) n tt := rfl
theorem va_up_up {α : Type} (F : Nat → α) (k : Nat) (f g : α) : va_up (va_up F k f) k g = va_up F k g := by
  funext j
  by_cases h : j = k
  · rw [h, va_up_s, va_up_s]
  · rw [va_up_n _ _ h, va_up_n _ _ h, va_up_n _ _ h]
