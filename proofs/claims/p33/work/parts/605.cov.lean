/-! COVERS: with more sets no more spans; by the set itself as many as it has (pure) -/
abbrev famP (fam k : Nat) : Prop := fam / 2 ^ k % 2 = 1
def hasF (F : Nat → Nat → Int32) (fam g : Nat) : Prop := ∃ k : Nat, k < 8 ∧ famP fam k ∧ pB (F k) g = true
theorem m1_ne {k : Nat} (h : k < 2 ^ 31) : ¬ (nI k : Int32) = -1 := by
  intro q
  have e := congrArg Int32.toInt q
  rw [nI_toInt h] at e
  have e2 : (-1 : Int32).toInt = -1 := rfl
  omega
theorem far_ok (F : Nat → Nat → Int32) (fam : Nat) {g : Nat} (hg : g ≤ 200) (n : Nat) (hn : n ≤ 8) : (farS F fam g n = (-1, -1) ∧ ∀ k : Nat, k < n → famP fam k → ¬ pB (F k) g = true) ∨ ∃ k : Nat, k < n ∧ famP fam k ∧ pB (F k) g = true ∧ farS F fam g n = (nI k, nI (lrN (F k) g)) ∧ ∀ j : Nat, j < n → famP fam j → pB (F j) g = true → lrN (F j) g ≤ lrN (F k) g := by
  induction n with
  | zero => exact Or.inl ⟨rfl, fun k hk => absurd hk (Nat.not_lt_zero k)⟩
  | succ n ih =>
    have h := ih (by omega)
    have hb := (lrN_spec (F n) hg).2.1
    rw [farS_s]
    by_cases c : famP fam n
    · rw [if_pos c]
      by_cases c2 : holdZ (F n) (nI g) = 0
      · rw [if_pos c2]
        have c3 : ¬ pB (F n) g = true := by rw [pB_n.mpr c2]; decide
        rcases h with ⟨h1, h2⟩ | ⟨k, h1, h2, h3, h4, h5⟩
        · refine Or.inl ⟨h1, fun k hk hf => ?_⟩
          by_cases e : k = n
          · rw [e]
            exact c3
          · exact h2 k (by omega) hf
        · refine Or.inr ⟨k, by omega, h2, h3, h4, fun j hj hf hp => ?_⟩
          by_cases e : j = n
          · rw [e] at hp
            exact absurd hp c3
          · exact h5 j (by omega) hf hp
      · rw [if_neg c2]
        have c3 : pB (F n) g = true := pB_y.mpr c2
        rcases h with ⟨h1, h2⟩ | ⟨k, h1, h2, h3, h4, h5⟩
        · rw [h1, if_neg (show ¬ nI (lrN (F n) g) ≤ (-1, (-1 : Int32)).2 from nI_m1 (by omega))]
          refine Or.inr ⟨n, Nat.lt_succ_self n, c, c3, rfl, fun j hj hf hp => ?_⟩
          by_cases e : j = n
          · rw [e]
            exact Nat.le_refl _
          · exact absurd hp (h2 j (by omega) hf)
        · have hbk := (lrN_spec (F k) hg).2.1
          rw [h4]
          by_cases c4 : lrN (F n) g ≤ lrN (F k) g
          · rw [if_pos (show nI (lrN (F n) g) ≤ (nI k, nI (lrN (F k) g)).2 from (nI_leI (by omega) (by omega)).mpr c4)]
            refine Or.inr ⟨k, by omega, h2, h3, rfl, fun j hj hf hp => ?_⟩
            by_cases e : j = n
            · rw [e]
              exact c4
            · exact h5 j (by omega) hf hp
          · rw [if_neg (show ¬ nI (lrN (F n) g) ≤ (nI k, nI (lrN (F k) g)).2 from fun q => c4 ((nI_leI (by omega) (by omega)).mp q))]
            refine Or.inr ⟨n, Nat.lt_succ_self n, c, c3, rfl, fun j hj hf hp => ?_⟩
            by_cases e : j = n
            · rw [e]
              exact Nat.le_refl _
            · have := h5 j (by omega) hf hp
              omega
    · rw [if_neg c]
      rcases h with ⟨h1, h2⟩ | ⟨k, h1, h2, h3, h4, h5⟩
      · refine Or.inl ⟨h1, fun k hk hf => ?_⟩
        by_cases e : k = n
        · rw [e] at hf
          exact absurd hf c
        · exact h2 k (by omega) hf
      · refine Or.inr ⟨k, by omega, h2, h3, h4, fun j hj hf hp => ?_⟩
        by_cases e : j = n
        · rw [e] at hf
          exact absurd hf c
        · exact h5 j (by omega) hf hp
/-- how far one goes from a grain at most -/
def rchN (F : Nat → Nat → Int32) (fam g : Nat) : Nat := lrN (F (farN F fam g)) g
theorem rch_ok {F : Nat → Nat → Int32} {fam g : Nat} (hg : g ≤ 200) (h : hasF F fam g) : ¬ (farS F fam g 8).1 = -1 ∧ (∃ k : Nat, k < 8 ∧ famP fam k ∧ pB (F k) g = true ∧ rchN F fam g = lrN (F k) g) ∧ ∀ j : Nat, j < 8 → famP fam j → pB (F j) g = true → lrN (F j) g ≤ rchN F fam g := by
  rcases far_ok F fam hg 8 (Nat.le_refl 8) with ⟨-, h2⟩ | ⟨k, h1, h2, h3, h4, h5⟩
  · obtain ⟨k, a1, a2, a3⟩ := h
    exact absurd a3 (h2 k a1 a2)
  · have e1 : (farS F fam g 8).1 = nI k := by rw [h4]
    have e : rchN F fam g = lrN (F k) g := by
      unfold rchN
      rw [farN_e h1 e1]
    rw [e, e1]
    exact ⟨m1_ne (by omega), ⟨k, h1, h2, h3, rfl⟩, h5⟩
theorem rch_none {F : Nat → Nat → Int32} {fam g : Nat} (hg : g ≤ 200) (h : ¬ hasF F fam g) : (farS F fam g 8).1 = -1 := by
  rcases far_ok F fam hg 8 (Nat.le_refl 8) with ⟨h1, -⟩ | ⟨k, h1, h2, h3, h4, -⟩
  · rw [h1]
  · exact absurd ⟨k, h1, h2, h3⟩ h
/-- the cover in numbers: how many spans, the grain behind the last one that they reach -/
def tcN (F : Nat → Nat → Int32) (fam : Nat) (p : Nat → Bool) (n : Nat) : Nat × Nat := itr (fun i s => if i < s.2 then s else if p i = true then (s.1 + 1, rchN F fam i + 1) else s) n (0, 0)
theorem tcN_0 (F : Nat → Nat → Int32) (fam : Nat) (p : Nat → Bool) : tcN F fam p 0 = (0, 0) := rfl
theorem tcN_s (F : Nat → Nat → Int32) (fam : Nat) (p : Nat → Bool) (n : Nat) : tcN F fam p (n + 1) = if n < (tcN F fam p n).2 then tcN F fam p n else if p n = true then ((tcN F fam p n).1 + 1, rchN F fam n + 1) else tcN F fam p n := rfl
theorem rch_le (F : Nat → Nat → Int32) (fam : Nat) {g : Nat} (hg : g ≤ 200) : rchN F fam g ≤ 200 := (lrN_spec _ hg).2.1
theorem tc_eq (F : Nat → Nat → Int32) (fam : Nat) (f : Nat → Int32) {n : Nat} (hn : n ≤ 201) : (tcN F fam (pB f) n).2 ≤ 201 ∧ tcS F fam f n = ((tcN F fam (pB f) n).1, if (tcN F fam (pB f) n).2 = 0 then -1 else nI ((tcN F fam (pB f) n).2 - 1)) := by
  induction n with
  | zero => exact ⟨Nat.zero_le _, rfl⟩
  | succ n ih =>
    obtain ⟨h1, h2⟩ := ih (by omega)
    have hr := rch_le F fam (g := n) (by omega)
    rw [tcS_s, tcN_s, h2]
    generalize tcN F fam (pB f) n = s at h1 h2
    have hc : (nI n ≤ (s.1, if s.2 = 0 then -1 else nI (s.2 - 1)).2) ↔ n < s.2 := by
      show (nI n ≤ if s.2 = 0 then -1 else nI (s.2 - 1)) ↔ _
      by_cases z : s.2 = 0
      · rw [if_pos z]
        exact ⟨fun q => absurd q (nI_m1 (by omega)), fun q => by omega⟩
      · rw [if_neg z, nI_leI (by omega) (by omega)]
        omega
    by_cases c : n < s.2
    · rw [if_pos (hc.mpr c), if_pos c]
      exact ⟨h1, rfl⟩
    · rw [if_neg fun q => c (hc.mp q), if_neg c]
      by_cases c2 : pB f n = true
      · rw [if_neg (pB_y.mp c2), if_pos c2]
        refine ⟨by show rchN F fam n + 1 ≤ 201; omega, ?_⟩
        show (_, nI (lrN (F (farN F fam n)) n)) = (_, if rchN F fam n + 1 = 0 then -1 else nI (rchN F fam n + 1 - 1))
        rw [if_neg (show ¬ rchN F fam n + 1 = 0 by omega)]
        rfl
      · rw [if_pos (pB_n.mp (Bool.eq_false_iff.mpr c2)), if_neg c2]
        exact ⟨h1, rfl⟩
/-- a grain that is to be covered and can't be -/
def stN (F : Nat → Nat → Int32) (fam : Nat) (p : Nat → Bool) (i : Nat) : Prop := ¬ i < (tcN F fam p i).2 ∧ p i = true ∧ ¬ hasF F fam i
theorem st_eq (F : Nat → Nat → Int32) (fam : Nat) (f : Nat → Int32) {i : Nat} (hi : i < 201) : stp F fam f i ↔ stN F fam (pB f) i := by
  obtain ⟨h1, h2⟩ := tc_eq F fam f (n := i) (by omega)
  unfold stp stN
  rw [h2]
  have hc : (nI i ≤ ((tcN F fam (pB f) i).1, if (tcN F fam (pB f) i).2 = 0 then -1 else nI ((tcN F fam (pB f) i).2 - 1)).2) ↔ i < (tcN F fam (pB f) i).2 := by
    show (nI i ≤ if (tcN F fam (pB f) i).2 = 0 then -1 else nI ((tcN F fam (pB f) i).2 - 1)) ↔ _
    by_cases z : (tcN F fam (pB f) i).2 = 0
    · rw [if_pos z]
      exact ⟨fun q => absurd q (nI_m1 (by omega)), fun q => by omega⟩
    · rw [if_neg z, nI_leI (by omega) (by omega)]
      omega
  rw [hc, ← pB_y]
  constructor
  · rintro ⟨a1, a2, a3⟩
    exact ⟨a1, a2, fun q => (rch_ok (by omega) q).1 a3⟩
  · rintro ⟨a1, a2, a3⟩
    exact ⟨a1, a2, rch_none (by omega) a3⟩
theorem tc_1 (F : Nat → Nat → Int32) (fam : Nat) (f : Nat → Int32) {n : Nat} (hn : n ≤ 201) : (tcS F fam f n).1 = (tcN F fam (pB f) n).1 := by
  have h := (tc_eq F fam f hn).2
  generalize tcN F fam (pB f) n = s at h ⊢
  rw [h]
theorem cov_y {F : Nat → Nat → Int32} {fam : Nat} {f : Nat → Int32} (h : ∀ i : Nat, i < 201 → ¬ stN F fam (pB f) i) : covV F fam f = nI (tcN F fam (pB f) 201).1 := by
  rw [covV_all fun i hi q => h i hi ((st_eq F fam f hi).mp q), tc_1 F fam f (Nat.le_refl 201)]
theorem cov_n {F : Nat → Nat → Int32} {fam : Nat} {f : Nat → Int32} (h : ¬ ∀ i : Nat, i < 201 → ¬ stN F fam (pB f) i) : covV F fam f = -1 := by
  have h2 : ∃ i : Nat, i < 201 ∧ stN F fam (pB f) i := Classical.byContradiction fun q => h fun i hi q2 => q ⟨i, hi, q2⟩
  obtain ⟨i, hi, h3⟩ := h2
  exact covV_stop hi ((st_eq F fam f hi).mpr h3)
theorem tcN_le (F : Nat → Nat → Int32) (fam : Nat) (p : Nat → Bool) (n : Nat) : (tcN F fam p n).1 ≤ n := by
  induction n with
  | zero => exact Nat.le_refl _
  | succ n ih =>
    rw [tcN_s]
    split
    · omega
    · split
      · show _ + 1 ≤ n + 1
        omega
      · omega
theorem lr_same {f : Nat → Int32} {a b : Nat} (ha : a ≤ 200) (h1 : a ≤ b) (h2 : b ≤ lrN f a) : lrN f b = lrN f a := by
  obtain ⟨a1, a2, a3, a4⟩ := lrN_spec f ha
  obtain ⟨b1, b2, b3, b4⟩ := lrN_spec f (show b ≤ 200 by omega)
  rcases Nat.lt_trichotomy (lrN f b) (lrN f a) with c | c | c
  · exact absurd (b4 (by omega)) (a3 (lrN f b + 1) (by omega) (by omega))
  · exact c
  · exact absurd (a4 (by omega)) (b3 (lrN f a + 1) (by omega) (by omega))
theorem lr_in {f : Nat → Int32} {a i : Nat} (ha : a ≤ 200) (hp : pB f a = true) (h1 : a ≤ i) (h2 : i ≤ lrN f a) : pB f i = true := by
  by_cases e : i = a
  · rw [e]
    exact hp
  · exact pB_y.mpr ((lrN_spec f ha).2.2.1 i (by omega) h2)
set_option maxRecDepth 100000 in
/-- with more sets: no more spans, and one if there was one -/
theorem cov_mono {F : Nat → Nat → Int32} {fam fam2 : Nat} {p : Nat → Bool} (hs : ∀ k : Nat, k < 8 → famP fam k → famP fam2 k) (hns : ∀ i : Nat, i < 201 → ¬ stN F fam p i) (n : Nat) (hn : n ≤ 201) : (∀ i : Nat, i < n → ¬ stN F fam2 p i) ∧ (tcN F fam2 p n).1 ≤ (tcN F fam p n).1 ∧ ((tcN F fam2 p n).1 = (tcN F fam p n).1 → (tcN F fam p n).2 ≤ (tcN F fam2 p n).2) ∧ (n < (tcN F fam p n).2 → ∃ k : Nat, k < 8 ∧ famP fam k ∧ ∀ i : Nat, n ≤ i → i < (tcN F fam p n).2 → pB (F k) i = true ∧ lrN (F k) i + 1 = (tcN F fam p n).2) := by
  induction n with
  | zero =>
    rw [tcN_0, tcN_0]
    exact ⟨fun i hi => absurd hi (Nat.not_lt_zero i), Nat.le_refl _, fun _ => Nat.le_refl _, fun q => absurd q (Nat.lt_irrefl 0)⟩
  | succ n ih =>
    obtain ⟨h1, h2, h3, h4⟩ := ih (by omega)
    have hst := hns n (by omega)
    have hsub : hasF F fam n → hasF F fam2 n := fun ⟨k, a1, a2, a3⟩ => ⟨k, a1, hs k a1 a2, a3⟩
    have hlast : (∀ i : Nat, i < n → ¬ stN F fam2 p i) → ¬ stN F fam2 p n → ∀ i : Nat, i < n + 1 → ¬ stN F fam2 p i := fun a1 a2 i hi => by
      by_cases e : i = n
      · rw [e]
        exact a2
      · exact a1 i (by omega)
    have e1 := tcN_s F fam p n
    have e2 := tcN_s F fam2 p n
    by_cases cp : p n = true
    · by_cases c : n < (tcN F fam p n).2
      · rw [if_pos c] at e1
        obtain ⟨k, a1, a2, a3⟩ := h4 c
        have hk := a3 n (Nat.le_refl n) c
        have hhas : hasF F fam n := ⟨k, a1, a2, hk.1⟩
        have hg : (n + 1 < (tcN F fam p n).2 → ∃ k : Nat, k < 8 ∧ famP fam k ∧ ∀ i : Nat, n + 1 ≤ i → i < (tcN F fam p n).2 → pB (F k) i = true ∧ lrN (F k) i + 1 = (tcN F fam p n).2) := fun _ => ⟨k, a1, a2, fun i b1 b2 => a3 i (by omega) b2⟩
        rw [e1]
        by_cases c2 : n < (tcN F fam2 p n).2
        · rw [e2, if_pos c2]
          exact ⟨hlast h1 fun q => q.1 c2, h2, h3, hg⟩
        · rw [e2, if_neg c2, if_pos cp]
          have hne : (tcN F fam2 p n).1 ≠ (tcN F fam p n).1 := fun q => by have := h3 q; omega
          refine ⟨hlast h1 fun q => q.2.2 (hsub hhas), by show _ + 1 ≤ _; omega, fun _ => ?_, hg⟩
          have := (rch_ok (by omega) (hsub hhas)).2.2 k a1 (hs k a1 a2) hk.1
          show _ ≤ rchN F fam2 n + 1
          omega
      · rw [if_neg c, if_pos cp] at e1
        have hhas : hasF F fam n := Classical.byContradiction fun q => hst ⟨c, cp, q⟩
        obtain ⟨-, ⟨k, a1, a2, a3, a4⟩, a5⟩ := rch_ok (g := n) (by omega) hhas
        have b1 := lrN_spec (F k) (show n ≤ 200 by omega)
        have hg : n + 1 < rchN F fam n + 1 → ∃ k : Nat, k < 8 ∧ famP fam k ∧ ∀ i : Nat, n + 1 ≤ i → i < rchN F fam n + 1 → pB (F k) i = true ∧ lrN (F k) i + 1 = rchN F fam n + 1 := fun _ => ⟨k, a1, a2, fun i d1 d2 => ⟨lr_in (by omega) a3 (by omega) (by omega), by rw [lr_same (by omega) (by omega : n ≤ i) (by omega), a4]⟩⟩
        rw [e1]
        by_cases c2 : n < (tcN F fam2 p n).2
        · rw [e2, if_pos c2]
          exact ⟨hlast h1 fun q => q.1 c2, by show _ ≤ _ + 1; omega, fun q => by have q : (tcN F fam2 p n).1 = (tcN F fam p n).1 + 1 := q; omega, hg⟩
        · rw [e2, if_neg c2, if_pos cp]
          refine ⟨hlast h1 fun q => q.2.2 (hsub hhas), by show _ + 1 ≤ _ + 1; omega, fun _ => ?_, hg⟩
          have := (rch_ok (by omega) (hsub hhas)).2.2 k a1 (hs k a1 a2) a3
          show rchN F fam n + 1 ≤ rchN F fam2 n + 1
          omega
    · have e1 : tcN F fam p (n + 1) = tcN F fam p n := by rw [e1, if_neg cp, ite_self]
      have e2 : tcN F fam2 p (n + 1) = tcN F fam2 p n := by rw [e2, if_neg cp, ite_self]
      rw [e1, e2]
      exact ⟨hlast h1 fun q => cp q.2.1, h2, h3, fun q => by
        obtain ⟨k, a1, a2, a3⟩ := h4 (by omega)
        exact ⟨k, a1, a2, fun i b1 b2 => a3 i (by omega) b2⟩⟩
/-- a family that has the set itself -/
theorem cov_one {F : Nat → Nat → Int32} {fam k : Nat} (hk : k < 8) (hf : ∀ j : Nat, j < 8 → (famP fam j ↔ j = k)) (n : Nat) (hn : n ≤ 201) : (∀ i : Nat, i < n → ¬ stN F fam (pB (F k)) i) ∧ (tcN F fam (pB (F k)) n).1 = (spS (pB (F k)) n).1 ∧ (0 < n → pB (F k) (n - 1) = true → (tcN F fam (pB (F k)) n).2 = lrN (F k) (n - 1) + 1) ∧ ((0 < n → ¬ pB (F k) (n - 1) = true) → (tcN F fam (pB (F k)) n).2 ≤ n) := by
  have hh : ∀ i : Nat, pB (F k) i = true → hasF F fam i := fun i q => ⟨k, hk, (hf k hk).mpr rfl, q⟩
  induction n with
  | zero =>
    rw [tcN_0, spS_0]
    exact ⟨fun i hi => absurd hi (Nat.not_lt_zero i), rfl, fun q => absurd q (Nat.lt_irrefl 0), fun _ => Nat.le_refl _⟩
  | succ n ih =>
    obtain ⟨h1, h2, h3, h4⟩ := ih (by omega)
    have hl : ∀ i : Nat, i < n + 1 → ¬ stN F fam (pB (F k)) i := fun i hi => by
      by_cases e : i = n
      · exact fun q => q.2.2 (hh i q.2.1)
      · exact h1 i (by omega)
    refine ⟨hl, ?_⟩
    rw [tcN_s, spS_s, Nat.add_sub_cancel]
    by_cases c : pB (F k) n = true
    · by_cases c2 : 0 < n ∧ pB (F k) (n - 1) = true
      · have e := h3 c2.1 c2.2
        have b := lrN_spec (F k) (show n - 1 ≤ 200 by omega)
        have b2 : n ≤ lrN (F k) (n - 1) := by
          rcases Nat.lt_or_ge (lrN (F k) (n - 1)) n with q | q
          · exfalso
            have e2 : lrN (F k) (n - 1) + 1 = n := by omega
            have b4 := b.2.2.2 (by omega)
            rw [e2] at b4
            exact pB_y.mp c b4
          · exact q
        rw [if_pos (by omega), spF_x c c2]
        exact ⟨h2, fun _ _ => by rw [e, lr_same (by omega) (by omega : n - 1 ≤ n) b2], fun q => absurd c (q (Nat.succ_pos n))⟩
      · have e := h4 fun q q2 => c2 ⟨q, q2⟩
        rw [if_neg (by omega), if_pos c, spF_b c c2]
        obtain ⟨-, ⟨j, a1, a2, a3, a4⟩, -⟩ := rch_ok (g := n) (by omega) (hh n c)
        have ej := (hf j a1).mp a2
        subst ej
        exact ⟨by show _ + 1 = _ + 1; rw [h2], fun _ _ => by show _ + 1 = _; rw [a4], fun q => absurd c (q (Nat.succ_pos n))⟩
    · rw [spF_n c, if_neg c, ite_self]
      refine ⟨h2, fun _ q => absurd q c, fun _ => ?_⟩
      by_cases c2 : 0 < n ∧ pB (F k) (n - 1) = true
      · have e := h3 c2.1 c2.2
        have b := lrN_spec (F k) (show n - 1 ≤ 200 by omega)
        rcases Nat.lt_or_ge (lrN (F k) (n - 1)) n with q | q
        · omega
        · exfalso
          exact b.2.2.1 n (by omega) q (pB_n.mp (Bool.eq_false_iff.mpr c))
      · have := h4 fun q q2 => c2 ⟨q, q2⟩
        omega
theorem two_fam {k j : Nat} (hk : k < 8) (hj : j < 8) : famP (2 ^ k) j ↔ j = k := by
  have h : ∀ a : Fin 8, ∀ b : Fin 8, 2 ^ a.1 / 2 ^ b.1 % 2 = 1 ↔ b.1 = a.1 := by decide
  exact h ⟨k, hk⟩ ⟨j, hj⟩
theorem all_fam {j : Nat} (hj : j < 8) : famP 255 j := by
  have h : ∀ b : Fin 8, 255 / 2 ^ b.1 % 2 = 1 := by decide
  exact h ⟨j, hj⟩
theorem or_fam {k j : Nat} (hk : k < 8) (hj : j < 8) : famP (2 ^ j ||| 2 ^ k) k ∧ 2 ^ j ||| 2 ^ k ≤ 255 := by
  have h : ∀ a : Fin 8, ∀ b : Fin 8, (2 ^ b.1 ||| 2 ^ a.1) / 2 ^ a.1 % 2 = 1 ∧ 2 ^ b.1 ||| 2 ^ a.1 ≤ 255 := by decide
  exact h ⟨k, hk⟩ ⟨j, hj⟩
theorem or_255 {k : Nat} (hk : k < 8) : orN (255 - 2 ^ k) k = 255 := by
  have h : ∀ a : Fin 8, orN (255 - 2 ^ a.1) a.1 = 255 := by decide
  exact h ⟨k, hk⟩
/-- the cover of a set by itself -/
theorem cov_self (F : Nat → Nat → Int32) {k : Nat} (hk : k < 8) : (∀ i : Nat, i < 201 → ¬ stN F (2 ^ k) (pB (F k)) i) ∧ covV F (2 ^ k) (F k) = nI (runs (F k)).1 := by
  obtain ⟨h1, h2, -⟩ := cov_one (F := F) hk (fun j hj => two_fam hk hj) 201 (Nat.le_refl _)
  refine ⟨h1, ?_⟩
  rw [cov_y h1, h2]
  rfl
/-- by more sets, of which it is one -/
theorem cov_more (F : Nat → Nat → Int32) {fam k : Nat} (hk : k < 8) (hf : famP fam k) : ∃ t : Nat, t ≤ (runs (F k)).1 ∧ covV F fam (F k) = nI t := by
  obtain ⟨h1, h2⟩ := cov_self F hk
  obtain ⟨a1, a2, -⟩ := cov_mono (fam2 := fam) (fun j hj q => by rw [(two_fam hk hj).mp q]; exact hf) h1 201 (Nat.le_refl _)
  obtain ⟨b1, b2, -⟩ := cov_one (F := F) hk (fun j hj => two_fam hk hj) 201 (Nat.le_refl _)
  refine ⟨_, ?_, cov_y a1⟩
  rw [b2] at a2
  exact a2
/-- by the others: no cover, or no smaller one than by all -/
theorem cov_all (F : Nat → Nat → Int32) (fam : Nat) {k : Nat} (hk : k < 8) : ∃ t : Nat, t ≤ (runs (F k)).1 ∧ covV F 255 (F k) = nI t ∧ (covV F fam (F k) = -1 ∨ ∃ u : Nat, t ≤ u ∧ u ≤ 201 ∧ covV F fam (F k) = nI u) := by
  obtain ⟨t, h1, h2⟩ := cov_more F hk (all_fam hk)
  refine ⟨t, h1, h2, ?_⟩
  by_cases c : ∀ i : Nat, i < 201 → ¬ stN F fam (pB (F k)) i
  · refine Or.inr ⟨_, ?_, tcN_le F fam (pB (F k)) 201, cov_y c⟩
    obtain ⟨a1, a2, -⟩ := cov_mono (fam2 := 255) (fun j hj _ => all_fam hj) c 201 (Nat.le_refl _)
    have e := h2.symm.trans (cov_y a1)
    have hr := (runs_ok (F k)).1.le
    have := tcN_le F 255 (pB (F k)) 201
    have e2 := (nI_eq (by omega) (by omega)).mp e
    omega
  · exact Or.inl (cov_n c)
theorem sav_e (F : Nat → Nat → Int32) {k : Nat} (hk : k < 8) : savV F (255 - 2 ^ k) k k = if covV F (255 - 2 ^ k) (F k) = -1 then nI 1000 else covV F (255 - 2 ^ k) (F k) - covV F 255 (F k) := by
  obtain ⟨t, h1, h2⟩ := cov_more F hk (all_fam hk)
  have hr := (runs_ok (F k)).1.le
  unfold savV
  rw [or_255 hk, if_neg]
  rw [h2]
  exact m1_ne (by omega)
