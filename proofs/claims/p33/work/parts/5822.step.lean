/-! WHAT STONES' METHODS MAKE OF A ROW OF SPANS, span by span (pure) -/
/-- how far the spans before the i-th go -/
def frN (L : SL) (i : Nat) : Nat := if i = 0 then 0 else L.2.2 (i - 1) + 1
theorem frN_0 (L : SL) : frN L 0 = 0 := if_pos rfl
theorem frN_s (L : SL) (i : Nat) : frN L (i + 1) = L.2.2 i + 1 := by
  unfold frN
  rw [if_neg (Nat.succ_ne_zero i), Nat.add_sub_cancel]
theorem Rep.fr_le {p : Nat → Bool} {L : SL} (h : Rep p 201 L) {i : Nat} (hi : i ≤ L.1) : frN L i ≤ 201 := by
  rcases Nat.eq_zero_or_pos i with e | e
  · rw [e, frN_0]
    omega
  · rw [show i = i - 1 + 1 by omega, frN_s]
    have := h.1 (i - 1) (by omega)
    omega
theorem Rep.fr_lt {p : Nat → Bool} {L : SL} (h : Rep p 201 L) {i : Nat} (hi : i < L.1) : frN L i ≤ L.2.1 i ∧ (0 < i → frN L i < L.2.1 i) := by
  rcases Nat.eq_zero_or_pos i with e | e
  · subst e
    rw [frN_0]
    exact ⟨Nat.zero_le _, fun q => absurd q (Nat.lt_irrefl 0)⟩
  · have h1 : L.2.2 (i - 1) + 2 ≤ L.2.1 i := h.mono (by omega) hi
    have h2 : frN L i = L.2.2 (i - 1) + 1 := if_neg (by omega)
    rw [h2]
    exact ⟨by omega, fun _ => by omega⟩
/-- no grain between -/
theorem Rep.fr_no {p : Nat → Bool} {L : SL} (h : Rep p 201 L) {i g : Nat} (hi : i < L.1) (h1 : frN L i ≤ g) (h2 : g < L.2.1 i) : p g = false := by
  rcases Nat.eq_zero_or_pos i with e | e
  · subst e
    exact h.bef hi h2
  · obtain ⟨j, rfl⟩ : ∃ j : Nat, i = j + 1 := ⟨i - 1, by omega⟩
    rw [frN_s] at h1
    exact h.btw hi (by omega) h2
theorem Rep.fr_end {p : Nat → Bool} {L : SL} (h : Rep p 201 L) {g : Nat} (h1 : frN L L.1 ≤ g) (h2 : g < 201) : p g = false := by
  rcases Nat.eq_zero_or_pos L.1 with e | e
  · exact h.emp e h2
  · refine h.aft e ?_ h2
    have h2 : frN L L.1 = L.2.2 (L.1 - 1) + 1 := if_neg (by omega)
    omega
/-- the grain before is the last one of a span -/
theorem Rep.fr_bef {p : Nat → Bool} {L : SL} (h : Rep p 201 L) {i : Nat} (hi : i ≤ L.1) (h1 : 0 < frN L i) : p (frN L i - 1) = true := by
  rcases Nat.eq_zero_or_pos i with e | e
  · subst e
    rw [frN_0] at h1
    omega
  · obtain ⟨j, rfl⟩ : ∃ j : Nat, i = j + 1 := ⟨i - 1, by omega⟩
    rw [frN_s, Nat.add_sub_cancel]
    exact (h.stop (show j < L.1 by omega)).1
theorem Rep.sp {p : Nat → Bool} {L : SL} (h : Rep p 201 L) {i : Nat} (hi : i < L.1) : L.2.1 i ≤ L.2.2 i ∧ L.2.2 i ≤ 200 := ⟨(h.1 i hi).1, (h.1 i hi).2.1⟩
/-- behind a span there is none -/
theorem Rep.nxt {p : Nat → Bool} {L : SL} (h : Rep p 201 L) {i : Nat} (hi : i < L.1) (h2 : L.2.2 i < 200) : p (L.2.2 i + 1) = false := Bool.eq_false_iff.mpr ((h.stop hi).2 (by omega))
theorem Rep.prv {p : Nat → Bool} {L : SL} (h : Rep p 201 L) {i : Nat} (hi : i < L.1) (h2 : 0 < L.2.1 i) : p (L.2.1 i - 1) = false := Bool.eq_false_iff.mpr ((h.start hi).2 h2)
/-! gaps -/
abbrev npB (p : Nat → Bool) : Nat → Bool := fun g => !p g
theorem gap_y {p : Nat → Bool} {L S : SL} {i : Nat} (h : Rep p 201 L) (hi : i < L.1) (hS : Rep (npB p) (frN L i) S) (hlt : frN L i < L.2.1 i) : Rep (npB p) (frN L (i + 1)) (snocS S (frN L i) (L.2.1 i - 1)) := by
  have h0 := h.sp hi
  have h1 := hS.snoc (x := frN L i) (y := L.2.1 i - 1) (Nat.le_refl _) (by omega) (by omega) (fun g a1 a2 => absurd a2 (by omega)) (fun g a1 a2 => by show (!p g) = true; rw [h.fr_no hi a1 (by omega)]; rfl) (fun a1 => by show (!p _) = false; rw [h.fr_bef (by omega) a1]; rfl)
  rw [frN_s]
  exact h1.skip (by omega) fun g a1 a2 => by show (!p g) = false; rw [h.has hi (by omega) (by omega)]; rfl
theorem gap_n {p : Nat → Bool} {L S : SL} {i : Nat} (h : Rep p 201 L) (hi : i < L.1) (hS : Rep (npB p) (frN L i) S) (hlt : ¬ frN L i < L.2.1 i) : Rep (npB p) (frN L (i + 1)) S := by
  have h0 := h.sp hi
  have h1 := h.fr_lt hi
  rw [frN_s]
  exact hS.skip (by omega) fun g a1 a2 => by show (!p g) = false; rw [h.has hi (by omega) (by omega)]; rfl
theorem gap_ey {p : Nat → Bool} {L S : SL} (h : Rep p 201 L) (hS : Rep (npB p) (frN L L.1) S) (hlt : frN L L.1 ≤ 200) : Rep (npB p) 201 (snocS S (frN L L.1) 200) :=
  hS.snoc (x := frN L L.1) (y := 200) (Nat.le_refl _) (by omega) (by omega) (fun g a1 a2 => absurd a2 (by omega)) (fun g a1 a2 => by show (!p g) = true; rw [h.fr_end a1 (by omega)]; rfl) (fun a1 => by show (!p _) = false; rw [h.fr_bef (Nat.le_refl _) a1]; rfl)
theorem gap_en {p : Nat → Bool} {L S : SL} (h : Rep p 201 L) (hS : Rep (npB p) (frN L L.1) S) (hlt : ¬ frN L L.1 ≤ 200) : Rep (npB p) 201 S := by
  have h1 := h.fr_le (Nat.le_refl _)
  exact hS.skip (by omega) fun g a1 a2 => by omega
theorem sub1_lt {a fr : Nat} (ha : a < 2 ^ 30) (hf : fr < 2 ^ 30) : nI a - nI 1 < nI fr ↔ a < fr + 1 := by
  rcases Nat.eq_zero_or_pos a with e | e
  · subst e
    refine ⟨fun _ => by omega, fun _ => ?_⟩
    rw [Int32.lt_iff_toInt_lt, nI_toInt (by omega)]
    have h9 : (nI 0 - nI 1).toInt = -1 := rfl
    omega
  · rw [pk_sub (by omega), nI_ltI (by omega) (by omega)]
    omega
/-! moved -/
def mvB (p : Nat → Bool) (t : Int) (g : Nat) : Bool := decide (0 ≤ (g : Int) - 2 * t ∧ (g : Int) - 2 * t ≤ 200) && p ((g : Int) - 2 * t).toNat
theorem mvB_n {p : Nat → Bool} {t : Int} {g : Nat} (h : 0 ≤ (g : Int) - 2 * t → (g : Int) - 2 * t ≤ 200 → p ((g : Int) - 2 * t).toNat = false) : mvB p t g = false := by
  unfold mvB
  by_cases c : 0 ≤ (g : Int) - 2 * t ∧ (g : Int) - 2 * t ≤ 200
  · rw [h c.1 c.2, Bool.and_false]
  · rw [decide_eq_false c, Bool.false_and]
theorem mvB_y {p : Nat → Bool} {t : Int} {g : Nat} (h1 : 0 ≤ (g : Int) - 2 * t) (h2 : (g : Int) - 2 * t ≤ 200) (h : p ((g : Int) - 2 * t).toNat = true) : mvB p t g = true := by
  unfold mvB
  rw [decide_eq_true (⟨h1, h2⟩ : 0 ≤ (g : Int) - 2 * t ∧ (g : Int) - 2 * t ≤ 200), h]
  rfl
/-- how far the spans before the i-th go, moved -/
def mfN (L : SL) (t : Int) (i : Nat) : Nat := if i = 0 then 0 else (max 0 (min 201 ((L.2.2 (i - 1) : Int) + 1 + 2 * t))).toNat
theorem mfN_0 (L : SL) (t : Int) : mfN L t 0 = 0 := if_pos rfl
theorem mfN_s (L : SL) (t : Int) (i : Nat) : mfN L t (i + 1) = (max 0 (min 201 ((L.2.2 i : Int) + 1 + 2 * t))).toNat := by
  unfold mfN
  rw [if_neg (Nat.succ_ne_zero i), Nat.add_sub_cancel]
theorem mf_no {p : Nat → Bool} {L : SL} {t : Int} {i g : Nat} (h : Rep p 201 L) (hi : i < L.1) (h1 : mfN L t i ≤ g) (h2 : (g : Int) < L.2.1 i + 2 * t) (h3 : g < 201) : mvB p t g = false := by
  refine mvB_n fun a1 a2 => h.fr_no hi ?_ (by omega)
  rcases Nat.eq_zero_or_pos i with e | e
  · subst e
    rw [frN_0]
    omega
  · obtain ⟨j, rfl⟩ : ∃ j : Nat, i = j + 1 := ⟨i - 1, by omega⟩
    rw [mfN_s] at h1
    rw [frN_s]
    omega
theorem mv_y {p : Nat → Bool} {L S : SL} {t : Int} {i : Nat} (h : Rep p 201 L) (hi : i < L.1) (hS : Rep (mvB p t) (mfN L t i) S) (hlt : max 0 ((L.2.1 i : Int) + 2 * t) ≤ min 200 ((L.2.2 i : Int) + 2 * t)) : Rep (mvB p t) (mfN L t (i + 1)) (snocS S (max 0 ((L.2.1 i : Int) + 2 * t)).toNat (min 200 ((L.2.2 i : Int) + 2 * t)).toNat) := by
  have h0 := h.sp hi
  have hle : mfN L t i ≤ (max 0 ((L.2.1 i : Int) + 2 * t)).toNat := by
    rcases Nat.eq_zero_or_pos i with e | e
    · subst e
      rw [mfN_0]
      omega
    · obtain ⟨j, rfl⟩ : ∃ j : Nat, i = j + 1 := ⟨i - 1, by omega⟩
      rw [mfN_s]
      have := h.mono (show j < j + 1 by omega) hi
      omega
  have h1 := hS.snoc (x := (max 0 ((L.2.1 i : Int) + 2 * t)).toNat) (y := (min 200 ((L.2.2 i : Int) + 2 * t)).toNat) hle (by omega) (by omega) (fun g a1 a2 => mf_no h hi a1 (by omega) (by omega)) (fun g a1 a2 => mvB_y (by omega) (by omega) (h.has hi (by omega) (by omega))) (fun a1 => mvB_n fun a2 a3 => by
    have e : (((((max 0 ((L.2.1 i : Int) + 2 * t)).toNat - 1 : Nat)) : Int) - 2 * t).toNat = L.2.1 i - 1 := by omega
    rw [e]
    exact h.prv hi (by omega))
  rw [mfN_s]
  have e : (max 0 (min 201 ((L.2.2 i : Int) + 1 + 2 * t))).toNat = (min 200 ((L.2.2 i : Int) + 2 * t)).toNat + 1 := by omega
  rw [e]
  exact h1
theorem mv_n {p : Nat → Bool} {L S : SL} {t : Int} {i : Nat} (h : Rep p 201 L) (hi : i < L.1) (hS : Rep (mvB p t) (mfN L t i) S) (hlt : ¬ max 0 ((L.2.1 i : Int) + 2 * t) ≤ min 200 ((L.2.2 i : Int) + 2 * t)) : Rep (mvB p t) (mfN L t (i + 1)) S := by
  have h0 := h.sp hi
  have hle : mfN L t i ≤ mfN L t (i + 1) := by
    rcases Nat.eq_zero_or_pos i with e | e
    · subst e
      rw [mfN_0]
      omega
    · obtain ⟨j, rfl⟩ : ∃ j : Nat, i = j + 1 := ⟨i - 1, by omega⟩
      rw [mfN_s, mfN_s]
      have := h.mono (show j < j + 1 by omega) hi
      omega
  rw [mfN_s] at hle ⊢
  exact hS.skip hle fun g a1 a2 => mf_no h hi a1 (by omega) (by omega)
theorem mv_e {p : Nat → Bool} {L S : SL} {t : Int} (h : Rep p 201 L) (hS : Rep (mvB p t) (mfN L t L.1) S) : Rep (mvB p t) 201 S := by
  have hle : mfN L t L.1 ≤ 201 := by
    rcases Nat.eq_zero_or_pos L.1 with e | e
    · rw [e, mfN_0]
      omega
    · rw [show L.1 = L.1 - 1 + 1 by omega, mfN_s]
      omega
  refine hS.skip hle fun g a1 a2 => mvB_n fun a3 a4 => h.fr_end ?_ (by omega)
  rcases Nat.eq_zero_or_pos L.1 with e | e
  · rw [e, frN_0]
    omega
  · rw [show L.1 = L.1 - 1 + 1 by omega, mfN_s] at a1
    rw [show L.1 = L.1 - 1 + 1 by omega, frN_s]
    omega
theorem nI_add_t {a : Nat} {d : Int32} (ha : a ≤ 200) (h1 : ¬ d < -100) (h2 : d ≤ nI 100) : (nI a + nI 2 * d).toInt = (a : Int) + 2 * d.toInt ∧ -100 ≤ d.toInt ∧ d.toInt ≤ 100 := by
  have e1 : -100 ≤ d.toInt := by
    rw [Int32.lt_iff_toInt_lt] at h1
    have h9 : (-100 : Int32).toInt = -100 := rfl
    omega
  have e2 : d.toInt ≤ 100 := by
    rw [Int32.le_iff_toInt_le] at h2
    have h9 : (nI 100).toInt = 100 := rfl
    omega
  refine ⟨?_, e1, e2⟩
  have e3 : (nI 2).toInt = 2 := rfl
  rw [Int32.toInt_add, Int32.toInt_mul, nI_toInt (by omega), e3]
  have e4 : (2 * d.toInt).bmod (2 ^ 32) = 2 * d.toInt := Int.bmod_eq_of_le (by omega) (by omega)
  rw [e4]
  exact Int.bmod_eq_of_le (by omega) (by omega)
theorem mv_x {a : Nat} {d : Int32} (ha : a ≤ 200) (h1 : ¬ d < -100) (h2 : d ≤ nI 100) : jmax (nI 0) (nI a + nI 2 * d) = nI (max 0 ((a : Int) + 2 * d.toInt)).toNat := by
  obtain ⟨e, e1, e2⟩ := nI_add_t ha h1 h2
  have e0 : (nI 0).toInt = 0 := rfl
  refine Int32.toInt_inj.mp ?_
  rw [nI_toInt (by omega)]
  unfold jmax
  by_cases c : nI 0 < nI a + nI 2 * d
  · rw [if_pos c, e]
    rw [Int32.lt_iff_toInt_lt, e, e0] at c
    omega
  · rw [if_neg c]
    rw [Int32.lt_iff_toInt_lt, e, e0] at c
    omega
theorem mv_yt {b : Nat} {d : Int32} (hb : b ≤ 200) (h1 : ¬ d < -100) (h2 : d ≤ nI 100) : (jmin (nI 200) (nI b + nI 2 * d)).toInt = min 200 ((b : Int) + 2 * d.toInt) := by
  obtain ⟨e, e1, e2⟩ := nI_add_t hb h1 h2
  have e0 : (nI 200).toInt = 200 := rfl
  unfold jmin
  by_cases c : nI b + nI 2 * d < nI 200
  · rw [if_pos c, e]
    rw [Int32.lt_iff_toInt_lt, e, e0] at c
    omega
  · rw [if_neg c]
    rw [Int32.lt_iff_toInt_lt, e, e0] at c
    omega
theorem mv_c {a b : Nat} {d : Int32} (ha : a ≤ 200) (hb : b ≤ 200) (h1 : ¬ d < -100) (h2 : d ≤ nI 100) : jmin (nI 200) (nI b + nI 2 * d) < jmax (nI 0) (nI a + nI 2 * d) ↔ ¬ max 0 ((a : Int) + 2 * d.toInt) ≤ min 200 ((b : Int) + 2 * d.toInt) := by
  obtain ⟨e, e1, e2⟩ := nI_add_t ha h1 h2
  rw [Int32.lt_iff_toInt_lt, mv_yt hb h1 h2, mv_x ha h1 h2, nI_toInt (by omega)]
  omega
theorem mv_yn {a b : Nat} {d : Int32} (hb : b ≤ 200) (h1 : ¬ d < -100) (h2 : d ≤ nI 100) (h : max 0 ((a : Int) + 2 * d.toInt) ≤ min 200 ((b : Int) + 2 * d.toInt)) : jmin (nI 200) (nI b + nI 2 * d) = nI (min 200 ((b : Int) + 2 * d.toInt)).toNat := by
  refine Int32.toInt_inj.mp ?_
  rw [mv_yt hb h1 h2, nI_toInt (by omega)]
  omega
