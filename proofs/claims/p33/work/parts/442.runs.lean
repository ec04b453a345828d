/-! WHAT THE CLASS'S ROW OF SPANS HOLDS: the spans of the set (pure) -/
def qB (f : Nat → Int32) (v : Int32) (g : Nat) : Bool := decide (holdZ f (nI g) = v)
theorem qB_1 (f : Nat → Int32) : qB f (nI 1) = pB f := by
  funext g
  unfold qB pB
  rcases holdZ_01 f (nI g) with h | h <;> rw [h] <;> decide
theorem qB_0 (f : Nat → Int32) : qB f (nI 0) = fun g => !pB f g := by
  funext g
  unfold qB pB
  rcases holdZ_01 f (nI g) with h | h <;> rw [h] <;> decide
theorem qB_y {f : Nat → Int32} {v : Int32} {g : Nat} : qB f v g = true ↔ holdZ f (nI g) = v := by
  unfold qB
  exact decide_eq_true_iff
theorem rr_sp (f : Nat → Int32) (v : Int32) (s : SRs) {n : Nat} (hn : n ≤ 201) : (rrR f v s n).2.2 = (spS (qB f v) n).1 ∧ ∀ j : Nat, j < (spS (qB f v) n).1 → (rrR f v s n).1 j = nI ((spS (qB f v) n).2.1 j) ∧ (rrR f v s n).2.1 j = nI ((spS (qB f v) n).2.2 j) := by
  induction n with
  | zero => exact ⟨rfl, fun j hj => absurd hj (Nat.not_lt_zero j)⟩
  | succ n ih =>
    obtain ⟨h1, h2⟩ := ih (by omega)
    have hok := spS_ok (qB f v) (show n ≤ 201 by omega)
    have hle := hok.1.1.le
    rw [rrR_s, spS_s]
    generalize spS (qB f v) n = t at h1 h2 hok hle
    generalize rrR f v s n = u at h1 h2
    obtain ⟨u1, u2, m⟩ := u
    dsimp only at h1 h2
    subst h1
    by_cases c : holdZ f (nI n) = v
    · have cq : qB f v n = true := qB_y.mpr c
      rw [if_pos c]
      by_cases c2 : n = 0 ∨ ¬ holdZ f (nI n - nI 1) = v
      · have c3 : ¬ (0 < n ∧ qB f v (n - 1) = true) := by
          rintro ⟨q1, q2⟩
          rcases c2 with c2 | c2
          · omega
          · rw [pk_sub (by omega)] at c2
            exact c2 (qB_y.mp q2)
        rw [if_pos c2, spF_b cq c3]
        unfold bgnR
        rw [if_neg (show ¬ 201 ≤ t.1 by omega)]
        unfold extR
        dsimp only
        rw [if_neg (by omega), if_neg (by omega)]
        refine ⟨rfl, fun j hj => ?_⟩
        dsimp only at hj ⊢
        rw [show t.1 + 1 - 1 = t.1 by omega]
        by_cases e : j = t.1
        · subst e
          rw [pk_us, pk_us, updN_s, updN_s]
          exact ⟨rfl, rfl⟩
        · rw [pk_un e, pk_un e, updN_n _ _ e, updN_n _ _ e]
          exact h2 j (by omega)
      · have c3 : 0 < n ∧ qB f v (n - 1) = true := by
          refine ⟨by omega, qB_y.mpr ?_⟩
          by_cases q : holdZ f (nI (n - 1)) = v
          · exact q
          · exfalso
            refine c2 (Or.inr ?_)
            rw [pk_sub (by omega)]
            exact q
        have c4 := hok.2 c3.1 c3.2
        rw [if_neg c2, spF_x cq c3]
        unfold extR
        dsimp only
        rw [if_neg (by omega), if_neg (by omega)]
        refine ⟨rfl, fun j hj => ?_⟩
        dsimp only at hj ⊢
        by_cases e : j = t.1 - 1
        · subst e
          rw [pk_us, updN_s]
          exact ⟨(h2 _ hj).1, rfl⟩
        · rw [pk_un e, updN_n _ _ e]
          exact h2 j hj
    · rw [if_neg c, spF_n (fun q => c (qB_y.mp q))]
      exact ⟨rfl, h2⟩
/-- a set's spans, and its gaps -/
def runs (f : Nat → Int32) : SL := spS (pB f) 201
def gaps (f : Nat → Int32) : SL := spS (fun g => !pB f g) 201
def runV (f : Nat → Int32) (v : Int32) : SL := spS (qB f v) 201
theorem runV_1 (f : Nat → Int32) : runV f (nI 1) = runs f := by
  unfold runV runs
  rw [qB_1]
theorem runV_0 (f : Nat → Int32) : runV f (nI 0) = gaps f := by
  unfold runV gaps
  rw [qB_0]
theorem runs_ok (f : Nat → Int32) : Rep (pB f) 201 (runs f) := (spS_ok (pB f) (Nat.le_refl 201)).1
theorem gaps_ok (f : Nat → Int32) : Rep (fun g => !pB f g) 201 (gaps f) := (spS_ok _ (Nat.le_refl 201)).1
theorem runV_ok (f : Nat → Int32) (v : Int32) : Rep (qB f v) 201 (runV f v) := (spS_ok _ (Nat.le_refl 201)).1
section RRS
variable (f : Nat → Int32) (v : Int32) (s : SRs)
theorem rr_n : (rrR f v s 201).2.2 = (runV f v).1 := (rr_sp f v s (Nat.le_refl 201)).1
theorem rr_fst {i : Nat} (hi : i < (runV f v).1) : fstR (rrR f v s 201) (nI i) = nI ((runV f v).2.1 i) := by
  have h := rr_sp f v s (Nat.le_refl 201)
  have hle := (runV_ok f v).1.le
  unfold fstR
  rw [if_neg (nI_pos (by omega)), if_neg, if_neg, nI_clamp (by omega)]
  · exact (h.2 i hi).1
  · intro q
    have := (nI_leI (by decide) (by omega)).mp q
    omega
  · rw [rr_n]
    intro q
    have := (nI_leI (by omega) (by omega)).mp q
    omega
theorem rr_las {i : Nat} (hi : i < (runV f v).1) : lasR (rrR f v s 201) (nI i) = nI ((runV f v).2.2 i) := by
  have h := rr_sp f v s (Nat.le_refl 201)
  have hle := (runV_ok f v).1.le
  unfold lasR
  rw [if_neg (nI_pos (by omega)), if_neg, if_neg, nI_clamp (by omega)]
  · exact (h.2 i hi).2
  · intro q
    have := (nI_leI (by decide) (by omega)).mp q
    omega
  · rw [rr_n]
    intro q
    have := (nI_leI (by omega) (by omega)).mp q
    omega
end RRS
/-- how long a span is -/
def lenN (s : SL) (i : Nat) : Nat := (s.2.2 i + 1) / 2 - s.2.1 i / 2
theorem rr_f0 (f : Nat → Int32) (v : Int32) (s : SRs) {i : Nat} (hi : i < (runV f v).1) : facR (rrR f v s 201) (nI i) (nI 0) = nI ((runV f v).2.1 i / 2) := by
  have h1 := (runV_ok f v).1 i hi
  unfold facR
  rw [if_pos (show nI 0 = 0 from rfl), rr_fst f v s hi]
  exact pk_div (by omega) (by decide) (by decide)
theorem rr_f1 (f : Nat → Int32) (v : Int32) (s : SRs) {i : Nat} (hi : i < (runV f v).1) : facR (rrR f v s 201) (nI i) (nI 1) = nI (((runV f v).2.2 i + 1) / 2) := by
  have h1 := (runV_ok f v).1 i hi
  unfold facR
  rw [if_neg (show ¬ nI 1 = 0 by decide), if_pos (show nI 1 = 1 from rfl), rr_las f v s hi, nI_add]
  exact pk_div (by omega) (by decide) (by decide)
theorem rr_f2 (f : Nat → Int32) (v : Int32) (s : SRs) {i : Nat} (hi : i < (runV f v).1) : facR (rrR f v s 201) (nI i) (nI 2) = nI ((1 - (runV f v).2.1 i % 2) + 2 * (1 - (runV f v).2.2 i % 2)) := by
  have h1 := (runV_ok f v).1 i hi
  unfold facR
  rw [if_neg (show ¬ nI 2 = 0 by decide), if_neg (show ¬ nI 2 = 1 by decide), rr_fst f v s hi, rr_las f v s hi]
  have e1 : (if ptZ (nI ((runV f v).2.1 i)) = 0 then nI 0 else nI 1) = nI (1 - (runV f v).2.1 i % 2) := by
    by_cases c : (runV f v).2.1 i % 2 = 1
    · rw [if_pos ((pt_odd (by omega)).mpr c), c]
    · rw [if_neg (fun q => c ((pt_odd (by omega)).mp q)), show (runV f v).2.1 i % 2 = 0 by omega]
  have e2 : (if ptZ (nI ((runV f v).2.2 i)) = 0 then nI 0 else nI 2) = nI (2 * (1 - (runV f v).2.2 i % 2)) := by
    by_cases c : (runV f v).2.2 i % 2 = 1
    · rw [if_pos ((pt_odd (by omega)).mpr c), c]
    · rw [if_neg (fun q => c ((pt_odd (by omega)).mp q)), show (runV f v).2.2 i % 2 = 0 by omega]
  rw [e1, e2, nI_add]
theorem rr_len (f : Nat → Int32) (v : Int32) (s : SRs) {i : Nat} (hi : i < (runV f v).1) : lenR (rrR f v s 201) (nI i) = nI (lenN (runV f v) i) := by
  have h1 := (runV_ok f v).1 i hi
  unfold lenR lenN
  rw [rr_f0 f v s hi, rr_f1 f v s hi]
  exact pk_sub (by omega)
/-- the first of the longest -/
def lngN (s : SL) (n : Nat) : Nat := itr (fun i m => if lenN s (i + 1) ≤ lenN s m then m else i + 1) n 0
theorem lngN_s (s : SL) (n : Nat) : lngN s (n + 1) = if lenN s (n + 1) ≤ lenN s (lngN s n) then lngN s n else n + 1 := rfl
theorem lngN_ok (s : SL) (n : Nat) : lngN s n ≤ n ∧ (∀ i : Nat, i ≤ n → lenN s i ≤ lenN s (lngN s n)) ∧ ∀ i : Nat, i < lngN s n → lenN s i < lenN s (lngN s n) := by
  induction n with
  | zero => exact ⟨Nat.le_refl _, fun i hi => by rw [show i = 0 by omega]; exact Nat.le_refl _, fun i hi => absurd hi (Nat.not_lt_zero i)⟩
  | succ n ih =>
    obtain ⟨h1, h2, h3⟩ := ih
    rw [lngN_s]
    by_cases c : lenN s (n + 1) ≤ lenN s (lngN s n)
    · rw [if_pos c]
      refine ⟨by omega, fun i hi => ?_, h3⟩
      rcases Nat.lt_or_ge n i with q | q
      · rw [show i = n + 1 by omega]
        exact c
      · exact h2 i q
    · rw [if_neg c]
      refine ⟨Nat.le_refl _, fun i hi => ?_, fun i hi => ?_⟩
      · rcases Nat.lt_or_ge n i with q | q
        · rw [show i = n + 1 by omega]
          exact Nat.le_refl _
        · have := h2 i q
          omega
      · have := h2 i (by omega)
        omega
theorem rr_lng (f : Nat → Int32) (v : Int32) (s : SRs) {n : Nat} (hn : n < (runV f v).1) : lngR (rrR f v s 201) n = nI (lngN (runV f v) n) := by
  have hle := (runV_ok f v).1.le
  induction n with
  | zero => rfl
  | succ n ih =>
    have h := ih (by omega)
    have h1 := (lngN_ok (runV f v) n).1
    rw [lngR_s, h, rr_len f v s hn, rr_len f v s (show lngN (runV f v) n < (runV f v).1 by omega), lngN_s]
    have b1 : lenN (runV f v) (n + 1) < 2 ^ 31 := by
      have := (runV_ok f v).1 (n + 1) hn
      unfold lenN
      omega
    have b2 : lenN (runV f v) (lngN (runV f v) n) < 2 ^ 31 := by
      have := (runV_ok f v).1 (lngN (runV f v) n) (by omega)
      unfold lenN
      omega
    by_cases c : lenN (runV f v) (n + 1) ≤ lenN (runV f v) (lngN (runV f v) n)
    · rw [if_pos ((nI_leI b1 b2).mpr c), if_pos c]
    · rw [if_neg (fun q => c ((nI_leI b1 b2).mp q)), if_neg c]
