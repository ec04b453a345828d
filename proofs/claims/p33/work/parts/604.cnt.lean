/-! WHAT THE CLASS ANSWERS OF A SET (pure) -/
theorem os0 (f : Nat → Int32) (s : SRs) : facSv f 0 s = nI (cntB (pB f) 201) := by
  unfold facSv
  rw [if_pos rfl, cntZ_n]
theorem os1 (f : Nat → Int32) (s : SRs) : facSv f 1 s = nI (runs f).1 := by
  unfold facSv
  rw [if_neg (by decide), if_pos rfl, rr_n, runV_1]
theorem os4 (f : Nat → Int32) (s : SRs) : facSv f 4 s = nI (gaps f).1 := by
  unfold facSv
  rw [if_neg (by decide), if_neg (by decide), if_neg (by decide), if_neg (by decide), if_pos rfl, rr_n, runV_0]
/-- how many grains that are no points -/
def oddB (p : Nat → Bool) (n : Nat) : Nat := itr (fun g c => if p g = true ∧ g % 2 = 1 then c + 1 else c) n 0
theorem oddB_s (p : Nat → Bool) (n : Nat) : oddB p (n + 1) = if p n = true ∧ n % 2 = 1 then oddB p n + 1 else oddB p n := rfl
theorem oddB_e (p : Nat → Bool) {n : Nat} (h : n % 2 = 0) : oddB p (n + 1) = oddB p n := by rw [oddB_s, if_neg (by omega)]
theorem lenZ_n (f : Nat → Int32) (k : Nat) : lenZ f k = nI (oddB (pB f) (2 * k + 1)) := by
  induction k with
  | zero => exact congrArg nI (oddB_e (pB f) (n := 0) rfl).symm
  | succ k ih =>
    have e : oddB (pB f) (2 * (k + 1) + 1) = oddB (pB f) (2 * k + 1 + 1) := oddB_e _ (by omega)
    rw [lenZ_s, ih, e, oddB_s (pB f) (2 * k + 1)]
    by_cases c : holdZ f (nI (2 * k + 1)) = 0
    · rw [if_pos c, if_neg]
      rintro ⟨q, -⟩
      rw [pB_n.mpr c] at q
      cases q
    · rw [if_neg c, if_pos ⟨pB_y.mpr c, by omega⟩]
      exact nI_1 _
theorem os2 (f : Nat → Int32) (s : SRs) : facSv f 2 s = nI (oddB (pB f) 201) := by
  unfold facSv
  rw [if_neg (by decide), if_neg (by decide), if_pos rfl, lenZ_n]
theorem oddB_sum (p : Nat → Bool) (n : Nat) : ((oddB p n : Nat) : Int) = sumW (fun g => ((g % 2 : Nat) : Int)) p n := by
  induction n with
  | zero => rfl
  | succ n ih =>
    rw [oddB_s]
    by_cases c : p n = true
    · rw [sumW_y c, ← ih]
      by_cases o : n % 2 = 1
      · rw [if_pos ⟨c, o⟩, o]
        omega
      · rw [if_neg fun q => o q.2, show n % 2 = 0 by omega]
        omega
    · rw [sumW_n c, if_neg fun q => c q.1]
      exact ih
theorem oddB_neg (p : Nat → Bool) (n : Nat) : oddB (npB p) n + oddB p n = n / 2 := by
  induction n with
  | zero => rfl
  | succ n ih =>
    rw [oddB_s (npB p) n, oddB_s p n]
    by_cases o : n % 2 = 1
    · by_cases c : p n = true
      · have h1 : ¬ (npB p n = true ∧ n % 2 = 1) := fun q => by
          have q : (!p n) = true := q.1
          rw [c] at q
          cases q
        rw [if_neg h1, if_pos ⟨c, o⟩]
        omega
      · have h1 : npB p n = true ∧ n % 2 = 1 := ⟨by show (!p n) = true; rw [Bool.eq_false_iff.mpr c]; rfl, o⟩
        rw [if_pos h1, if_neg fun q => c q.1]
        omega
    · rw [if_neg fun q => o q.2, if_neg fun q => o q.2]
      omega
def lenL (s : SL) (n : Nat) : Nat := itr (fun k c => c + lenN s k) n 0
theorem lenL_s (s : SL) (n : Nat) : lenL s (n + 1) = lenL s n + lenN s n := rfl
theorem lenL_spn {s : SL} (h : Sep s) {n : Nat} (hn : n ≤ s.1) : ((lenL s n : Nat) : Int) = spnW (fun g => ((g % 2 : Nat) : Int)) s n := by
  induction n with
  | zero => rfl
  | succ n ih =>
    have h1 := h n (by omega)
    have h2 := ih (by omega)
    rw [spnW_s, ← h2, totW_odd, totW_odd, lenL_s]
    unfold lenN
    omega
theorem Rep.len {p : Nat → Bool} {n : Nat} {s : SL} (h : Rep p n s) : lenL s s.1 = oddB p n := by
  have h1 := lenL_spn h.1 (Nat.le_refl _)
  have h2 := oddB_sum p n
  rw [h.sum] at h2
  omega
theorem lenL_ge (s : SL) {k n : Nat} (h : k < n) : lenN s k ≤ lenL s n := by
  induction n with
  | zero => omega
  | succ n ih =>
    rw [lenL_s]
    by_cases e : k = n
    · rw [e]
      omega
    · have := ih (by omega)
      omega
theorem lon_le (u : SRs) (n : Nat) : ∃ c : Nat, c ≤ n ∧ lonR u n = nI c := by
  induction n with
  | zero => exact ⟨0, Nat.le_refl _, rfl⟩
  | succ n ih =>
    obtain ⟨c, h1, h2⟩ := ih
    have e : lonR u (n + 1) = if lenR u (nI n) = 0 then lonR u n + 1 else lonR u n := rfl
    rw [e, h2]
    by_cases q : lenR u (nI n) = 0
    · rw [if_pos q]
      exact ⟨c + 1, by omega, nI_1 _⟩
    · rw [if_neg q]
      exact ⟨c, by omega, rfl⟩
theorem os3 (f : Nat → Int32) (s : SRs) : ∃ c : Nat, c ≤ (runs f).1 ∧ facSv f 3 s = nI c := by
  obtain ⟨c, h1, h2⟩ := lon_le (rrR f (nI 1) s 201) (rrR f (nI 1) s 201).2.2
  refine ⟨c, ?_, ?_⟩
  · rw [rr_n, runV_1] at h1
    exact h1
  · unfold facSv
    rw [if_neg (by decide), if_neg (by decide), if_neg (by decide), if_pos rfl, h2]
theorem len_out (u : SRs) (h : u.2.2 = 0) (k : Int32) : lenR u k = nI 0 := by
  obtain ⟨a, b, c⟩ := u
  have h : c = 0 := h
  subst h
  unfold lenR facR
  rw [if_neg (show ¬ nI 1 = 0 by decide), if_pos (show nI 1 = 1 from rfl), if_pos (show nI 0 = 0 from rfl), fstR_0, lasR_0]
  decide
theorem os5 (f : Nat → Int32) (s : SRs) : ∃ x : Nat, x + oddB (pB f) 201 ≤ 100 ∧ facSv f 5 s = nI x := by
  have e : facSv f 5 s = lenR (rrR f (nI 0) s 201) (lngR (rrR f (nI 0) s 201) ((rrR f (nI 0) s 201).2.2 - 1)) := by
    unfold facSv
    rw [if_neg (by decide), if_neg (by decide), if_neg (by decide), if_neg (by decide), if_neg (by decide)]
  have hn := oddB_neg (pB f) 201
  have hz : (rrR f (nI 0) s 201).2.2 = (gaps f).1 := by rw [rr_n, runV_0]
  rw [e]
  by_cases c : (gaps f).1 = 0
  · exact ⟨0, by omega, len_out _ (hz.trans c) _⟩
  · have hl := (lngN_ok (gaps f) ((gaps f).1 - 1)).1
    have h1 := rr_lng f (nI 0) s (n := (gaps f).1 - 1) (by rw [runV_0]; omega)
    have h2 := rr_len f (nI 0) s (i := lngN (gaps f) ((gaps f).1 - 1)) (by rw [runV_0]; omega)
    rw [runV_0] at h1 h2
    rw [hz, h1, h2]
    have h3 := lenL_ge (gaps f) (show lngN (gaps f) ((gaps f).1 - 1) < (gaps f).1 by omega)
    have h4 := (gaps_ok f).len
    have h5 : oddB (fun g => !pB f g) 201 = oddB (npB (pB f)) 201 := rfl
    exact ⟨_, by omega, rfl⟩
/-- spans and gaps: as many, or one more -/
theorem alt (p : Nat → Bool) (n : Nat) : (n = 0 → (spS p n).1 = 0 ∧ (spS (npB p) n).1 = 0) ∧ (0 < n → p (n - 1) = true → (spS (npB p) n).1 ≤ (spS p n).1 ∧ (spS p n).1 ≤ (spS (npB p) n).1 + 1) ∧ (0 < n → ¬ p (n - 1) = true → (spS p n).1 ≤ (spS (npB p) n).1 ∧ (spS (npB p) n).1 ≤ (spS p n).1 + 1) := by
  induction n with
  | zero => exact ⟨fun _ => ⟨rfl, rfl⟩, fun q => absurd q (Nat.lt_irrefl 0), fun q => absurd q (Nat.lt_irrefl 0)⟩
  | succ n ih =>
    obtain ⟨h1, h2, h3⟩ := ih
    have np_y : ∀ g : Nat, ¬ p g = true → npB p g = true := fun g q => by show (!p g) = true; rw [Bool.eq_false_iff.mpr q]; rfl
    have np_n : ∀ g : Nat, p g = true → ¬ npB p g = true := fun g q q2 => by
      have q2 : (!p g) = true := q2
      rw [q] at q2
      cases q2
    rw [spS_s, spS_s, Nat.add_sub_cancel]
    refine ⟨fun q => by omega, fun _ c => ?_, fun _ c => ?_⟩
    · rw [spF_n (np_n n c)]
      by_cases c2 : 0 < n ∧ p (n - 1) = true
      · rw [spF_x c c2]
        exact h2 c2.1 c2.2
      · rw [spF_b c c2]
        show _ ≤ (spS p n).1 + 1 ∧ (spS p n).1 + 1 ≤ _
        rcases Nat.eq_zero_or_pos n with z | z
        · have := h1 z
          omega
        · have := h3 z fun q => c2 ⟨z, q⟩
          omega
    · rw [spF_n c]
      have c := np_y n c
      by_cases c2 : 0 < n ∧ npB p (n - 1) = true
      · rw [spF_x c c2]
        exact h3 c2.1 fun q => np_n _ q c2.2
      · rw [spF_b c c2]
        show (spS p n).1 ≤ (spS (npB p) n).1 + 1 ∧ (spS (npB p) n).1 + 1 ≤ _
        rcases Nat.eq_zero_or_pos n with z | z
        · have := h1 z
          omega
        · have h4 : p (n - 1) = true := Classical.byContradiction fun q => c2 ⟨z, np_y _ q⟩
          have := h2 z h4
          omega
theorem gaps_many (f : Nat → Int32) : (gaps f).1 ≤ (runs f).1 + 1 ∧ (runs f).1 ≤ (gaps f).1 + 1 := by
  obtain ⟨-, h2, h3⟩ := alt (pB f) 201
  have e : (gaps f).1 = (spS (npB (pB f)) 201).1 := rfl
  have e2 : (runs f).1 = (spS (pB f) 201).1 := rfl
  by_cases c : pB f (201 - 1) = true
  · have := h2 (by omega) c
    omega
  · have := h3 (by omega) c
    omega
theorem runs_sp (f : Nat → Int32) {i : Nat} (h : i < (runs f).1) : (runs f).2.1 i ≤ (runs f).2.2 i ∧ (runs f).2.2 i ≤ 200 := ⟨((runs_ok f).1 i h).1, ((runs_ok f).1 i h).2.1⟩
/-- what the class tells of a span: where it begins, where it ends, its ends -/
theorem sp_f0 (f : Nat → Int32) (s : SRs) {i : Nat} (hi : i < (runs f).1) : facR (rrR f (nI 1) s 201) (nI i) (nI 0) = nI ((runs f).2.1 i / 2) := by
  have h := rr_f0 f (nI 1) s (i := i) (by rw [runV_1]; exact hi)
  rwa [runV_1] at h
theorem sp_f1 (f : Nat → Int32) (s : SRs) {i : Nat} (hi : i < (runs f).1) : facR (rrR f (nI 1) s 201) (nI i) (nI 1) = nI (((runs f).2.2 i + 1) / 2) := by
  have h := rr_f1 f (nI 1) s (i := i) (by rw [runV_1]; exact hi)
  rwa [runV_1] at h
theorem sp_f2 (f : Nat → Int32) (s : SRs) {i : Nat} (hi : i < (runs f).1) : facR (rrR f (nI 1) s 201) (nI i) (nI 2) = nI ((1 - (runs f).2.1 i % 2) + 2 * (1 - (runs f).2.2 i % 2)) := by
  have h := rr_f2 f (nI 1) s (i := i) (by rw [runV_1]; exact hi)
  rwa [runV_1] at h
theorem sp_n (f : Nat → Int32) (s : SRs) : (rrR f (nI 1) s 201).2.2 = (runs f).1 := by rw [rr_n, runV_1]
/-- the first grain, the last one, out of what is told of the ends -/
theorem sp_from {a b : Nat} : 2 * (a / 2) + 1 - ((1 - a % 2) + 2 * (1 - b % 2)) % 2 = a := by omega
theorem sp_to {a b : Nat} (hb : b ≤ 200) : nI (2 * ((b + 1) / 2)) - nI 1 + nI (((1 - a % 2) + 2 * (1 - b % 2)) / 2) = nI b := by
  by_cases c : b % 2 = 0
  · rw [show ((1 - a % 2) + 2 * (1 - b % 2)) / 2 = 1 by omega, Int32.sub_add_cancel]
    congr 1
    omega
  · rw [show ((1 - a % 2) + 2 * (1 - b % 2)) / 2 = 0 by omega, pk_sub (by omega), nI_add]
    congr 1
    omega
/-- how far a grain is: 0 in the set, 1 at its side -/
theorem far_0 {f : Nat → Int32} {g : Nat} {r : Int32} (h : (r = -1 ∧ ∀ j : Nat, j < 201 → holdZ f (nI g - nI j) = 0 ∧ holdZ f (nI (g + j)) = 0) ∨ ∃ j : Nat, j < 201 ∧ r = nI j ∧ (¬ holdZ f (nI g - nI j) = 0 ∨ ¬ holdZ f (nI (g + j)) = 0) ∧ ∀ i : Nat, i < j → holdZ f (nI g - nI i) = 0 ∧ holdZ f (nI (g + i)) = 0) (hp : pB f g = true) : r = nI 0 := by
  have hp := pB_y.mp hp
  rcases h with ⟨-, h⟩ | ⟨j, -, h1, -, h⟩
  · exact absurd (h 0 (by omega)).2 hp
  · rcases Nat.eq_zero_or_pos j with z | z
    · rw [h1, z]
    · exact absurd (h 0 z).2 hp
theorem far_1 {f : Nat → Int32} {g : Nat} {r : Int32} (h : (r = -1 ∧ ∀ j : Nat, j < 201 → holdZ f (nI g - nI j) = 0 ∧ holdZ f (nI (g + j)) = 0) ∨ ∃ j : Nat, j < 201 ∧ r = nI j ∧ (¬ holdZ f (nI g - nI j) = 0 ∨ ¬ holdZ f (nI (g + j)) = 0) ∧ ∀ i : Nat, i < j → holdZ f (nI g - nI i) = 0 ∧ holdZ f (nI (g + i)) = 0) (hg : 0 < g) (hp : pB f g = false) (hp2 : pB f (g - 1) = true) : r = nI 1 := by
  have hp := pB_n.mp hp
  have hp2 := pB_y.mp hp2
  have e : nI g - nI 1 = nI (g - 1) := pk_sub (by omega)
  rcases h with ⟨-, h⟩ | ⟨j, -, h1, h2, h⟩
  · refine absurd (h 1 (by omega)).1 ?_
    rw [e]
    exact hp2
  · rcases (show j = 0 ∨ j = 1 ∨ 1 < j by omega) with z | z | z
    · exfalso
      rw [z, pk_sub (Nat.zero_le _)] at h2
      rcases h2 with h2 | h2
      · exact h2 hp
      · exact h2 hp
    · rw [h1, z]
    · refine absurd (h 1 z).1 ?_
      rw [e]
      exact hp2
/-- what a set has in common with itself -/
theorem mt_self (f : Nat → Int32) (n : Nat) : mtZ f f (nI 2 * nI 0) n = lenZ f n := by
  induction n with
  | zero => rfl
  | succ n ih =>
    have e : nI (2 * n + 1) - nI 2 * nI 0 = nI (2 * n + 1) := by rw [pk_mul, Nat.mul_zero, pk_sub (Nat.zero_le _), Nat.sub_zero]
    rw [mtZ_s, lenZ_s, e, ih]
    by_cases c : holdZ f (nI (2 * n + 1)) = 0
    · rw [if_pos c, if_pos c]
    · rw [if_neg c, if_neg c]
theorem mt_none {f g : Nat → Int32} (h : ∀ j : Nat, j < 201 → holdZ f (nI j) = 0 ∨ holdZ g (nI j) = 0) {n : Nat} (hn : n ≤ 100) : mtZ f g (nI 2 * nI 0) n = nI 0 := by
  induction n with
  | zero => rfl
  | succ n ih =>
    have e : nI (2 * n + 1) - nI 2 * nI 0 = nI (2 * n + 1) := by rw [pk_mul, Nat.mul_zero, pk_sub (Nat.zero_le _), Nat.sub_zero]
    rw [mtZ_s, e, ih (by omega)]
    rcases h (2 * n + 1) (by omega) with c | c
    · rw [if_pos c]
      split <;> rfl
    · rw [if_pos c]
theorem lie_0 {f g : Nat → Int32} (h : lieA f g (nI 2 * nI 0)) : ∀ j : Nat, j < 201 → holdZ f (nI j) = 0 ∨ holdZ g (nI j) = 0 := by
  intro j hj
  rcases h j hj with q | ⟨-, -, q⟩
  · exact Or.inl q
  · refine Or.inr ?_
    rwa [pk_mul, Nat.mul_zero, nI_add] at q
theorem clr_0 {f g : Nat → Int32} {r : Int32} (h : (r = nI 1000 ∧ ∀ i : Nat, i < 101 → ¬ lieA f g (nI 2 * -nI i) ∧ ¬ lieA f g (nI 2 * nI i)) ∨ (∃ n : Nat, n < 101 ∧ (∀ i : Nat, i < n → ¬ lieA f g (nI 2 * -nI i) ∧ ¬ lieA f g (nI 2 * nI i)) ∧ ((r = -nI n ∧ lieA f g (nI 2 * -nI n)) ∨ (r = nI n ∧ ¬ lieA f g (nI 2 * -nI n) ∧ lieA f g (nI 2 * nI n))))) (h0 : r = 0) : mtZ f g (nI 2 * nI 0) 100 = nI 0 := by
  have key : lieA f g (nI 2 * nI 0) := by
    rcases h with ⟨h, -⟩ | ⟨n, hn, -, ⟨h1, h2⟩ | ⟨h1, -, h2⟩⟩
    · rw [h] at h0
      exact absurd h0 (by decide)
    · have z : n = 0 := by
        have e := congrArg Int32.toInt (h1.symm.trans h0)
        rw [Int32.toInt_neg, nI_toInt (by omega), Int.bmod_eq_of_le (by omega) (by omega)] at e
        have e0 : (0 : Int32).toInt = 0 := rfl
        omega
      rw [z] at h2
      exact h2
    · have z : n = 0 := (nI_eq (by omega) (by omega)).mp (h1.symm.trans h0)
      rw [z] at h2
      exact h2
  exact mt_none (lie_0 key) (Nat.le_refl _)
/-- besides: the one way round and the other -/
theorem bes_self (f : Nat → Int32) : besV f f = nI 0 := by
  unfold besV
  rw [if_pos (show subZ f f from fun _ _ q => q), if_pos (show subZ f f from fun _ _ q => q)]
theorem bes_sym0 (f g : Nat → Int32) : besV f g = 0 ↔ besV g f = 0 := by
  unfold besV
  by_cases c1 : subZ f g
  · by_cases c2 : subZ g f
    · rw [if_pos c1, if_pos c2, if_pos c2, if_pos c1]
    · rw [if_pos c1, if_neg c2, if_neg c2, if_pos c1]
      decide
  · by_cases c2 : subZ g f
    · rw [if_neg c1, if_pos c2, if_pos c2, if_neg c1]
      decide
    · rw [if_neg c1, if_neg c2, if_neg c2, if_neg c1]
      constructor <;> intro q <;> split at q <;> exact absurd q (by decide)
theorem bes_sym1 (f g : Nat → Int32) : besV f g = nI 1 ↔ besV g f = nI 2 := by
  unfold besV
  by_cases c1 : subZ f g
  · by_cases c2 : subZ g f
    · rw [if_pos c1, if_pos c2, if_pos c2, if_pos c1]
      decide
    · rw [if_pos c1, if_neg c2, if_neg c2, if_pos c1]
      decide
  · by_cases c2 : subZ g f
    · rw [if_neg c1, if_pos c2, if_pos c2, if_neg c1]
      decide
    · rw [if_neg c1, if_neg c2, if_neg c2, if_neg c1]
      constructor <;> intro q <;> split at q <;> exact absurd q (by decide)
