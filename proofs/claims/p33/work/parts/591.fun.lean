/-! FUNCTIONS: what the class makes of them, value by value (pure) -/
theorem nI_pre (n : Nat) : nI (n + 1) - nI 1 = nI n := by rw [pk_sub (by omega), Nat.add_sub_cancel]
theorem kepS_e (x : Int32) : jmax (-10000) (jmin (nI 10000) x) = kepS x := by
  unfold jmax jmin kepS
  have e1 : (nI 10000).toInt = 10000 := rfl
  have e2 : (-10000 : Int32).toInt = -10000 := rfl
  by_cases c1 : x < nI 10000
  · rw [if_pos c1, if_pos (Int32.le_of_lt c1)]
    by_cases c2 : -10000 < x
    · rw [if_pos c2, if_pos (Int32.le_of_lt c2)]
    · rw [if_neg c2]
      by_cases c3 : -10000 ≤ x
      · rw [if_pos c3]
        rw [Int32.lt_iff_toInt_lt] at c2
        rw [Int32.le_iff_toInt_le] at c3
        exact Int32.toInt_inj.mp (by omega)
      · rw [if_neg c3]
  · rw [if_neg c1, if_pos (by decide)]
    by_cases c2 : x ≤ nI 10000
    · rw [if_pos c2]
      rw [Int32.lt_iff_toInt_lt] at c1
      rw [Int32.le_iff_toInt_le] at c2
      have e : x = nI 10000 := Int32.toInt_inj.mp (by omega)
      rw [e, if_pos (by decide)]
    · rw [if_neg c2]
/-- within the limits -/
def inL (x : Int32) : Prop := -10000 ≤ x.toInt ∧ x.toInt ≤ 10000
theorem kepS_in (x : Int32) : inL (kepS x) := by
  unfold kepS inL
  have e1 : (nI 10000).toInt = 10000 := rfl
  have e2 : (-10000 : Int32).toInt = -10000 := rfl
  by_cases c1 : x ≤ nI 10000
  · rw [if_pos c1]
    rw [Int32.le_iff_toInt_le] at c1
    by_cases c2 : -10000 ≤ x
    · rw [if_pos c2]
      rw [Int32.le_iff_toInt_le] at c2
      omega
    · rw [if_neg c2]
      omega
  · rw [if_neg c1]
    omega
theorem kepS_id {x : Int32} (h : inL x) : kepS x = x := by
  have e1 : (nI 10000).toInt = 10000 := rfl
  have e2 : (-10000 : Int32).toInt = -10000 := rfl
  unfold inL at h
  unfold kepS
  rw [if_pos (by rw [Int32.le_iff_toInt_le]; omega), if_pos (by rw [Int32.le_iff_toInt_le]; omega)]
theorem wrV_n {f : Nat → Int32} {i : Nat} {v : Int32} (h : i < 201) : wrV f (nI i) v = upd f i (kepS v) := by
  unfold wrV
  rw [if_neg (nI_pos (by omega)), if_neg (fun q => absurd ((nI_leI (by omega) (by omega)).mp q) (by omega)), nI_clamp (by omega), kepS_e]
theorem atV_n {f : Nat → Int32} {j : Nat} (h : j < 201) : atV f (nI j) = f j := by
  unfold atV
  rw [if_neg (nI_pos (by omega)), if_neg (fun q => absurd ((nI_leI (by omega) (by omega)).mp q) (by omega)), nI_clamp (by omega)]
theorem upd_at (f : Nat → Int32) (i : Nat) (v : Int32) (j : Nat) : upd f i v j = if j = i then v else f j := by
  by_cases e : j = i
  · rw [if_pos e, e, pk_us]
  · rw [if_neg e, pk_un e]
/-- values changed one by one: what the row is when it is done -/
theorem itr_v {G : Nat → (Nat → Int32) → Nat → Int32} {val : Nat → Int32} (f : Nat → Int32) {n : Nat} (hG : ∀ (i : Nat) (s : Nat → Int32), i < n → (∀ j : Nat, j < 201 → s j = if j < i then val j else f j) → ∀ j : Nat, j < 201 → G i s j = if j = i then val i else s j) : ∀ g : Nat, g < 201 → itr G n f g = if g < n then val g else f g := by
  induction n with
  | zero =>
    intro g hg
    rw [if_neg (Nat.not_lt_zero g)]
    rfl
  | succ n ih =>
    intro g hg
    have h := ih fun i s hi => hG i s (by omega)
    rw [itr_s, hG n _ (Nat.lt_succ_self n) h g hg]
    by_cases e : g = n
    · subst e
      rw [if_pos rfl, if_pos (Nat.lt_succ_self g)]
    · rw [if_neg e, h g hg]
      by_cases e2 : g < n
      · rw [if_pos e2, if_pos (by omega)]
      · rw [if_neg e2, if_neg (by omega)]
theorem raiV_h (f : Nat → Int32) (x : Int32) (lo n : Nat) (hn : lo + n ≤ 201) : ∀ g : Nat, g < 201 → raiV f x lo n g = if lo ≤ g ∧ g < lo + n then kepS (f g + x) else f g := by
  induction n with
  | zero =>
    intro g hg
    rw [if_neg (by omega)]
    rfl
  | succ n ih =>
    intro g hg
    have h := ih (by omega)
    rw [raiV_s, wrV_n (by omega), upd_at, atV_n (by omega)]
    by_cases e : g = lo + n
    · rw [if_pos e, if_pos (by omega), e, h (lo + n) (by omega), if_neg (by omega)]
    · rw [if_neg e, h g hg]
      by_cases e2 : lo ≤ g ∧ g < lo + n
      · rw [if_pos e2, if_pos (by omega)]
      · rw [if_neg e2, if_neg (by omega)]
theorem setV_h (f g : Nat → Int32) (x : Int32) : ∀ j : Nat, j < 201 → setV f g x 201 j = if pB g j = true then kepS x else f j := by
  intro j hj
  have h := itr_v (G := fun i s => if holdZ g (nI i) = 0 then s else wrV s (nI i) x) (val := fun i => if pB g i = true then kepS x else f i) f (n := 201) (fun i s hi hs j hj => by
    by_cases c : holdZ g (nI i) = 0
    · rw [if_pos c]
      by_cases e : j = i
      · have h2 := hs i (by omega)
        rw [if_neg (Nat.lt_irrefl i)] at h2
        rw [if_pos e, e, h2, if_neg (by rw [pB_n.mpr c]; decide)]
      · rw [if_neg e]
    · rw [if_neg c, wrV_n (by omega), upd_at, if_pos (pB_y.mpr c)]) j hj
  rw [if_pos hj] at h
  exact h
theorem mxV_h (V : Nat → Nat → Int32) (to one other k : Nat) : ∀ j : Nat, j < 201 → mxV V to one other k 201 j = kepS (mixV (V one j) (V other j) k) := by
  intro j hj
  have h := itr_v (G := fun i g => wrV g (nI i) (mixV (atV (va_up V to g one) (nI i)) (atV (va_up V to g other) (nI i)) k)) (val := fun i => kepS (mixV (V one i) (V other i) k)) (V to) (n := 201) (fun i s hi hs j hj => by
    have h2 := hs i (by omega)
    rw [if_neg (Nat.lt_irrefl i)] at h2
    have h3 : ∀ q : Nat, atV (va_up V to s q) (nI i) = V q i := fun q => by
      rw [atV_n (by omega)]
      by_cases e : q = to
      · rw [e, va_up_s, h2]
      · rw [va_up_n _ _ e]
    rw [wrV_n (by omega), upd_at, h3, h3]) j hj
  rw [if_pos hj] at h
  exact h
theorem tkV_h (F : Nat → Nat → Int32) (fam : Nat) (f : Nat → Int32) : ∀ j : Nat, j < 201 → tkV F fam f 201 j = kepS (thkZ F fam (nI j) 8) := by
  intro j hj
  have h := itr_v (G := fun i g => wrV g (nI i) (thkZ F fam (nI i) 8)) (val := fun i => kepS (thkZ F fam (nI i) 8)) f (n := 201) (fun i s hi hs j hj => by rw [wrV_n (by omega), upd_at]) j hj
  rw [if_pos hj] at h
  exact h
theorem copyV_h (f g : Nat → Int32) : ∀ j : Nat, j < 201 → copyV f g 201 j = kepS (g j) := by
  intro j hj
  have h := itr_v (G := fun i s => wrV s (nI i) (atV g (nI i))) (val := fun i => kepS (g i)) f (n := 201) (fun i s hi hs j hj => by rw [wrV_n (by omega), upd_at, atV_n (by omega)]) j hj
  rw [if_pos hj] at h
  exact h
theorem negV_h (f : Nat → Int32) : ∀ j : Nat, j < 201 → negV f 201 j = kepS (-(f j)) := by
  intro j hj
  have h := itr_v (G := fun i s => wrV s (nI i) (-(atV s (nI i)))) (val := fun i => kepS (-(f i))) f (n := 201) (fun i s hi hs j hj => by
    have h2 := hs i (by omega)
    rw [if_neg (Nat.lt_irrefl i)] at h2
    rw [wrV_n (by omega), upd_at, atV_n (by omega), h2]) j hj
  rw [if_pos hj] at h
  exact h
theorem mirV_h (f g : Nat → Int32) : ∀ j : Nat, j < 201 → mirV f g 201 j = kepS (g (200 - j)) := by
  intro j hj
  have h := itr_v (G := fun i s => wrV s (nI i) (atV g (nI 200 - nI i))) (val := fun i => kepS (g (200 - i))) f (n := 201) (fun i s hi hs j hj => by rw [wrV_n (by omega), upd_at, pk_sub (by omega), atV_n (by omega)]) j hj
  rw [if_pos hj] at h
  exact h
/-- the sum of the values on grains that are no points -/
def sumO (f : Nat → Int32) (n : Nat) : Int32 := itr (fun g c => if g % 2 = 1 then c + f g else c) n (nI 0)
theorem sumO_s (f : Nat → Int32) (n : Nat) : sumO f (n + 1) = if n % 2 = 1 then sumO f n + f n else sumO f n := rfl
theorem addV_h (f : Nat → Int32) (n : Nat) (hn : n ≤ 201) : (addV f n).2 = sumO f n ∧ ∀ j : Nat, j < 201 → (addV f n).1 j = if j < n then kepS (sumO f (j + 1)) else f j := by
  induction n with
  | zero => exact ⟨rfl, fun j hj => by rw [if_neg (Nat.not_lt_zero j)]; rfl⟩
  | succ n ih =>
    obtain ⟨h1, h2⟩ := ih (by omega)
    have h3 := h2 n (by omega)
    rw [if_neg (Nat.lt_irrefl n)] at h3
    have e : (if ptZ (nI n) = 0 then (addV f n).2 + atV (addV f n).1 (nI n) else (addV f n).2) = sumO f (n + 1) := by
      rw [sumO_s, h1, atV_n (by omega), h3]
      by_cases c : n % 2 = 1
      · rw [if_pos ((pt_odd (by omega)).mpr c), if_pos c]
      · rw [if_neg (fun q => c ((pt_odd (by omega)).mp q)), if_neg c]
    rw [addV_s, e]
    refine ⟨rfl, fun j hj => ?_⟩
    show wrV (addV f n).1 (nI n) (sumO f (n + 1)) j = _
    rw [wrV_n (by omega), upd_at]
    by_cases c : j = n
    · rw [if_pos c, if_pos (by omega), c]
    · rw [if_neg c, h2 j hj]
      by_cases c2 : j < n
      · rw [if_pos c2, if_pos (by omega)]
      · rw [if_neg c2, if_neg (by omega)]
/-- m is the greatest of what v has where p holds (below n); the least -/
def MxP (p : Nat → Prop) (n : Nat) (v : Nat → Int32) (m : Int32) : Prop := (∀ o : Nat, o < n → p o → (v o).toInt ≤ m.toInt) ∧ ∃ o : Nat, o < n ∧ p o ∧ m = v o
def MnP (p : Nat → Prop) (n : Nat) (v : Nat → Int32) (m : Int32) : Prop := (∀ o : Nat, o < n → p o → m.toInt ≤ (v o).toInt) ∧ ∃ o : Nat, o < n ∧ p o ∧ m = v o
theorem MxP.uniq {p : Nat → Prop} {n : Nat} {v : Nat → Int32} {m m2 : Int32} (h : MxP p n v m) (h2 : MxP p n v m2) : m = m2 := by
  obtain ⟨a1, o1, b1, c1, d1⟩ := h
  obtain ⟨a2, o2, b2, c2, d2⟩ := h2
  have e1 := a1 o2 b2 c2
  have e2 := a2 o1 b1 c1
  rw [← d2] at e1
  rw [← d1] at e2
  exact Int32.toInt_inj.mp (by omega)
theorem MnP.uniq {p : Nat → Prop} {n : Nat} {v : Nat → Int32} {m m2 : Int32} (h : MnP p n v m) (h2 : MnP p n v m2) : m = m2 := by
  obtain ⟨a1, o1, b1, c1, d1⟩ := h
  obtain ⟨a2, o2, b2, c2, d2⟩ := h2
  have e1 := a1 o2 b2 c2
  have e2 := a2 o1 b1 c1
  rw [← d2] at e1
  rw [← d1] at e2
  exact Int32.toInt_inj.mp (by omega)
theorem jmax_t (x y : Int32) : (jmax x y).toInt = max x.toInt y.toInt ∧ (jmax x y = x ∨ jmax x y = y) := by
  unfold jmax
  by_cases c : x < y
  · rw [if_pos c]
    rw [Int32.lt_iff_toInt_lt] at c
    exact ⟨by omega, Or.inr rfl⟩
  · rw [if_neg c]
    rw [Int32.lt_iff_toInt_lt] at c
    exact ⟨by omega, Or.inl rfl⟩
theorem jmin_t (x y : Int32) : (jmin x y).toInt = min x.toInt y.toInt ∧ (jmin x y = x ∨ jmin x y = y) := by
  unfold jmin
  by_cases c : y < x
  · rw [if_pos c]
    rw [Int32.lt_iff_toInt_lt] at c
    exact ⟨by omega, Or.inr rfl⟩
  · rw [if_neg c]
    rw [Int32.lt_iff_toInt_lt] at c
    exact ⟨by omega, Or.inl rfl⟩
theorem grtV_h (f : Nat → Int32) (lo k : Nat) (hk : lo + k ≤ 201) (hf : ∀ j : Nat, j < 201 → inL (f j)) : (∀ o : Nat, lo ≤ o → o < lo + k → (f o).toInt ≤ (grtV f lo k).toInt) ∧ (0 < k → ∃ o : Nat, lo ≤ o ∧ o < lo + k ∧ grtV f lo k = f o) ∧ -10000 ≤ (grtV f lo k).toInt := by
  induction k with
  | zero => exact ⟨fun o a1 a2 => absurd a2 (by omega), fun q => absurd q (Nat.lt_irrefl 0), by show -10000 ≤ (-10000 : Int32).toInt; decide⟩
  | succ k ih =>
    obtain ⟨h1, h2, h3⟩ := ih (by omega)
    obtain ⟨e1, e2⟩ := jmax_t (grtV f lo k) (f (lo + k))
    have hb := hf (lo + k) (by omega)
    rw [grtV_s, atV_n (by omega)]
    refine ⟨fun o a1 a2 => ?_, fun _ => ?_, by omega⟩
    · rw [e1]
      by_cases c : o = lo + k
      · rw [c]
        omega
      · have := h1 o a1 (by omega)
        omega
    · rcases e2 with e2 | e2
      · rcases Nat.eq_zero_or_pos k with c | c
        · subst c
          refine ⟨lo, Nat.le_refl _, by omega, ?_⟩
          have e3 : (grtV f lo 0).toInt = -10000 := rfl
          have e4 : (f (lo + 0)).toInt ≤ -10000 := by
            rw [e2, e3] at e1
            omega
          rw [e2]
          unfold inL at hb
          refine Int32.toInt_inj.mp ?_
          rw [e3]
          show -10000 = (f (lo + 0)).toInt
          omega
        · obtain ⟨o, a1, a2, a3⟩ := h2 c
          exact ⟨o, a1, by omega, e2.trans a3⟩
      · exact ⟨lo + k, by omega, by omega, e2⟩
theorem lstV_h (f : Nat → Int32) (lo k : Nat) (hk : lo + k ≤ 201) (hf : ∀ j : Nat, j < 201 → inL (f j)) : (∀ o : Nat, lo ≤ o → o < lo + k → (lstV f lo k).toInt ≤ (f o).toInt) ∧ (0 < k → ∃ o : Nat, lo ≤ o ∧ o < lo + k ∧ lstV f lo k = f o) ∧ (lstV f lo k).toInt ≤ 10000 := by
  induction k with
  | zero => exact ⟨fun o a1 a2 => absurd a2 (by omega), fun q => absurd q (Nat.lt_irrefl 0), by show (nI 10000).toInt ≤ 10000; decide⟩
  | succ k ih =>
    obtain ⟨h1, h2, h3⟩ := ih (by omega)
    obtain ⟨e1, e2⟩ := jmin_t (lstV f lo k) (f (lo + k))
    have hb := hf (lo + k) (by omega)
    rw [lstV_s, atV_n (by omega)]
    refine ⟨fun o a1 a2 => ?_, fun _ => ?_, by omega⟩
    · rw [e1]
      by_cases c : o = lo + k
      · rw [c]
        omega
      · have := h1 o a1 (by omega)
        omega
    · rcases e2 with e2 | e2
      · rcases Nat.eq_zero_or_pos k with c | c
        · subst c
          refine ⟨lo, Nat.le_refl _, by omega, ?_⟩
          have e3 : (lstV f lo 0).toInt = 10000 := rfl
          have e4 : 10000 ≤ (f (lo + 0)).toInt := by
            rw [e2, e3] at e1
            omega
          rw [e2]
          unfold inL at hb
          refine Int32.toInt_inj.mp ?_
          rw [e3]
          show 10000 = (f (lo + 0)).toInt
          omega
        · obtain ⟨o, a1, a2, a3⟩ := h2 c
          exact ⟨o, a1, by omega, e2.trans a3⟩
      · exact ⟨lo + k, by omega, by omega, e2⟩
theorem grnV_h (f g : Nat → Int32) (r : Nat) (hg : ∀ j : Nat, j < 201 → inL (g j)) : ∀ j : Nat, j < 201 → MxP (fun o => o ≤ j + r ∧ j ≤ o + r) 201 g (grnV f g r 201 j) := by
  intro j hj
  have h := itr_v (G := fun i s => wrV s (nI i) (grtV g (i - r) (min (i + r + 1) 201 - (i - r)))) (val := fun i => kepS (grtV g (i - r) (min (i + r + 1) 201 - (i - r)))) f (n := 201) (fun i s hi hs j hj => by rw [wrV_n (by omega), upd_at]) j hj
  rw [if_pos hj] at h
  have h2 : grnV f g r 201 j = kepS (grtV g (j - r) (min (j + r + 1) 201 - (j - r))) := h
  obtain ⟨a1, a2, a3⟩ := grtV_h g (j - r) (min (j + r + 1) 201 - (j - r)) (by omega) hg
  obtain ⟨o, b1, b2, b3⟩ := a2 (by omega)
  have b4 : inL (grtV g (j - r) (min (j + r + 1) 201 - (j - r))) := by rw [b3]; exact hg o (by omega)
  rw [h2, kepS_id b4]
  exact ⟨fun o c1 c2 => a1 o (by omega) (by omega), o, by omega, by omega, b3⟩
theorem lenV_h (f g : Nat → Int32) (r : Nat) (hg : ∀ j : Nat, j < 201 → inL (g j)) : ∀ j : Nat, j < 201 → MnP (fun o => o ≤ j + r ∧ j ≤ o + r) 201 g (lenV f g r 201 j) := by
  intro j hj
  have h := itr_v (G := fun i s => wrV s (nI i) (lstV g (i - r) (min (i + r + 1) 201 - (i - r)))) (val := fun i => kepS (lstV g (i - r) (min (i + r + 1) 201 - (i - r)))) f (n := 201) (fun i s hi hs j hj => by rw [wrV_n (by omega), upd_at]) j hj
  rw [if_pos hj] at h
  have h2 : lenV f g r 201 j = kepS (lstV g (j - r) (min (j + r + 1) 201 - (j - r))) := h
  obtain ⟨a1, a2, a3⟩ := lstV_h g (j - r) (min (j + r + 1) 201 - (j - r)) (by omega) hg
  obtain ⟨o, b1, b2, b3⟩ := a2 (by omega)
  have b4 : inL (lstV g (j - r) (min (j + r + 1) 201 - (j - r))) := by rw [b3]; exact hg o (by omega)
  rw [h2, kepS_id b4]
  exact ⟨fun o c1 c2 => a1 o (by omega) (by omega), o, by omega, by omega, b3⟩
theorem cliV_h (f : Nat → Int32) (hf : ∀ j : Nat, j < 201 → inL (f j)) (n : Nat) (hn : n ≤ 200) : (∀ j : Nat, j ≤ n → MxP (fun o => o ≤ j) 201 f (cliV f n j)) ∧ ∀ j : Nat, n < j → j < 201 → cliV f n j = f j := by
  induction n with
  | zero =>
    refine ⟨fun j hj => ?_, fun j _ _ => rfl⟩
    rw [show j = 0 by omega]
    exact ⟨fun o _ a2 => by rw [show o = 0 by omega]; exact Int.le_refl _, 0, by omega, Nat.le_refl _, rfl⟩
  | succ n ih =>
    obtain ⟨h1, h2⟩ := ih (by omega)
    rw [cliV_s, wrV_n (by omega), nI_pre, atV_n (by omega), atV_n (by omega), h2 (n + 1) (by omega) (by omega)]
    obtain ⟨a1, o, b1, b2, b3⟩ := h1 n (Nat.le_refl _)
    obtain ⟨e1, e2⟩ := jmax_t (f (n + 1)) (cliV f n n)
    have hin : inL (jmax (f (n + 1)) (cliV f n n)) := by
      rcases e2 with e2 | e2
      · rw [e2]
        exact hf _ (by omega)
      · rw [e2, b3]
        exact hf _ b1
    rw [kepS_id hin]
    refine ⟨fun j hj => ?_, fun j c1 c2 => by rw [upd_at, if_neg (by omega)]; exact h2 j (by omega) c2⟩
    rw [upd_at]
    by_cases e : j = n + 1
    · rw [if_pos e]
      refine ⟨fun o2 d1 d2 => ?_, ?_⟩
      · rw [e1]
        by_cases e3 : o2 = n + 1
        · rw [e3]
          omega
        · have := a1 o2 d1 (by omega)
          omega
      · rcases e2 with e2 | e2
        · exact ⟨n + 1, by omega, by omega, e2⟩
        · exact ⟨o, b1, by omega, e2.trans b3⟩
    · rw [if_neg e]
      exact h1 j (by omega)
theorem criV_h (f : Nat → Int32) (hf : ∀ j : Nat, j < 201 → inL (f j)) (n : Nat) (hn : n ≤ 200) : (∀ j : Nat, 200 - n ≤ j → j < 201 → MxP (fun o => j ≤ o) 201 f (criV f n j)) ∧ ∀ j : Nat, j < 200 - n → criV f n j = f j := by
  induction n with
  | zero =>
    refine ⟨fun j hj h9 => ?_, fun j _ => rfl⟩
    rw [show j = 200 by omega]
    exact ⟨fun o a1 a2 => by rw [show o = 200 by omega]; exact Int.le_refl _, 200, by omega, Nat.le_refl _, rfl⟩
  | succ n ih =>
    obtain ⟨h1, h2⟩ := ih (by omega)
    have ed : dn 199 n = nI (199 - n) := pk_sub (by omega)
    rw [criV_s, ed, wrV_n (by omega), nI_add, atV_n (by omega), atV_n (by omega), h2 (199 - n) (by omega)]
    obtain ⟨a1, o, b1, b2, b3⟩ := h1 (199 - n + 1) (by omega) (by omega)
    obtain ⟨e1, e2⟩ := jmax_t (f (199 - n)) (criV f n (199 - n + 1))
    have hin : inL (jmax (f (199 - n)) (criV f n (199 - n + 1))) := by
      rcases e2 with e2 | e2
      · rw [e2]
        exact hf _ (by omega)
      · rw [e2, b3]
        exact hf _ b1
    rw [kepS_id hin]
    refine ⟨fun j hj h9 => ?_, fun j c1 => by rw [upd_at, if_neg (by omega)]; exact h2 j (by omega)⟩
    rw [upd_at]
    by_cases e : j = 199 - n
    · rw [if_pos e]
      refine ⟨fun o2 d1 d2 => ?_, ?_⟩
      · rw [e1]
        by_cases e3 : o2 = 199 - n
        · rw [e3]
          omega
        · have := a1 o2 d1 (by omega)
          omega
      · rcases e2 with e2 | e2
        · exact ⟨199 - n, by omega, by omega, e2⟩
        · exact ⟨o, b1, by omega, e2.trans b3⟩
    · rw [if_neg e]
      exact h1 j (by omega) h9
/-- steps: counted from the left and from the right -/
def stpN (f : Nat → Int32) (n : Nat) : Nat := itr (fun i c => if f (i + 1) = f i then c else c + 1) n 0
theorem stpN_s (f : Nat → Int32) (n : Nat) : stpN f (n + 1) = if f (n + 1) = f n then stpN f n else stpN f n + 1 := rfl
theorem stepsV_n (f : Nat → Int32) {n : Nat} (hn : n ≤ 200) : stepsV f n = nI (stpN f n + 1) := by
  induction n with
  | zero => rfl
  | succ n ih =>
    rw [stepsV_s, stpN_s, ih (by omega), nI_pre, atV_n (by omega), atV_n (by omega)]
    by_cases c : f (n + 1) = f n
    · rw [if_pos c, if_pos c]
    · rw [if_neg c, if_neg c]
      exact nI_1 _
theorem stpN_le (f : Nat → Int32) (n : Nat) : stpN f n ≤ n := by
  induction n with
  | zero => exact Nat.le_refl _
  | succ n ih =>
    rw [stpN_s]
    split <;> omega
theorem stpS_n (f : Nat → Int32) {n : Nat} (hn : n ≤ 200) : ∃ c : Nat, stpS f n = nI (c + 1) ∧ stpN f (200 - n) + c = stpN f 200 := by
  induction n with
  | zero => exact ⟨0, rfl, rfl⟩
  | succ n ih =>
    obtain ⟨c, h1, h2⟩ := ih (by omega)
    have e : stpN f (200 - n) = if f (200 - n) = f (200 - n - 1) then stpN f (200 - (n + 1)) else stpN f (200 - (n + 1)) + 1 := by
      obtain ⟨k, hk⟩ : ∃ k : Nat, 200 - n = k + 1 := ⟨199 - n, by omega⟩
      rw [show 200 - (n + 1) = k by omega, hk, Nat.add_sub_cancel]
      exact stpN_s f k
    rw [stpS_s, h1]
    by_cases c9 : f (200 - n) = f (200 - n - 1)
    · rw [if_pos c9] at e ⊢
      exact ⟨c, rfl, by omega⟩
    · rw [if_neg c9] at e ⊢
      exact ⟨c + 1, nI_1 _, by omega⟩
theorem steps_eq {f g : Nat → Int32} (h : ∀ j : Nat, j < 201 → f j = g j) : stepsV f 200 = stpS g 200 := by
  obtain ⟨c, h1, h2⟩ := stpS_n g (Nat.le_refl 200)
  have e : ∀ n : Nat, n ≤ 200 → stpN f n = stpN g n := fun n => by
    induction n with
    | zero => exact fun _ => rfl
    | succ n ih =>
      intro hn
      rw [stpN_s, stpN_s, ih (by omega), h n (by omega), h (n + 1) (by omega)]
  have e0 : stpN g (200 - 200) = 0 := rfl
  rw [stepsV_n f (Nat.le_refl 200), h1, e 200 (Nat.le_refl 200)]
  congr 1
  omega
