theorem holdZ_n {f : Nat → Int32} {j : Nat} (h : j < 201) : holdZ f (nI j) = if f j = 0 then nI 0 else nI 1 := by
  unfold holdZ
  rw [if_neg (nI_pos (by omega)), if_neg (fun q => absurd ((nI_leI (by omega) (by omega)).mp q) (by omega)), nI_clamp (by omega)]
theorem rrR_e1 {f : Nat → Int32} (h : ∀ j : Nat, j < 201 → holdZ f (nI j) = 0) (s : SRs) {n : Nat} (hn : n ≤ 201) : rrR f (nI 1) s n = (s.1, s.2.1, 0) := by
  induction n with
  | zero => rfl
  | succ n ih =>
    rw [rrR_s, if_neg]
    · exact ih (by omega)
    · rw [h n (by omega)]
      decide
theorem fstR_0 (a b : Nat → Int32) (k : Int32) : fstR (a, b, 0) k = nI 0 := by
  unfold fstR
  split
  · rfl
  · next h =>
    rw [if_pos]
    show nI 0 ≤ k
    exact Int32.not_lt.mp h
theorem lasR_0 (a b : Nat → Int32) (k : Int32) : lasR (a, b, 0) k = -1 := by
  unfold lasR
  split
  · rfl
  · next h =>
    rw [if_pos]
    show nI 0 ≤ k
    exact Int32.not_lt.mp h
theorem wrZ_n {f : Nat → Int32} {j : Nat} {v : Int32} (h : j < 201) : wrZ f (nI j) v = upd f j v := by
  unfold wrZ
  rw [if_neg (nI_pos (by omega)), if_neg (fun q => absurd ((nI_leI (by omega) (by omega)).mp q) (by omega)), nI_clamp (by omega)]
theorem copyZ_e {f g : Nat → Int32} (h : ∀ j : Nat, j < 201 → holdZ g (nI j) = 0) {n : Nat} (hn : n ≤ 201) : ∀ j : Nat, j < n → copyZ f g n j = 0 := by
  induction n with
  | zero => intro j hj; omega
  | succ n ih =>
    intro j hj
    rw [copyZ_s, wrZ_n (by omega), h n (by omega)]
    by_cases e : j = n
    · simp [upd, e]
    · simp only [upd, e, if_false]
      exact ih (by omega) j (by omega)
theorem holdZ_0 {f : Nat → Int32} {j : Nat} (hj : j < 201) (h : f j = 0) : holdZ f (nI j) = 0 := by
  rw [holdZ_n hj, if_pos h]
  rfl
def trnV (G : Nat → Nat → Int32) (k how r : Nat) : Nat → Int32 := if how = 0 then negV (G k) 201 else if how = 1 then cliV (G k) 200 else if how = 2 then criV (G k) 200 else if how = 3 then (addV (G k) 201).1 else if how = 4 then mirV (G k) (G 5) 201 else if how = 5 then grnV (G k) (G 5) r 201 else lenV (G k) (G 5) r 201
def bstV (f : Nat → Int32) (w n : Nat) : Int32 × Int32 := itr (fun i s => if arwV f (i + 1) (i + 1 + w - (i + 1)) ≤ s.2 then s else (nI (i + 1), arwV f (i + 1) (i + 1 + w - (i + 1)))) n (nI 0, arwV f 0 (w - 0))
theorem bstV_s (f : Nat → Int32) (w n : Nat) : bstV f w (n + 1) = if arwV f (n + 1) (n + 1 + w - (n + 1)) ≤ (bstV f w n).2 then bstV f w n else (nI (n + 1), arwV f (n + 1) (n + 1 + w - (n + 1))) := rfl
/-- change, of a set without grains -/
def chgZ (f : Nat → Int32) (how : Nat) : Nat → Int32 := if how = 0 then invZ f 201 else if how = 1 then dropZ f 101 else if how = 2 then edgZ (nI 1) f 101 else if how = 3 then oddZ (edgZ (nI 0) f 101) 100 else if how = 4 then mirZ f 100 else if how = 5 then (fillS (fillS f (nI 0) 0 (min 201 201 - 0)).1 (nI 1) 0 (min 0 201 - 0)).1 else if how = 6 then (fillS f (nI 1) 0 (min 0 201 - 0)).1 else (fillS f (nI 0) 0 (min 201 201 - 0)).1
