/-! THE LAW: what holds where it stands -/
def LCx (p : Program) (s : State) (m : MethodId) (args : Array Value) (c : Code) (D : va_G) (T : Nat → ClassId) : Prop := p.tables.exec = Jvm.exec ∧ c.code = cL_law ∧ c.maxLocals = 17 ∧ s.vm.findClass RL = some m.cls ∧ (∀ w ∈ wsL_law, w.before args s = true) ∧ KB D T s
/-- Stones' world, the class's sets and functions as they are; what else the class keeps is free -/
def CS (D : va_G) (T : Nat → ClassId) (ad : Nat → Nat) (o sc N : Nat) (sf : Nat → Int32) (d : Nat) (F V : Nat → Nat → Int32) (L : Nat → SL) (U : Nat → Nat → Int32) (H : Heap) : Prop := ∃ (dr : Nat) (sr : SRs) (C : Nat → Int32) (la vv : Nat → Nat), dr ≤ d ∧ o + 53 ≤ H.size ∧ sr.2.2 ≤ 201 ∧ SW D T ad o sc N sf dr F V sr C L U la vv H
theorem CS.le {D : va_G} {T : Nat → ClassId} {ad : Nat → Nat} {o sc N d d2 : Nat} {sf : Nat → Int32} {F V : Nat → Nat → Int32} {L : Nat → SL} {U : Nat → Nat → Int32} {H : Heap} (h : CS D T ad o sc N sf d F V L U H) (hd : d ≤ d2) : CS D T ad o sc N sf d2 F V L U H := by
  obtain ⟨dr, sr, C, la, vv, h1, h2⟩ := h
  exact ⟨dr, sr, C, la, vv, Nat.le_trans h1 hd, h2⟩
theorem hold_1 {f : Nat → Int32} {g : Nat} (h : pB f g = true) : holdZ f (nI g) = nI 1 := by rw [hold_pB, if_pos h]
theorem hold_0 {f : Nat → Int32} {g : Nat} (h : pB f g = false) : holdZ f (nI g) = nI 0 := pB_n.mp h
/-- where the span before ended -/
def lastV (s : SL) (j : Nat) : Int32 := if j = 0 then -2 else nI (s.2.2 (j - 1))
theorem last_0 (s : SL) : lastV s 0 = -2 := if_pos rfl
theorem last_s (s : SL) (j : Nat) : lastV s (j + 1) = nI (s.2.2 j) := by
  unfold lastV
  rw [if_neg (Nat.succ_ne_zero j), Nat.add_sub_cancel]
theorem last_ok {p : Nat → Bool} {s : SL} (h : Rep p 201 s) {j : Nat} (hj : j < s.1) : ¬ nI (s.2.1 j) < lastV s j + nI 2 := by
  have h1 := h.sp hj
  rcases Nat.eq_zero_or_pos j with e | e
  · subst e
    rw [last_0]
    intro q
    have q2 : nI (s.2.1 0) < nI 0 := q
    exact absurd ((nI_ltI (by omega) (by omega)).mp q2) (Nat.not_lt_zero _)
  · have h2 : s.2.2 (j - 1) + 2 ≤ s.2.1 j := h.mono (by omega) hj
    rw [show j = j - 1 + 1 by omega, last_s, nI_add, nI_ltI (by rw [show j - 1 + 1 = j by omega]; omega) (by omega), show j - 1 + 1 = j by omega]
    omega
