/-! THE WORLD OF ONE PuddingstoneLine: 37 cells. ad 0 the object, 1 and 2 its rows of sets and functions, 3 its SpanRow, 4 .. 12 the GrainSets (12 the spare one), 13 .. 21 their rows, 22 .. 27 the StepFunctions (27 the spare one), 28 .. 33 their rows, 34, 35 the SpanRow's rows, 36 coverSets -/
def plE (T : Nat → ClassId) (ad : Nat → Nat) (F V : Nat → Nat → Int32) (sr : SRs) (C : Nat → Int32) (i : Nat) : va_E :=
  if i = 0 then eO 3 [.ref (ad 1), .ref (ad 2), .ref (ad (4 + 8)), .ref (ad (22 + 5)), .ref (ad 3), .ref (ad 36)]
  else if i = 1 then eR (T 2) 8 (fun k => some (ad (4 + k)))
  else if i = 2 then eR (T 3) 5 (fun k => some (ad (22 + k)))
  else if i = 3 then eO 1 [.ref (ad 34), .ref (ad 35), .int (nI sr.2.2)]
  else if i < 13 then eO 0 [.ref (ad (13 + (i - 4)))]
  else if i < 22 then eN (T 0) 201 (F (i - 13))
  else if i < 28 then eO 2 [.ref (ad (28 + (i - 22)))]
  else if i < 34 then eN (T 1) 201 (V (i - 28))
  else if i = 34 then eN (T 1) 201 sr.1
  else if i = 35 then eN (T 1) 201 sr.2.1
  else eN (T 1) 201 C
def PLD (ad : Nat → Nat) : Prop := ∀ i j : Nat, i < 37 → j < 37 → ad i = ad j → i = j
def PLA (ad : Nat → Nat) : Nat → Prop := fun q => ∃ i : Nat, i < 37 ∧ q = ad i
def PLW (D : va_G) (T : Nat → ClassId) (ad : Nat → Nat) (F V : Nat → Nat → Int32) (sr : SRs) (C : Nat → Int32) (H : Heap) : Prop := PLD ad ∧ ∀ i : Nat, i < 37 → pAt D H (ad i) (plE T ad F V sr C i)
section PLs
variable {D : va_G} {T : Nat → ClassId} {ad : Nat → Nat} {F V : Nat → Nat → Int32} {sr : SRs} {C : Nat → Int32} {H H1 : Heap}
theorem plE_4 {k : Nat} (h : k < 9) : plE T ad F V sr C (4 + k) = eO 0 [.ref (ad (13 + k))] := by
  unfold plE
  rw [if_neg (by omega), if_neg (by omega), if_neg (by omega), if_neg (by omega), if_pos (by omega), show 4 + k - 4 = k by omega]
theorem plE_13 {k : Nat} (h : k < 9) : plE T ad F V sr C (13 + k) = eN (T 0) 201 (F k) := by
  unfold plE
  rw [if_neg (by omega), if_neg (by omega), if_neg (by omega), if_neg (by omega), if_neg (by omega), if_pos (by omega), show 13 + k - 13 = k by omega]
theorem plE_22 {k : Nat} (h : k < 6) : plE T ad F V sr C (22 + k) = eO 2 [.ref (ad (28 + k))] := by
  unfold plE
  rw [if_neg (by omega), if_neg (by omega), if_neg (by omega), if_neg (by omega), if_neg (by omega), if_neg (by omega), if_pos (by omega), show 22 + k - 22 = k by omega]
theorem plE_28 {k : Nat} (h : k < 6) : plE T ad F V sr C (28 + k) = eN (T 1) 201 (V k) := by
  unfold plE
  rw [if_neg (by omega), if_neg (by omega), if_neg (by omega), if_neg (by omega), if_neg (by omega), if_neg (by omega), if_neg (by omega), if_pos (by omega), show 28 + k - 28 = k by omega]
theorem PLW.o (h : PLW D T ad F V sr C H) : pAt D H (ad 0) (eO 3 [.ref (ad 1), .ref (ad 2), .ref (ad (4 + 8)), .ref (ad (22 + 5)), .ref (ad 3), .ref (ad 36)]) := h.2 0 (by omega)
theorem PLW.sa (h : PLW D T ad F V sr C H) : pAt D H (ad 1) (eR (T 2) 8 (fun k => some (ad (4 + k)))) := h.2 1 (by omega)
theorem PLW.fa (h : PLW D T ad F V sr C H) : pAt D H (ad 2) (eR (T 3) 5 (fun k => some (ad (22 + k)))) := h.2 2 (by omega)
theorem PLW.g (h : PLW D T ad F V sr C H) (k : Nat) (hk : k < 9) : pAt D H (ad (4 + k)) (eO 0 [.ref (ad (13 + k))]) := plE_4 (F := F) (V := V) (sr := sr) (C := C) (T := T) (ad := ad) hk ▸ h.2 (4 + k) (by omega)
theorem PLW.ga (h : PLW D T ad F V sr C H) (k : Nat) (hk : k < 9) : pAt D H (ad (13 + k)) (eN (T 0) 201 (F k)) := plE_13 (F := F) (V := V) (sr := sr) (C := C) (T := T) (ad := ad) hk ▸ h.2 (13 + k) (by omega)
theorem PLW.f (h : PLW D T ad F V sr C H) (k : Nat) (hk : k < 6) : pAt D H (ad (22 + k)) (eO 2 [.ref (ad (28 + k))]) := plE_22 (F := F) (V := V) (sr := sr) (C := C) (T := T) (ad := ad) hk ▸ h.2 (22 + k) (by omega)
theorem PLW.fv (h : PLW D T ad F V sr C H) (k : Nat) (hk : k < 6) : pAt D H (ad (28 + k)) (eN (T 1) 201 (V k)) := plE_28 (F := F) (V := V) (sr := sr) (C := C) (T := T) (ad := ad) hk ▸ h.2 (28 + k) (by omega)
theorem PLW.gs (h : PLW D T ad F V sr C H) (k : Nat) (hk : k < 9) : GS D T (ad (4 + k)) (ad (13 + k)) (F k) H := ⟨h.g k hk, h.ga k hk, fun q => absurd (h.1 _ _ (by omega) (by omega) q) (by omega)⟩
theorem PLW.sf (h : PLW D T ad F V sr C H) (k : Nat) (hk : k < 6) : SF D T (ad (22 + k)) (ad (28 + k)) (V k) H := ⟨h.f k hk, h.fv k hk, fun q => absurd (h.1 _ _ (by omega) (by omega) q) (by omega)⟩
theorem PLW.srr (h : PLW D T ad F V sr C H) : SR D T (ad 3) (ad 34) (ad 35) sr H := ⟨h.2 3 (by omega), h.2 34 (by omega), h.2 35 (by omega)⟩
theorem PLW.cv (h : PLW D T ad F V sr C H) : pAt D H (ad 36) (eN (T 1) 201 C) := h.2 36 (by omega)
theorem PLD.ne (h : PLD ad) (i j : Nat) (hi : i < 37) (hj : j < 37) (hn : i ≠ j) : ad i ≠ ad j := fun q => hn (h i j hi hj q)
theorem PLD.sr3 (h : PLD ad) : ad 3 ≠ ad 34 ∧ ad 3 ≠ ad 35 ∧ ad 34 ≠ ad 35 := ⟨h.ne _ _ (by omega) (by omega) (by omega), h.ne _ _ (by omega) (by omega) (by omega), h.ne _ _ (by omega) (by omega) (by omega)⟩
theorem PLD.nsr (h : PLD ad) (i : Nat) (hi : i < 37) (h3 : i ≠ 3 ∧ i ≠ 34 ∧ i ≠ 35) : ¬ (ad i = ad 3 ∨ ad i = ad 34 ∨ ad i = ad 35) := fun q => q.elim (h.ne i 3 hi (by omega) h3.1) (fun q => q.elim (h.ne i 34 hi (by omega) h3.2.1) (h.ne i 35 hi (by omega) h3.2.2))
theorem PLW.kept (h : PLW D T ad F V sr C H) (hq : ∀ q : Nat, q < H.size → ¬ False → H1[q]? = H[q]?) : PLW D T ad F V sr C H1 := ⟨h.1, fun i hi => (h.2 i hi).kept (hq _ (h.2 i hi).lt id)⟩
theorem PLW.upd (h : PLW D T ad F V sr C H) {F' V' : Nat → Nat → Int32} {sr' : SRs} {C' : Nat → Int32} {A : Nat → Prop} (hk : ∀ q : Nat, q < H.size → ¬ A q → H1[q]? = H[q]?) (hs : ∀ i : Nat, i < 37 → (¬ A (ad i) ∧ plE T ad F' V' sr' C' i = plE T ad F V sr C i) ∨ pAt D H1 (ad i) (plE T ad F' V' sr' C' i)) : PLW D T ad F' V' sr' C' H1 := ⟨h.1, fun i hi => by
  rcases hs i hi with ⟨h1, h2⟩ | h1
  · rw [h2]
    exact (h.2 i hi).kept (hk _ (h.2 i hi).lt h1)
  · exact h1⟩
theorem plE_F {k : Nat} {f : Nat → Int32} {i : Nat} (h : i ≠ 13 + k) (hk : k < 9) : plE T ad (va_up F k f) V sr C i = plE T ad F V sr C i := by
  unfold plE
  by_cases h0 : 13 ≤ i ∧ i < 22
  · have : i - 13 ≠ k := by omega
    simp [va_up, this]
  · split <;> first | rfl | skip
    split <;> first | rfl | skip
    split <;> first | rfl | skip
    split <;> first | rfl | skip
    split <;> first | rfl | skip
    split
    · omega
    · rfl
theorem plE_V {k : Nat} {f : Nat → Int32} {i : Nat} (h : i ≠ 28 + k) (hk : k < 6) : plE T ad F (va_up V k f) sr C i = plE T ad F V sr C i := by
  unfold plE
  by_cases h0 : 28 ≤ i ∧ i < 34
  · have : i - 28 ≠ k := by omega
    simp [va_up, this]
  · split <;> first | rfl | skip
    split <;> first | rfl | skip
    split <;> first | rfl | skip
    split <;> first | rfl | skip
    split <;> first | rfl | skip
    split <;> first | rfl | skip
    split <;> first | rfl | skip
    split
    · omega
    · rfl
theorem PLW.setF (h : PLW D T ad F V sr C H) (k : Nat) (hk : k < 9) {f : Nat → Int32} (hn : pAt D H1 (ad (13 + k)) (eN (T 0) 201 f)) (oq : ∀ q : Nat, q < H.size → ¬ q = ad (13 + k) → H1[q]? = H[q]?) : PLW D T ad (va_up F k f) V sr C H1 := h.upd oq fun i hi => by
  by_cases e : i = 13 + k
  · subst e
    refine Or.inr ?_
    rw [plE_13 hk]
    simp only [va_up, if_true]
    exact hn
  · exact Or.inl ⟨h.1.ne i (13 + k) hi (by omega) e, plE_F e hk⟩
theorem PLW.setV (h : PLW D T ad F V sr C H) (k : Nat) (hk : k < 6) {f : Nat → Int32} (hn : pAt D H1 (ad (28 + k)) (eN (T 1) 201 f)) (oq : ∀ q : Nat, q < H.size → ¬ q = ad (28 + k) → H1[q]? = H[q]?) : PLW D T ad F (va_up V k f) sr C H1 := h.upd oq fun i hi => by
  by_cases e : i = 28 + k
  · subst e
    refine Or.inr ?_
    rw [plE_28 hk]
    simp only [va_up, if_true]
    exact hn
  · exact Or.inl ⟨h.1.ne i (28 + k) hi (by omega) e, plE_V e hk⟩
theorem PLW.setR (h : PLW D T ad F V sr C H) {sr' : SRs} (hn : SR D T (ad 3) (ad 34) (ad 35) sr' H1) (oq : ∀ q : Nat, q < H.size → ¬ (q = ad 3 ∨ q = ad 34 ∨ q = ad 35) → H1[q]? = H[q]?) : PLW D T ad F V sr' C H1 := h.upd oq fun i hi => by
  by_cases e : i = 3 ∨ i = 34 ∨ i = 35
  · refine Or.inr ?_
    rcases e with rfl | rfl | rfl
    · exact hn.1
    · exact hn.2.1
    · exact hn.2.2
  · refine Or.inl ⟨h.1.nsr i hi ⟨fun q => e (Or.inl q), fun q => e (Or.inr (Or.inl q)), fun q => e (Or.inr (Or.inr q))⟩, ?_⟩
    unfold plE
    rw [if_neg (show ¬ i = 3 by omega), if_neg (show ¬ i = 3 by omega), if_neg (show ¬ i = 34 by omega), if_neg (show ¬ i = 34 by omega), if_neg (show ¬ i = 35 by omega), if_neg (show ¬ i = 35 by omega)]
theorem PLW.setC (h : PLW D T ad F V sr C H) {C' : Nat → Int32} (hn : pAt D H1 (ad 36) (eN (T 1) 201 C')) (oq : ∀ q : Nat, q ≠ ad 36 → H1[q]? = H[q]?) : PLW D T ad F V sr C' H1 := h.upd (A := fun q => q = ad 36) (fun q _ h2 => oq q h2) fun i hi => by
  by_cases e : i = 36
  · subst e
    exact Or.inr hn
  · refine Or.inl ⟨h.1.ne i 36 hi (by omega) e, ?_⟩
    unfold plE
    by_cases e2 : i = 35
    · subst e2; rfl
    · by_cases e3 : i = 34
      · subst e3; rfl
      · have h34 : i < 34 := by omega
        simp [h34]
end PLs
theorem va_up_s {α : Type} (F : Nat → α) (k : Nat) (f : α) : va_up F k f k = f := by simp [va_up]
theorem va_up_n {α : Type} (F : Nat → α) {k j : Nat} (f : α) (h : j ≠ k) : va_up F k f j = F j := by simp [va_up, h]
section PLs2
variable {D : va_G} {T : Nat → ClassId} {ad : Nat → Nat} {F V : Nat → Nat → Int32} {sr : SRs} {C : Nat → Int32} {H H1 : Heap} {f g : Nat → Int32}
theorem PLW.gsU {k : Nat} (h : PLW D T ad (va_up F k f) V sr C H) (j : Nat) (hk : k < 9) (hj : j = k := by rfl) : GS D T (ad (4 + k)) (ad (13 + k)) f H := by
  have h1 := h.gs k hk
  rwa [va_up_s] at h1
theorem PLW.sfU {k : Nat} (h : PLW D T ad F (va_up V k f) sr C H) (j : Nat) (hk : k < 6) (hj : j = k := by rfl) : SF D T (ad (22 + k)) (ad (28 + k)) f H := by
  have h1 := h.sf k hk
  rwa [va_up_s] at h1
theorem PLW.setFU {k : Nat} (h : PLW D T ad (va_up F k f) V sr C H) (j : Nat) (hk : k < 9) (hn : pAt D H1 (ad (13 + k)) (eN (T 0) 201 g)) (oq : ∀ q : Nat, q < H.size → ¬ q = ad (13 + k) → H1[q]? = H[q]?) : PLW D T ad (va_up F k g) V sr C H1 := by
  have h1 := h.setF k hk hn oq
  rwa [bx_uu] at h1
theorem PLW.setVU {k : Nat} (h : PLW D T ad F (va_up V k f) sr C H) (j : Nat) (hk : k < 6) (hn : pAt D H1 (ad (28 + k)) (eN (T 1) 201 g)) (oq : ∀ q : Nat, q < H.size → ¬ q = ad (28 + k) → H1[q]? = H[q]?) : PLW D T ad F (va_up V k g) sr C H1 := by
  have h1 := h.setV k hk hn oq
  rwa [bx_uu] at h1
end PLs2
theorem va_up_id {α : Type} (F : Nat → α) (k : Nat) : va_up F k (F k) = F := by
  funext j
  unfold va_up
  split
  · next h => rw [h]
  · rfl
def fgN (a b e : Nat) : Nat := if a = b then 2 * a else if e % 2 = 0 then 2 * a + 1 else 2 * a
/-- the grain behind the last one -/
def lgN (a b e : Nat) : Nat := if a = b then 2 * b + 1 else if e < 2 then 2 * b else 2 * b + 1
theorem and2 {e : Nat} (h : e ≤ 3) : nI e &&& nI 2 = 0 ↔ e < 2 := by
  rcases (show e = 0 ∨ e = 1 ∨ e = 2 ∨ e = 3 by omega) with rfl | rfl | rfl | rfl <;> decide
def joiZ (x y : Int32) (k : Nat) : Int32 := if k = 0 then (if ¬ x = 0 then nI 1 else if y = 0 then nI 0 else nI 1) else if k = 1 then (if x = 0 then nI 0 else if y = 0 then nI 0 else nI 1) else if k = 2 then (if x = 0 then nI 0 else if ¬ y = 0 then nI 0 else nI 1) else if x = y then nI 0 else nI 1
theorem nar_joiZ (x y : Int32) (k : Nat) : vp_nar .boolean (joiZ x y k) = joiZ x y k := by
  unfold joiZ
  repeat' split
  all_goals rfl
def mixV (x y : Int32) (k : Nat) : Int32 := if k = 0 then x + y else if k = 1 then jmin x y else if k = 2 then jmax x y else if k = 3 then x - y else x * y / nI 100
/-- join, turn by turn -/
def jnZ (F : Nat → Nat → Int32) (to one other k n : Nat) : Nat → Int32 := itr (fun i g => wrZ g (nI i) (joiZ (holdZ (va_up F to g one) (nI i)) (holdZ (va_up F to g other) (nI i)) k)) n (F to)
theorem jnZ_s (F : Nat → Nat → Int32) (to one other k n : Nat) : jnZ F to one other k (n + 1) = wrZ (jnZ F to one other k n) (nI n) (joiZ (holdZ (va_up F to (jnZ F to one other k n) one) (nI n)) (holdZ (va_up F to (jnZ F to one other k n) other) (nI n)) k) := rfl
theorem jnZ_0 (F : Nat → Nat → Int32) (to one other k : Nat) : jnZ F to one other k 0 = F to := rfl
/-- whether a set, moved by d grains, stays on the line and has nothing in common with another -/
def lieP (f g : Nat → Int32) (d : Int32) (j : Nat) : Prop := holdZ f (nI j) = 0 ∨ ¬ (nI j + d < 0) ∧ ¬ (nI 201 ≤ nI j + d) ∧ holdZ g (nI j + d) = 0
theorem fgN_le {a b e : Nat} (ha : a ≤ b) (hb : b ≤ 100) : fgN a b e ≤ 200 := by
  unfold fgN
  split
  · omega
  · split <;> omega
theorem lgN_le {a b e : Nat} (hb : b ≤ 100) : lgN a b e ≤ 201 := by
  unfold lgN
  split
  · omega
  · split <;> omega
