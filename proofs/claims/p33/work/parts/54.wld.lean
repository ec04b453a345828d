/-! THE WORLD OF STONES: its object, its sets as rows of spans, its functions, and the object of the class -/
def pr2 (x y : Nat) : Nat → Int32 := fun j => if j = 0 then nI x else nI y
/-- a row of spans at q, its rows at ads, from w on -/
def ILA (D : va_G) (T : Nat → ClassId) (w q : Nat) (ads : Nat → Nat) (n : Nat) (a b : Nat → Nat) (H : Heap) : Prop := pAt D H q (eR (T 5) n (fun k => some (ads k))) ∧ ∀ k : Nat, k < n → w ≤ ads k ∧ pAt D H (ads k) (eN (T 1) 2 (pr2 (a k) (b k)))
def IL (D : va_G) (T : Nat → ClassId) (w q : Nat) (S : SL) (H : Heap) : Prop := ∃ ads : Nat → Nat, ILA D T w q ads S.1 S.2.1 S.2.2 H
def SW (D : va_G) (T : Nat → ClassId) (ad : Nat → Nat) (o sc N : Nat) (sf : Nat → Int32) (dr : Nat) (F V : Nat → Nat → Int32) (sr : SRs) (C : Nat → Int32) (L : Nat → SL) (U : Nat → Nat → Int32) (la vv : Nat → Nat) (H : Heap) : Prop :=
  (∀ i : Nat, i < 37 → o + 1 ≤ ad i ∧ ad i < o + 38) ∧ PLW D T ad F V sr C H ∧ pAt D H o (eO 4 [.ref (ad 0), .ref sc, .int (nI dr), .ref (o + 38), .ref (o + 47)]) ∧ pAt D H (o + 38) (eR (T 8) 8 (fun k => some (la k))) ∧ (∀ k : Nat, k < 8 → ((o + 39 ≤ la k ∧ la k < o + 47) ∨ o + 53 ≤ la k) ∧ (L k).1 ≤ 101 ∧ IL D T (o + 53) (la k) (L k) H) ∧ pAt D H (o + 47) (eR (T 5) 5 (fun k => some (vv k))) ∧ (∀ k : Nat, k < 5 → o + 48 ≤ vv k ∧ pAt D H (vv k) (eN (T 1) 201 (U k))) ∧ (∀ i j : Nat, i < 5 → j < 5 → i ≠ j → vv i ≠ vv j) ∧ sc < o ∧ scX T sc N sf H
/-- rows of different length are different rows -/
theorem pAt.len {D : va_G} {H : Heap} {a b : Nat} {c1 c2 : ClassId} {n m : Nat} {y z : (Nat → Int32) ⊕ (Nat → Int64) ⊕ (Nat → UInt32) ⊕ (Nat → UInt64) ⊕ (Nat → Option Nat)} (h1 : pAt D H a (.inl (c1, n, y))) (h2 : pAt D H b (.inl (c2, m, z))) (hn : n ≠ m) : a ≠ b := by
  intro e
  subst e
  have e1 : H[a]? = some (vp_cell c1 (n, y)) := h1
  have e2 : H[a]? = some (vp_cell c2 (m, z)) := h2
  have e3 : vp_cell c1 (n, y) = vp_cell c2 (m, z) := Option.some.inj (e1.symm.trans e2)
  refine hn ?_
  have e4 : (vp_cell c1 (n, y)).slots.size = n := by
    rcases y with y | y | y | y | y <;> simp [vp_cell, arrV_size]
  have e5 : (vp_cell c2 (m, z)).slots.size = m := by
    rcases z with z | z | z | z | z <;> simp [vp_cell, arrV_size]
  rw [← e4, ← e5, e3]
section SWs
variable {D : va_G} {T : Nat → ClassId} {ad : Nat → Nat} {o sc N dr : Nat} {sf : Nat → Int32} {F V : Nat → Nat → Int32} {sr : SRs} {C : Nat → Int32} {L : Nat → SL} {U : Nat → Nat → Int32} {la vv : Nat → Nat} {H H1 : Heap}
theorem ILA.kept {w q n : Nat} {ads a b : Nat → Nat} (h : ILA D T w q ads n a b H) (h1 : H1[q]? = H[q]?) (h2 : ∀ k : Nat, k < n → H1[ads k]? = H[ads k]?) : ILA D T w q ads n a b H1 := ⟨h.1.kept h1, fun k hk => ⟨(h.2 k hk).1, (h.2 k hk).2.kept (h2 k hk)⟩⟩
theorem SW.pl (h : SW D T ad o sc N sf dr F V sr C L U la vv H) : PLW D T ad F V sr C H := h.2.1
theorem SW.ob (h : SW D T ad o sc N sf dr F V sr C L U la vv H) : pAt D H o (eO 4 [.ref (ad 0), .ref sc, .int (nI dr), .ref (o + 38), .ref (o + 47)]) := h.2.2.1
theorem SW.ss (h : SW D T ad o sc N sf dr F V sr C L U la vv H) : pAt D H (o + 38) (eR (T 8) 8 (fun k => some (la k))) := h.2.2.2.1
theorem SW.il (h : SW D T ad o sc N sf dr F V sr C L U la vv H) (k : Nat) (hk : k < 8) : ((o + 39 ≤ la k ∧ la k < o + 47) ∨ o + 53 ≤ la k) ∧ (L k).1 ≤ 101 ∧ IL D T (o + 53) (la k) (L k) H := h.2.2.2.2.1 k hk
theorem SW.vs (h : SW D T ad o sc N sf dr F V sr C L U la vv H) : pAt D H (o + 47) (eR (T 5) 5 (fun k => some (vv k))) := h.2.2.2.2.2.1
theorem SW.u (h : SW D T ad o sc N sf dr F V sr C L U la vv H) (k : Nat) (hk : k < 5) : o + 48 ≤ vv k ∧ pAt D H (vv k) (eN (T 1) 201 (U k)) := h.2.2.2.2.2.2.1 k hk
theorem SW.vd (h : SW D T ad o sc N sf dr F V sr C L U la vv H) : ∀ i j : Nat, i < 5 → j < 5 → i ≠ j → vv i ≠ vv j := h.2.2.2.2.2.2.2.1
theorem SW.sl (h : SW D T ad o sc N sf dr F V sr C L U la vv H) : sc < o := h.2.2.2.2.2.2.2.2.1
theorem SW.sp (h : SW D T ad o sc N sf dr F V sr C L U la vv H) : scX T sc N sf H := h.2.2.2.2.2.2.2.2.2
theorem SW.lt (h : SW D T ad o sc N sf dr F V sr C L U la vv H) : o + 47 < H.size := h.vs.lt
/-- the cells of the class change, no other does -/
theorem SW.setP (h : SW D T ad o sc N sf dr F V sr C L U la vv H) {F' V' : Nat → Nat → Int32} {sr' : SRs} {C' : Nat → Int32} (hn : PLW D T ad F' V' sr' C' H1) (hk : ∀ q : Nat, q < H.size → ¬ PLA ad q → H1[q]? = H[q]?) : SW D T ad o sc N sf dr F' V' sr' C' L U la vv H1 := by
  have ho : ∀ q : Nat, q < H.size → q < o + 1 ∨ o + 38 ≤ q → H1[q]? = H[q]? := fun q h1 h2 => hk q h1 fun ⟨i, h3, h4⟩ => by
    have := h.1 i h3
    omega
  refine ⟨h.1, hn, h.ob.kept (ho _ h.ob.lt (by omega)), h.ss.kept (ho _ h.ss.lt (by omega)), fun k hk => ?_, h.vs.kept (ho _ h.vs.lt (by omega)), fun k hk => ⟨(h.u k hk).1, (h.u k hk).2.kept (ho _ (h.u k hk).2.lt (by have := (h.u k hk).1; omega))⟩, h.vd, h.sl, h.sp.kept (ho _ h.sp.lt (by have := h.sl; omega))⟩
  obtain ⟨h1, h2, ads, h3⟩ := h.il k hk
  exact ⟨h1, h2, ads, h3.kept (ho _ h3.1.lt (by omega)) fun j hj => ho _ (h3.2 j hj).2.lt (by have := (h3.2 j hj).1; omega)⟩
/-- what lies there stays, cells are made behind -/
theorem SW.old (h : SW D T ad o sc N sf dr F V sr C L U la vv H) (o1 : ∀ q : Nat, q < H.size → H1[q]? = H[q]?) : SW D T ad o sc N sf dr F V sr C L U la vv H1 := h.setP (h.pl.kept fun q h1 _ => o1 q h1) fun q h1 _ => o1 q h1
/-- a cell changes that the world doesn't know -/
theorem SW.ne (h : SW D T ad o sc N sf dr F V sr C L U la vv H) {z b : Nat} (hz : z = H.size) (hzb : z ≤ b) (oq : ∀ q : Nat, q ≠ b → H1[q]? = H[q]?) : SW D T ad o sc N sf dr F V sr C L U la vv H1 := h.old fun q h1 => oq q (by omega)
theorem SW.setO (h : SW D T ad o sc N sf dr F V sr C L U la vv H) {d' : Nat} (hn : pAt D H1 o (eO 4 [.ref (ad 0), .ref sc, .int (nI d'), .ref (o + 38), .ref (o + 47)])) (oq : ∀ q : Nat, q ≠ o → H1[q]? = H[q]?) : SW D T ad o sc N sf d' F V sr C L U la vv H1 := by
  have hz : ∀ i : Nat, i < 37 → ad i ≠ o := fun i hi => by have := h.1 i hi; omega
  refine ⟨h.1, ⟨h.pl.1, fun i hi => (h.pl.2 i hi).ne oq (hz i hi)⟩, hn, h.ss.ne oq (by omega), fun k hk => ?_, h.vs.ne oq (by omega), fun k hk => ⟨(h.u k hk).1, (h.u k hk).2.ne oq (by have := (h.u k hk).1; omega)⟩, h.vd, h.sl, h.sp.ne oq (by have := h.sl; omega)⟩
  obtain ⟨h1, h2, ads, h3⟩ := h.il k hk
  exact ⟨h1, h2, ads, h3.kept (oq _ (by omega)) fun j hj => oq _ (by have := (h3.2 j hj).1; omega)⟩
/-- a set's row is another one -/
theorem SW.setL (h : SW D T ad o sc N sf dr F V sr C L U la vv H) {k m : Nat} {S : SL} (hm : o + 53 ≤ m) (hS : S.1 ≤ 101) (hI : IL D T (o + 53) m S H) (hn : pAt D H1 (o + 38) (eR (T 8) 8 (fun i => if i = k then some m else some (la i)))) (oq : ∀ q : Nat, q ≠ o + 38 → H1[q]? = H[q]?) : SW D T ad o sc N sf dr F V sr C (va_up L k S) U (va_up la k m) vv H1 := by
  have hz : ∀ i : Nat, i < 37 → ad i ≠ o + 38 := fun i hi => by have := h.1 i hi; omega
  have he : (fun i => if i = k then some m else some (la i)) = fun i => some (va_up la k m i) := by
    funext i
    by_cases e : i = k
    · rw [if_pos e, e, va_up_s]
    · rw [if_neg e, va_up_n _ _ e]
  rw [he] at hn
  refine ⟨h.1, ⟨h.pl.1, fun i hi => (h.pl.2 i hi).ne oq (hz i hi)⟩, h.ob.ne oq (by omega), hn, fun j hj => ?_, h.vs.ne oq (by omega), fun j hj => ⟨(h.u j hj).1, (h.u j hj).2.ne oq (by have := (h.u j hj).1; omega)⟩, h.vd, h.sl, h.sp.ne oq (by have := h.sl; omega)⟩
  by_cases e : j = k
  · subst e
    rw [va_up_s, va_up_s]
    obtain ⟨ads, h3⟩ := hI
    exact ⟨Or.inr hm, hS, ads, h3.kept (oq _ (by omega)) fun i hi => oq _ (by have := (h3.2 i hi).1; omega)⟩
  · rw [va_up_n _ _ e, va_up_n _ _ e]
    obtain ⟨h1, h2, ads, h3⟩ := h.il j hj
    exact ⟨h1, h2, ads, h3.kept (oq _ (by omega)) fun i hi => oq _ (by have := (h3.2 i hi).1; omega)⟩
/-- a function's row changes -/
theorem SW.setU (h : SW D T ad o sc N sf dr F V sr C L U la vv H) {k : Nat} (hk : k < 5) {u : Nat → Int32} (hn : pAt D H1 (vv k) (eN (T 1) 201 u)) (oq : ∀ q : Nat, q ≠ vv k → H1[q]? = H[q]?) : SW D T ad o sc N sf dr F V sr C L (va_up U k u) la vv H1 := by
  have hv := (h.u k hk).1
  have hz : ∀ i : Nat, i < 37 → ad i ≠ vv k := fun i hi => by have := h.1 i hi; omega
  refine ⟨h.1, ⟨h.pl.1, fun i hi => (h.pl.2 i hi).ne oq (hz i hi)⟩, h.ob.ne oq (by omega), h.ss.ne oq (by omega), fun j hj => ?_, h.vs.ne oq (by omega), fun j hj => ?_, h.vd, h.sl, h.sp.ne oq (by have := h.sl; omega)⟩
  · obtain ⟨h1, h2, ads, h3⟩ := h.il j hj
    exact ⟨h1, h2, ads, h3.kept (oq _ (h3.1.len (h.u k hk).2 (by omega))) fun i hi => oq _ ((h3.2 i hi).2.len (h.u k hk).2 (by omega))⟩
  · by_cases e : j = k
    · subst e
      rw [va_up_s]
      exact ⟨hv, hn⟩
    · rw [va_up_n _ _ e]
      exact ⟨(h.u j hj).1, (h.u j hj).2.ne oq (h.vd j k hj hk e)⟩
/-- a function's row is another one -/
theorem SW.setV (h : SW D T ad o sc N sf dr F V sr C L U la vv H) {k m : Nat} {u : Nat → Int32} (hm : o + 48 ≤ m) (hd : ∀ j : Nat, j < 5 → vv j ≠ m) (hu : pAt D H m (eN (T 1) 201 u)) (hn : pAt D H1 (o + 47) (eR (T 5) 5 (fun i => if i = k then some m else some (vv i)))) (oq : ∀ q : Nat, q ≠ o + 47 → H1[q]? = H[q]?) : SW D T ad o sc N sf dr F V sr C L (va_up U k u) la (va_up vv k m) H1 := by
  have hz : ∀ i : Nat, i < 37 → ad i ≠ o + 47 := fun i hi => by have := h.1 i hi; omega
  have he : (fun i => if i = k then some m else some (vv i)) = fun i => some (va_up vv k m i) := by
    funext i
    by_cases e : i = k
    · rw [if_pos e, e, va_up_s]
    · rw [if_neg e, va_up_n _ _ e]
  rw [he] at hn
  refine ⟨h.1, ⟨h.pl.1, fun i hi => (h.pl.2 i hi).ne oq (hz i hi)⟩, h.ob.ne oq (by omega), h.ss.ne oq (by omega), fun j hj => ?_, hn, fun j hj => ?_, fun i j hi hj hij => ?_, h.sl, h.sp.ne oq (by have := h.sl; omega)⟩
  · obtain ⟨h1, h2, ads, h3⟩ := h.il j hj
    exact ⟨h1, h2, ads, h3.kept (oq _ (by omega)) fun i hi => oq _ (by have := (h3.2 i hi).1; omega)⟩
  · by_cases e : j = k
    · subst e
      rw [va_up_s, va_up_s]
      exact ⟨hm, hu.ne oq (by omega)⟩
    · rw [va_up_n _ _ e, va_up_n _ _ e]
      exact ⟨(h.u j hj).1, (h.u j hj).2.ne oq (by have := (h.u j hj).1; omega)⟩
  · by_cases e1 : i = k
    · subst e1
      rw [va_up_s, va_up_n _ _ (Ne.symm hij)]
      exact (hd j hj).symm
    · by_cases e2 : j = k
      · subst e2
        rw [va_up_s, va_up_n _ _ e1]
        exact hd i hi
      · rw [va_up_n _ _ e1, va_up_n _ _ e2]
        exact h.vd i j hi hj hij
theorem ILA.old {w q n : Nat} {ads a b : Nat → Nat} (h : ILA D T w q ads n a b H) (o1 : ∀ q : Nat, q < H.size → H1[q]? = H[q]?) : ILA D T w q ads n a b H1 := h.kept (o1 _ h.1.lt) fun k hk => o1 _ (h.2 k hk).2.lt
/-- the last span goes farther -/
theorem ILA.ext {w q n g : Nat} {ads a b : Nat → Nat} (h : ILA D T w q ads n a b H) (hq : q ≠ ads (n - 1)) (hd : ∀ k : Nat, k < n - 1 → ads k ≠ ads (n - 1)) (hn : pAt D H1 (ads (n - 1)) (eN (T 1) 2 (upd (pr2 (a (n - 1)) (b (n - 1))) 1 (nI g)))) (oq : ∀ x : Nat, x ≠ ads (n - 1) → H1[x]? = H[x]?) : ILA D T w q ads n a (updN b (n - 1) g) H1 := by
  refine ⟨h.1.ne oq hq, fun k hk => ⟨(h.2 k hk).1, ?_⟩⟩
  by_cases e : k = n - 1
  · subst e
    rw [updN_s]
    refine hn.outN fun j hj => ?_
    rcases (show j = 0 ∨ j = 1 by omega) with rfl | rfl
    · rfl
    · rfl
  · rw [updN_n _ _ e]
    exact (h.2 k hk).2.ne oq (hd k (by omega))
/-- one span more -/
theorem ILA.snoc {w q r n x y mo : Nat} {ads a b : Nat → Nat} (h : ILA D T w q ads n a b H) (hm : w ≤ mo) (hmo : pAt D H mo (eN (T 1) 2 (pr2 x y))) (hn : pAt D H1 r (eR (T 5) (n + 1) (fun k => some (if k = n then mo else ads k)))) (oq : ∀ z : Nat, z < H.size → H1[z]? = H[z]?) : ILA D T w r (fun k => if k = n then mo else ads k) (n + 1) (updN a n x) (updN b n y) H1 := by
  refine ⟨hn, fun k hk => ?_⟩
  by_cases e : k = n
  · subst e
    dsimp only
    rw [updN_s, updN_s, if_pos rfl]
    exact ⟨hm, hmo.kept (oq _ hmo.lt)⟩
  · dsimp only
    rw [updN_n _ _ e, updN_n _ _ e, if_neg e]
    exact ⟨(h.2 k (by omega)).1, (h.2 k (by omega)).2.kept (oq _ (h.2 k (by omega)).2.lt)⟩
end SWs
/-- grains that are told by what holds of them -/
noncomputable def chiC (P : Nat → Prop) : Nat → Int32 := fun g => @ite Int32 (P g) (Classical.propDecidable _) (nI 1) (nI 0)
theorem chiC_y {P : Nat → Prop} {g : Nat} (h : P g) : chiC P g = nI 1 := by
  unfold chiC
  exact if_pos h
theorem chiC_n {P : Nat → Prop} {g : Nat} (h : ¬ P g) : chiC P g = nI 0 := by
  unfold chiC
  exact if_neg h
theorem chiC_e {P Q : Nat → Prop} (h : ∀ g : Nat, P g ↔ Q g) : chiC P = chiC Q := congrArg chiC (funext fun g => propext (h g))
theorem chiC_u {P Q : Nat → Prop} {i : Nat} (h : ∀ g : Nat, Q g ↔ P g ∨ g = i) : upd (chiC P) i (nI 1) = chiC Q := by
  funext g
  by_cases e : g = i
  · rw [e, pk_us, chiC_y ((h i).mpr (Or.inr rfl))]
  · rw [pk_un e]
    by_cases c : P g
    · rw [chiC_y c, chiC_y ((h g).mpr (Or.inl c))]
    · rw [chiC_n c, chiC_n fun q => ((h g).mp q).elim c e]
def inN (n : Nat) (a b : Nat → Nat) (g : Nat) : Prop := ∃ k : Nat, k < n ∧ a k ≤ g ∧ g ≤ b k
theorem inN_s {n : Nat} {a b : Nat → Nat} {g : Nat} : inN (n + 1) a b g ↔ inN n a b g ∨ (a n ≤ g ∧ g ≤ b n) := by
  constructor
  · rintro ⟨k, hk, h⟩
    rcases Nat.lt_or_ge k n with q | q
    · exact Or.inl ⟨k, q, h⟩
    · have : k = n := by omega
      subst this
      exact Or.inr h
  · rintro (⟨k, hk, h⟩ | h)
    · exact ⟨k, by omega, h⟩
    · exact ⟨n, Nat.lt_succ_self n, h⟩
theorem inN_0 {a b : Nat → Nat} {g : Nat} : ¬ inN 0 a b g := fun ⟨k, hk, _⟩ => Nat.not_lt_zero k hk
/-- the sum that Stones.count makes -/
def cntS (a b : Nat → Nat) (n : Nat) : Nat := itr (fun k c => c + (b k - a k + 1)) n 0
theorem cntS_s (a b : Nat → Nat) (n : Nat) : cntS a b (n + 1) = cntS a b n + (b n - a n + 1) := rfl
/-- the steps that Stones.steps counts, from the right -/
def stpS (f : Nat → Int32) (n : Nat) : Int32 := itr (fun i c => if f (200 - i) = f (200 - i - 1) then c else c + 1) n (nI 1)
theorem stpS_s (f : Nat → Int32) (n : Nat) : stpS f (n + 1) = if f (200 - n) = f (200 - n - 1) then stpS f n else stpS f n + 1 := rfl
def kepS (x : Int32) : Int32 := if x ≤ nI 10000 then (if -10000 ≤ x then x else -10000) else nI 10000
def endN (y : Nat) : Nat := (y + 1) / 2
