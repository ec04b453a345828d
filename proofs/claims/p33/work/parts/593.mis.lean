/-! SMALL THINGS: what is written is what the class has (pure) -/
theorem ILA.up {D : va_G} {T : Nat → ClassId} {m w q n : Nat} {ads a b : Nat → Nat} {H H1 : Heap} (h : ILA D T w q ads n a b H) (hq : m ≤ q) (hw : m ≤ w) (hk : ∀ z : Nat, m ≤ z → z < H.size → H1[z]? = H[z]?) : ILA D T w q ads n a b H1 := h.kept (hk _ hq h.1.lt) fun k hk2 => hk _ (Nat.le_trans hw (h.2 k hk2).1) (h.2 k hk2).2.lt
theorem rg_lo {a b : Nat} {m : Int32} (ha : a < 2 ^ 30) (hb : b < 2 ^ 30) (h : m.toInt ≤ (a : Int) - b) : ¬ nI a - nI b < m := by
  rw [Int32.lt_iff_toInt_lt, pk_sub_toInt ha hb]
  omega
theorem rg_hi {a b c : Nat} (ha : a < 2 ^ 30) (hb : b < 2 ^ 30) (hc : c < 2 ^ 30) (h : (a : Int) - b ≤ c) : nI a - nI b ≤ nI c := by
  rw [Int32.le_iff_toInt_le, pk_sub_toInt ha hb, nI_toInt (by omega)]
  exact h
theorem mv_pB (f : Nat → Int32) {d : Int32} (h1 : ¬ d < -100) (h2 : d ≤ nI 100) {j : Nat} (hj : j < 201) : decide (¬ holdZ f (nI j - nI 2 * d) = 0) = mvB (pB f) d.toInt j := by
  obtain ⟨-, e1, e2⟩ := nI_add_t (a := 0) (by omega) h1 h2
  have e3 : (nI 2).toInt = 2 := rfl
  have e : (nI j - nI 2 * d).toInt = (j : Int) - 2 * d.toInt := by
    rw [Int32.toInt_sub, Int32.toInt_mul, nI_toInt (by omega), e3]
    have e4 : (2 * d.toInt).bmod (2 ^ 32) = 2 * d.toInt := Int.bmod_eq_of_le (by omega) (by omega)
    rw [e4]
    exact Int.bmod_eq_of_le (by omega) (by omega)
  unfold mvB
  by_cases c1 : 0 ≤ (j : Int) - 2 * d.toInt
  · have e5 : nI j - nI 2 * d = nI ((j : Int) - 2 * d.toInt).toNat := by
      refine Int32.toInt_inj.mp ?_
      rw [e, nI_toInt (by omega)]
      omega
    rw [e5]
    by_cases c2 : (j : Int) - 2 * d.toInt ≤ 200
    · rw [decide_eq_true (⟨c1, c2⟩ : 0 ≤ (j : Int) - 2 * d.toInt ∧ (j : Int) - 2 * d.toInt ≤ 200)]
      rfl
    · rw [decide_eq_false fun q : 0 ≤ (j : Int) - 2 * d.toInt ∧ (j : Int) - 2 * d.toInt ≤ 200 => c2 q.2, holdZ_out (by omega) (by omega)]
      rfl
  · rw [decide_eq_false fun q : 0 ≤ (j : Int) - 2 * d.toInt ∧ (j : Int) - 2 * d.toInt ≤ 200 => c1 q.1, holdZ_neg]
    · rfl
    · rw [Int32.lt_iff_toInt_lt, e]
      show _ < (0 : Int)
      omega
theorem fg_lg {a b e : Nat} (h : a ≤ b) (hb : b ≤ 100) (he : e ≤ 3) : fgN a b e + 1 ≤ lgN a b e ∧ lgN a b e ≤ 201 := by
  unfold fgN lgN
  by_cases c : a = b
  · rw [if_pos c, if_pos c]
    omega
  · rw [if_neg c, if_neg c]
    split <;> split <;> omega
/-- a row of grains that the spans of a set make -/
theorem chi_pF {f : Nat → Int32} {L : SL} (h : Rep (pB f) 201 L) : ∀ g : Nat, g < 201 → pF (chiC (inN L.1 L.2.1 L.2.2)) g = pB f g := by
  intro g hg
  unfold pF
  by_cases c : inN L.1 L.2.1 L.2.2 g
  · rw [chiC_y c, (h.2.2 g hg).mpr c]
    decide
  · rw [chiC_n c, Bool.eq_false_iff.mpr fun q => c ((h.2.2 g hg).mp q)]
    decide
/-- a part of a row written -/
def rwS (f : Nat → Int32) (v : Int32) (lo n : Nat) : Nat → Int32 := fun g => if lo ≤ g ∧ g < lo + n then v else f g
theorem rwS_0 (f : Nat → Int32) (v : Int32) (lo : Nat) : rwS f v lo 0 = f := by
  funext g
  unfold rwS
  rw [if_neg (by omega)]
theorem rwS_s (f : Nat → Int32) (v : Int32) (lo n : Nat) : upd (rwS f v lo n) (lo + n) v = rwS f v lo (n + 1) := by
  funext g
  rw [upd_at]
  unfold rwS
  by_cases e : g = lo + n
  · rw [if_pos e, if_pos (by omega)]
  · rw [if_neg e]
    by_cases c : lo ≤ g ∧ g < lo + n
    · rw [if_pos c, if_pos (by omega)]
    · rw [if_neg c, if_neg (by omega)]
theorem rwS_at (f : Nat → Int32) (v : Int32) (lo n : Nat) : rwS f v lo n (lo + n) = f (lo + n) := by
  unfold rwS
  rw [if_neg (by omega)]
theorem chi_1 {P : Nat → Prop} {g : Nat} : chiC P g = nI 1 ↔ pF (chiC P) g = true := by
  unfold pF
  by_cases c : P g
  · rw [chiC_y c]
    decide
  · rw [chiC_n c]
    decide
theorem chi_0 {P : Nat → Prop} {g : Nat} : chiC P g = nI 0 ↔ pF (chiC P) g = false := by
  unfold pF
  by_cases c : P g
  · rw [chiC_y c]
    decide
  · rw [chiC_n c]
    decide
theorem chgN_ext {p q : Nat → Bool} {b : Bool} {lo n : Nat} (h : ∀ g : Nat, lo ≤ g → g < lo + n → p g = q g) : chgN p b lo n = chgN q b lo n := by
  induction n with
  | zero => rfl
  | succ n ih => rw [chgN_s, chgN_s, ih fun g h1 h2 => h g h1 (by omega), h (lo + n) (by omega) (by omega)]
/-- span: the class's set then, and what it answers -/
theorem span_rep {f : Nat → Int32} {L : SL} {v : Int32} {lo hi : Nat} (h : Rep (pB f) 201 L) (hlo : lo + 1 ≤ hi) (hhi : hi ≤ 201) : Rep (pB (fillS f v lo (min hi 201 - lo)).1) 201 (spS (pF (rwS (chiC (inN L.1 L.2.1 L.2.2)) v lo (hi - lo))) 201) := by
  refine ((spS_ok _ (Nat.le_refl 201)).1).congr fun g hg => ?_
  rw [show min hi 201 - lo = hi - lo by omega, fillS_h f v lo (hi - lo) (by omega) g hg]
  unfold pF rwS
  by_cases c : lo ≤ g ∧ g < lo + (hi - lo)
  · rw [if_pos c, if_pos c]
  · rw [if_neg c, if_neg c]
    exact (chi_pF h g hg).symm
theorem span_cnt {f : Nat → Int32} {L : SL} {v : Int32} {b : Bool} {lo hi : Nat} (h : Rep (pB f) 201 L) (hlo : lo + 1 ≤ hi) (hhi : hi ≤ 201) (hv : v = bI b) : (fillS f v lo (min hi 201 - lo)).2 = nI (chgN (pF (chiC (inN L.1 L.2.1 L.2.2))) b lo (hi - lo)) := by
  have e : decide (¬ v = 0) = b := by
    rw [hv]
    cases b <;> decide
  rw [show min hi 201 - lo = hi - lo by omega, fillS_c f v lo (hi - lo) (by omega) (by rw [hv]; cases b; exact Or.inl rfl; exact Or.inr rfl), e]
  congr 1
  exact chgN_ext fun g h1 h2 => (chi_pF h g (by omega)).symm
/-- a row written from its beginning on -/
def rowP (v : Nat → Int32) (i : Nat) : Nat → Int32 := fun g => if g < i then v g else nI 0
theorem rowP_0 (v : Nat → Int32) : rowP v 0 = zr0 := by
  funext g
  unfold rowP
  rw [if_neg (Nat.not_lt_zero g)]
theorem rowP_u {v : Nat → Int32} {i : Nat} {x : Int32} (h : x = v i) : upd (rowP v i) i x = rowP v (i + 1) := by
  funext g
  rw [upd_at]
  unfold rowP
  by_cases e : g = i
  · rw [if_pos e, if_pos (by omega), h, e]
  · rw [if_neg e]
    by_cases c : g < i
    · rw [if_pos c, if_pos (by omega)]
    · rw [if_neg c, if_neg (by omega)]
theorem rowP_at {v : Nat → Int32} {n g : Nat} (h : g < n) : rowP v n g = v g := by
  unfold rowP
  rw [if_pos h]
/-- join -/
def jvI (x y : Bool) (k : Nat) : Int32 := if x = true then (if y = true then (if k < 2 then nI 1 else nI 0) else (if k = 1 then nI 0 else nI 1)) else (if y = true then (if k % 3 = 0 then nI 1 else nI 0) else nI 0)
theorem jv_joi (x y : Bool) {k : Nat} (hk : k ≤ 3) : joiB x y k = decide (¬ jvI x y k = 0) := by
  rcases (show k = 0 ∨ k = 1 ∨ k = 2 ∨ k = 3 by omega) with rfl | rfl | rfl | rfl <;> cases x <;> cases y <;> decide
theorem join_rep (F : Nat → Nat → Int32) (to one other : Nat) {k : Nat} (hk : k ≤ 3) : Rep (pB (jnZ F to one other k 201)) 201 (spS (pF (rowP (fun g => jvI (pB (F one) g) (pB (F other) g) k) 201)) 201) := by
  refine ((spS_ok _ (Nat.le_refl 201)).1).congr fun g hg => ?_
  rw [jnZ_h F to one other k g hg, jv_joi _ _ hk]
  unfold pF
  rw [rowP_at hg]
theorem in_pB {f : Nat → Int32} {L : SL} (h : Rep (pB f) 201 L) {g : Nat} (hg : g < 201) (hi : inN L.1 L.2.1 L.2.2 g) : pB f g = true := (h.2.2 g hg).mpr hi
theorem nin_pB {f : Nat → Int32} {L : SL} (h : Rep (pB f) 201 L) {g : Nat} (hg : g < 201) (hi : ¬ inN L.1 L.2.1 L.2.2 g) : pB f g = false := Bool.eq_false_iff.mpr fun q => hi ((h.2.2 g hg).mp q)
/-- where -/
theorem whr_rep (g : Nat → Int32) {f u : Nat → Int32} (lo hi : Int32) (h : ∀ j : Nat, j < 201 → u j = f j) : Rep (pB (whrZ g f lo hi 201)) 201 (spS (pF (rowP (fun j => if u j < lo then nI 0 else if hi < u j then nI 0 else nI 1) 201)) 201) := by
  refine ((spS_ok _ (Nat.le_refl 201)).1).congr fun j hj => ?_
  rw [whrZ_h g f lo hi j hj]
  unfold pF
  rw [rowP_at hj, atV_n hj, h j hj]
  by_cases c1 : f j < lo
  · rw [if_pos c1, decide_eq_false (p := ¬ f j < lo) fun q => q c1]
    rfl
  · rw [if_neg c1, decide_eq_true (p := ¬ f j < lo) c1]
    by_cases c2 : hi < f j
    · rw [if_pos c2, decide_eq_false (p := ¬ hi < f j) fun q => q c2]
      rfl
    · rw [if_neg c2, decide_eq_true (p := ¬ hi < f j) c2]
      rfl
/-- stretch -/
theorem img_src {tt i g : Nat} (h1 : 2 ≤ tt) (h2 : tt ≤ 10) : img tt i g ↔ i = srcN tt g := by
  have e1 := stF_le (a := i) (g := g) h1 h2
  have e2 := stT_le (b := i) (g := g) h1 h2
  have e3 : img tt i g ↔ stF tt i ≤ g ∧ g ≤ stT tt i := by
    unfold img stF stT
    by_cases c : i % 2 = 1
    · have e4 : 2 ≤ (i + 1) * tt := Nat.le_trans (show 2 ≤ 1 * 2 by decide) (Nat.mul_le_mul (show 1 ≤ i + 1 by omega) h1)
      rw [if_pos c, if_neg (by omega), if_neg (by omega)]
      omega
    · rw [if_neg c, if_pos (by omega), if_pos (by omega)]
      omega
  rw [e3, e1, e2]
  omega
theorem str_rep (F : Nat → Nat → Int32) {k tt : Nat} {S : SL} (hk : k < 8) (h1 : 2 ≤ tt) (h2 : tt ≤ 10) (hS : Rep (stB (pB (F k)) tt) 201 S) : Rep (pB (strZ (va_up F 8 (copyZ (F 8) (F k) 201)) k tt 201)) 201 S := by
  refine hS.congr fun g hg => ?_
  have h := strZ_h F hk h1 h2 201 (Nat.le_refl _) g hg
  have hsr : srcN tt g < 201 := by
    have e1 : srcN tt g ≤ 200 := (stT_le h1 h2).mp (by
      unfold stT
      rw [if_pos (by decide)]
      have : 200 * 2 ≤ 200 * tt := Nat.mul_le_mul (Nat.le_refl _) h1
      omega)
    omega
  show _ = pB (F k) (srcN tt g)
  rw [Bool.eq_iff_iff, h]
  constructor
  · rintro ⟨i, hi, h3, h4⟩
    rw [← (img_src h1 h2).mp h4]
    exact h3
  · intro h3
    exact ⟨_, hsr, h3, (img_src h1 h2).mpr rfl⟩
/-- two ways that meet: what stands behind is walked once -/
theorem W.join {p : Program} {l : Launch} {e : Env} {R : Room} {s : State} {m : MethodId} {args : Array Value} {below : List Frame} {meth : Method} {c : Code} {H : Heap} {locs : List Loc} {cells slots : Nat} {Q : State → Prop} {g g2 : JFrame} (h1 : W p l e R s m args below meth c H locs cells slots Q g2) (h2 : W p l e R s m args below meth c H locs cells slots Q g2 → W p l e R s m args below meth c H locs cells slots Q g) : W p l e R s m args below meth c H locs cells slots Q g := h2 h1
theorem W.joinP {p : Program} {l : Launch} {e : Env} {R : Room} {s : State} {m : MethodId} {args : Array Value} {below : List Frame} {meth : Method} {c : Code} {H : Heap} {locs : List Loc} {cells slots : Nat} {Q : State → Prop} {P : Prop} {g g2 : JFrame} (h1 : P → W p l e R s m args below meth c H locs cells slots Q g2) (h2 : (P → W p l e R s m args below meth c H locs cells slots Q g2) → W p l e R s m args below meth c H locs cells slots Q g) : W p l e R s m args below meth c H locs cells slots Q g := h2 h1
