/-! THE MODEL ON A FRESH OBJECT: its world, rows all of 0; rows of the machine that were still wanting -/
abbrev zr0 : Nat → Int32 := fun _ => nI 0
abbrev zr1 : Nat → Int32 := fun _ => nI 1
theorem upd_z (j : Nat) : upd zr0 j (nI 0) = zr0 := by
  funext q
  simp [upd, zr0]
def rwI (v : Int32) (i : Nat) : Nat → Int32 := fun j => if j < i then v else nI 0
theorem rwI_0 (v : Int32) : rwI v 0 = zr0 := by
  funext j
  simp [rwI, zr0]
theorem rwI_s (v : Int32) (i : Nat) : upd (rwI v i) i v = rwI v (i + 1) := by
  funext j
  by_cases h : j = i
  · subst h
    simp [rwI, upd]
  · have h1 : (j < i + 1) = (j < i) := propext (by omega)
    simp [rwI, upd, h, h1]
theorem rwI_z (i : Nat) : rwI (nI 0) i = zr0 := by
  funext j
  simp [rwI, zr0]
theorem jmax_nat {a b : Nat} (ha : a < 2 ^ 31) (hb : b < 2 ^ 31) : jmax (nI a) (nI b) = nI (max a b) := by
  unfold jmax
  rcases Nat.lt_or_ge a b with h | h
  · rw [if_pos ((nI_ltI ha hb).mpr h), Nat.max_eq_right (Nat.le_of_lt h)]
  · rw [if_neg (fun q => absurd ((nI_ltI ha hb).mp q) (by omega)), Nat.max_eq_left h]
theorem jmin_nat {a b : Nat} (ha : a < 2 ^ 31) (hb : b < 2 ^ 31) : jmin (nI a) (nI b) = nI (min a b) := by
  unfold jmin
  rcases Nat.lt_or_ge b a with h | h
  · rw [if_pos ((nI_ltI hb ha).mpr h), Nat.min_eq_right (Nat.le_of_lt h)]
  · rw [if_neg (fun q => absurd ((nI_ltI hb ha).mp q) (by omega)), Nat.min_eq_left h]
theorem inM_ok {x : Int32} {n : Nat} (hn : n < 2 ^ 31) (h : ¬ inM x (nI 0) (nI n) = 0) : ∃ k : Nat, k ≤ n ∧ x = nI k := by
  unfold inM at h
  split at h
  · exact absurd rfl h
  · next h0 =>
    split at h
    · exact absurd rfl h
    · next h1 =>
      obtain ⟨j, hj, rfl⟩ := nI_of (show ¬ x < 0 from h0)
      exact ⟨j, Nat.le_of_not_lt fun q => h1 ((nI_ltI hn hj).mpr q), rfl⟩
theorem inM_nat {g lo hi : Nat} (h1 : g < 2 ^ 31) (h2 : lo < 2 ^ 31) (h3 : hi < 2 ^ 31) : inM (nI g) (nI lo) (nI hi) = if lo ≤ g ∧ g ≤ hi then nI 1 else nI 0 := by
  unfold inM
  by_cases a : g < lo
  · rw [if_pos ((nI_ltI h1 h2).mpr a), if_neg (by omega)]
  · rw [if_neg (fun q => a ((nI_ltI h1 h2).mp q))]
    by_cases b : hi < g
    · rw [if_pos ((nI_ltI h3 h1).mpr b), if_neg (by omega)]
    · rw [if_neg (fun q => b ((nI_ltI h3 h1).mp q)), if_pos (by omega)]
theorem spanM_ok {x y z : Int32} (h : ¬ spanM x y z = 0) : ∃ a b e : Nat, a ≤ b ∧ b ≤ 100 ∧ e ≤ 3 ∧ x = nI a ∧ y = nI b ∧ z = nI e := by
  unfold spanM at h
  split at h
  · exact absurd rfl h
  · next h0 =>
    split at h
    · exact absurd rfl h
    · next h1 =>
      split at h
      · exact absurd rfl h
      · next h2 =>
        split at h
        · exact absurd rfl h
        · next h3 =>
          obtain ⟨a, ha, rfl⟩ := nI_of h0
          have hy : ¬ y < 0 := fun q => h2 (Int32.lt_of_lt_of_le q (Int32.not_lt.mp h0))
          obtain ⟨b, hb, rfl⟩ := nI_of hy
          obtain ⟨e, he, rfl⟩ := inM_ok (n := 3) (by decide) h3
          exact ⟨a, b, e, Nat.le_of_not_lt fun q => h2 ((nI_ltI hb ha).mpr q), Nat.le_of_not_lt fun q => h1 ((nI_ltI (by decide) hb).mpr q), he, rfl, rfl, rfl⟩
/-- the world of a PuddingstoneLineModel at m0 on which nothing was put yet: the fifteen cells behind it are its own -/
def MF (D : va_G) (T : Nat → ClassId) (m0 : Nat) (th : Int32) (H : Heap) : Prop :=
  pAt D H m0 (eO 4 [.int th, .ref (m0 + 1), .ref (m0 + 10)]) ∧ pAt D H (m0 + 1) (eR (T 4) 8 (fun i => some (m0 + 2 + i))) ∧ pAt D H (m0 + 10) (eR (T 5) 5 (fun i => some (m0 + 11 + i))) ∧ (∀ i : Nat, i < 8 → pAt D H (m0 + 2 + i) (eN (T 0) 201 zr0)) ∧ ∀ i : Nat, i < 5 → pAt D H (m0 + 11 + i) (eN (T 1) 201 zr0)
section MFs
variable {D : va_G} {T : Nat → ClassId} {m0 : Nat} {th th' : Int32} {H H1 : Heap}
theorem MF.of (h : MDW D T m0 (m0 + 1) (m0 + 1 + 9) (fun i => m0 + 1 + 1 + i) (fun i => m0 + 1 + 10 + i) th (fun _ _ => nI 0) (fun _ _ => nI 0) H) : MF D T m0 th H := by
  obtain ⟨h1, h2, h3, h4, h5⟩ := h
  have e1 : m0 + 1 + 9 = m0 + 10 := by omega
  rw [e1] at h1 h3
  refine ⟨h1, h2.outR fun k hk => ?_, h3.outR fun k hk => ?_, fun i hi => ?_, fun i hi => ?_⟩
  · rw [if_pos hk]
  · rw [if_pos hk]
  · exact h4 i hi
  · exact h5 i hi
theorem MF.o (h : MF D T m0 th H) : pAt D H m0 (eO 4 [.int th, .ref (m0 + 1), .ref (m0 + 10)]) := h.1
theorem MF.s (h : MF D T m0 th H) : pAt D H (m0 + 1) (eR (T 4) 8 (fun i => some (m0 + 2 + i))) := h.2.1
theorem MF.v (h : MF D T m0 th H) : pAt D H (m0 + 10) (eR (T 5) 5 (fun i => some (m0 + 11 + i))) := h.2.2.1
theorem MF.f (h : MF D T m0 th H) (i : Nat) (hi : i < 8) : pAt D H (m0 + 2 + i) (eN (T 0) 201 zr0) := h.2.2.2.1 i hi
theorem MF.g (h : MF D T m0 th H) (i : Nat) (hi : i < 5) : pAt D H (m0 + 11 + i) (eN (T 1) 201 zr0) := h.2.2.2.2 i hi
theorem MF.lt (h : MF D T m0 th H) : m0 + 16 ≤ H.size := by
  have h1 := (h.g 4 (by omega)).lt
  omega
theorem MF.ne (h : MF D T m0 th H) {b : Nat} (oq : ∀ q : Nat, q ≠ b → H1[q]? = H[q]?) (hb : b < m0 ∨ m0 + 16 ≤ b) : MF D T m0 th H1 := ⟨h.o.ne oq (by omega), h.s.ne oq (by omega), h.v.ne oq (by omega), fun i hi => (h.f i hi).ne oq (by omega), fun i hi => (h.g i hi).ne oq (by omega)⟩
theorem MF.setO (h : MF D T m0 th H) (hn : pAt D H1 m0 (eO 4 [.int th', .ref (m0 + 1), .ref (m0 + 10)])) (oq : ∀ q : Nat, q ≠ m0 → H1[q]? = H[q]?) : MF D T m0 th' H1 := ⟨hn, h.s.ne oq (by omega), h.v.ne oq (by omega), fun i hi => (h.f i hi).ne oq (by omega), fun i hi => (h.g i hi).ne oq (by omega)⟩
theorem MF.kept (h : MF D T m0 th H) {A : Nat → Prop} (hk : ∀ q : Nat, q < H.size → ¬ A q → H1[q]? = H[q]?) (hA : ∀ q : Nat, m0 ≤ q → q < m0 + 16 → ¬ A q) : MF D T m0 th H1 :=
  ⟨h.o.kept (hk _ h.o.lt (hA _ (by omega) (by omega))), h.s.kept (hk _ h.s.lt (hA _ (by omega) (by omega))), h.v.kept (hk _ h.v.lt (hA _ (by omega) (by omega))), fun i hi => (h.f i hi).kept (hk _ (h.f i hi).lt (hA _ (by omega) (by omega))), fun i hi => (h.g i hi).kept (hk _ (h.g i hi).lt (hA _ (by omega) (by omega)))⟩
theorem MF.old (h : MF D T m0 th H) (o1 : ∀ q : Nat, q < H.size → H1[q]? = H[q]?) : MF D T m0 th H1 := h.kept (A := fun _ => False) (fun q h1 _ => o1 q h1) (fun _ _ _ h => h)
theorem MF.setK (h : MF D T m0 th H) (hn : pAt D H1 m0 (eO 4 [.int th', .ref (m0 + 1), .ref (m0 + 10)])) (hk : ∀ q : Nat, q < H.size → ¬ q = m0 → H1[q]? = H[q]?) : MF D T m0 th' H1 :=
  ⟨hn, h.s.kept (hk _ h.s.lt (by omega)), h.v.kept (hk _ h.v.lt (by omega)), fun i hi => (h.f i hi).kept (hk _ (h.f i hi).lt (by omega)), fun i hi => (h.g i hi).kept (hk _ (h.g i hi).lt (by omega))⟩
theorem MF.zF (h : MF D T m0 th H) (k : Nat) (hk : k < 8) (hn : pAt D H1 (m0 + 2 + k) (eN (T 0) 201 zr0)) (oq : ∀ q : Nat, q ≠ m0 + 2 + k → H1[q]? = H[q]?) : MF D T m0 th H1 := ⟨h.o.ne oq (by omega), h.s.ne oq (by omega), h.v.ne oq (by omega), fun i hi => by
  by_cases e : i = k
  · subst e
    exact hn
  · exact (h.f i hi).ne oq (by omega), fun i hi => (h.g i hi).ne oq (by omega)⟩
theorem MF.zG (h : MF D T m0 th H) (k : Nat) (hk : k < 5) (hn : pAt D H1 (m0 + 11 + k) (eN (T 1) 201 zr0)) (oq : ∀ q : Nat, q ≠ m0 + 11 + k → H1[q]? = H[q]?) : MF D T m0 th H1 := ⟨h.o.ne oq (by omega), h.s.ne oq (by omega), h.v.ne oq (by omega), fun i hi => (h.f i hi).ne oq (by omega), fun i hi => by
  by_cases e : i = k
  · subst e
    exact hn
  · exact (h.g i hi).ne oq (by omega)⟩
end MFs
/-- what is left of the world at the end: the object, with what it threw -/
def MT (D : va_G) (m0 : Nat) (th : Int32) (H : Heap) : Prop := ∃ vs vv : Value, pAt D H m0 (eO 4 [.int th, vs, vv])
/-- what a call of the Model may write -/
def MA (m0 sz : Nat) : Nat → Prop := fun q => (m0 ≤ q ∧ q < m0 + 16) ∨ sz ≤ q
/-- beyond its length a row of numbers holds nothing -/
theorem pAt.outN {D : va_G} {H : Heap} {a : Nat} {cA : ClassId} {n : Nat} {f g : Nat → Int32} (h : pAt D H a (eN cA n f)) (e : ∀ k, k < n → f k = g k) : pAt D H a (eN cA n g) := by
  have h1 : H[a]? = some (vp_cell cA _) := h
  show H[a]? = some (vp_cell cA _)
  rw [h1, vp_cell_i, vp_cell_i]
  have h2 : (fun j : Fin n => Value.int (f j.val)) = fun j : Fin n => Value.int (g j.val) := funext fun j => by rw [e j.val j.isLt]
  show some ({ cls := cA, slots := Array.ofFn (n := n) fun j => Value.int (f j.val), vm := .none } : Cell) = some { cls := cA, slots := Array.ofFn (n := n) fun j => Value.int (g j.val), vm := .none }
  rw [h2]
theorem q_over {ty : FieldType} {U : State} (h : va_AOA ty U) : ∃ comp c k, U.vm.findClass (FieldType.array ty).toString = some comp ∧ U.vm.classes[c]? = some k ∧ k.kind = .array comp (.array ty) ∧ U.vm.findClass ("[" ++ (FieldType.array ty).toString) = some c := by
  unfold va_AOA Cond.before at h
  simp only [Cond.holds, Cond.value, beq_iff_eq] at h
  cases hc : U.vm.findClass (FieldType.array ty).toString with
  | none => simp [hc] at h
  | some comp =>
    simp only [hc, Option.bind_some, Option.bind_eq_some_iff, Option.map_eq_some_iff] at h
    obtain ⟨c, hi, k, hk, hb⟩ := h
    obtain ⟨hlt, hp, -⟩ := Array.findIdx?_eq_some_iff_getElem.mp hi
    have hkk : U.vm.classes[c] = k := (Array.getElem?_eq_some_iff.mp hk).2
    rw [hkk] at hp
    cases hkind : k.kind with
    | array component t9 =>
      rw [hkind] at hb hp
      simp at hb hp
      exact ⟨comp, c, k, rfl, hk, by rw [hkind, hp, hb.1], hb.2⟩
    | _ => rw [hkind] at hb; simp at hb
section FWA
variable {p : Program} {l : Launch} {e : Env} {R : Room} {s : State} {m : MethodId} {args : Array Value} {below : List Frame} {meth : Method} {c : Code} {H : Heap} {locs : List Loc} {cells slots : Nat} {Q : State → Prop}
variable {cc : ByteArray} {pc : Nat} {ls : Array Slot} {rest : List Value} {D : va_G} {T : Nat → ClassId} {A : Nat → Prop} {a : Nat} {H0 : Heap}
/-- a row (of class cV) put into a row of rows -/
theorem q_aasta (hx : p.tables.exec = Jvm.exec) (hb : c.code = cc) (hK : KB D T s) (ti tv : Nat) {cA cV : ClassId} {ty : FieldType} (ht : (TY T)[ti]? = some (cA, .array ty)) (hv0 : (TY T)[tv]? = some (cV, ty)) (hover : va_AOA ty s) {n nv v : Nat} {f : Nat → Option Nat} {g : Nat → Int32} (ha : pAt D H a (eR cA n f)) (hv : pAt D H v (eN cV nv g)) {i : Int32} (j : Nat) (hi : i = nI j) (hj : j < n) (hn : n < 2 ^ 31) (hnm : s.vm.findClass (FieldType.array ty).toString = some cV) (hS : va_S A H0 H locs) (hA : A a) (hdg : decode cc pc = .ok (.aastore, 1))
    (kk : ∀ (H1 : Heap) (locs1 : List Loc), pAt D H1 a (eR cA n (fun k => if k = j then some v else f k)) → H1.size = H.size → (∀ q : Nat, q ≠ a → H1[q]? = H[q]?) → va_S A H0 H1 locs1 → W p l e R s m args below meth c H1 locs1 cells slots Q (F0 m (pc + 1) ls rest)) : W p l e R s m args below meth c H locs cells slots Q (F0 m pc ls (.ref v :: .int i :: .ref a :: rest)) := by
  subst hi
  have hin : vp_in (nI j) n := vp_in_nI hj hn
  have hcl : (nI j).toNatClampNeg = j := nI_clamp (by omega)
  obtain ⟨comp, c9, k9, f1, f2, f3, f4⟩ := q_over hover
  have e1 : s.vm.findClass ("[" ++ (FieldType.array ty).toString) = some cA := (hK.1.2 ti _ ht).2
  have e2 : c9 = cA := Option.some.inj (f4.symm.trans e1)
  subst e2
  have e4 : comp = cV := Option.some.inj (f1.symm.trans hnm)
  subst e4
  obtain ⟨-, kV, hkV, -⟩ := (hK.1.2 tv _ hv0).1 nv (fun j => .int (g j))
  refine W.aast hx hb (pone ha 0 _ rfl) (fun q h => by cases h) (fun h => by cases h) f2 f3 rfl hkV ⟨fun q => hin (Or.inl q), by show _ < (arrV _ _ _).slots.size; rw [arrV_size, hcl]; exact hj⟩ (pone hv 0 _ rfl) (fun q h => by cases h) hkV (by
    have h9 : s.vm.assignableAux (255 + 1) comp comp = true := by
      rw [Vm.assignableAux, Bool.or_eq_true, beq_iff_eq]
      exact Or.inl rfl
    exact h9) rfl rfl hdg fun H1 e z oq => ?_
  refine kk H1 _ ?_ z oq (hS.put z oq hA)
  show H1[a]? = some (vp_cell _ _)
  rw [e, vp_cell_q, vp_cell_q, arrV_store, hcl]
  congr 2
  funext q
  by_cases hq : q = j
  · subst hq
    simp [updV, va_rf]
  · simp [updV, hq]
theorem q_last (hx : p.tables.exec = Jvm.exec) (hb : c.code = cc) (hK : KB D T s) {n : Nat} {f : Nat → Int64} (ha : pAt D H a (eL (T 6) n f)) {i : Int32} {x : Int64} (j : Nat) (hi : i = nI j) (hj : j < n) (hn : n < 2 ^ 31) (hS : va_S A H0 H locs) (hA : A a) (hdg : decode cc pc = .ok (.lastore, 1))
    (kk : ∀ (H1 : Heap) (locs1 : List Loc), pAt D H1 a (eL (T 6) n (vp_updL f j x)) → H1.size = H.size → (∀ q : Nat, q ≠ a → H1[q]? = H[q]?) → va_S A H0 H1 locs1 → W p l e R s m args below meth c H1 locs1 cells slots Q (F0 m (pc + 1) ls rest)) : W p l e R s m args below meth c H locs cells slots Q (F0 m pc ls (.long x :: .int i :: .ref a :: rest)) := by
  subst hi
  have hin : vp_in (nI j) n := vp_in_nI hj hn
  refine W.last hx hb (pone ha 0 _ rfl) ((hK.1.2 6 _ rfl).1 n (fun j => .long (f j))) (fun q => by cases q) (by show ¬ (nI j < 0 ∨ (arrV _ _ _).slots.size ≤ _); rw [arrV_size]; exact hin) rfl rfl hdg fun H1 e z oq => ?_
  refine kk H1 _ ?_ z oq (hS.put z oq hA)
  show H1[a]? = some (vp_cell _ _)
  rw [e, vp_cell_l, vp_cell_l, arrV_store]
  congr 2
  funext q
  rw [nI_clamp (by omega)]
  by_cases hq : q = j
  · subst hq
    simp [updV, vp_updL]
  · simp [updV, vp_updL, hq]
theorem q_dast (hx : p.tables.exec = Jvm.exec) (hb : c.code = cc) (hK : KB D T s) {n : Nat} {f : Nat → UInt64} (ha : pAt D H a (eD (T 7) n f)) {i : Int32} {x : UInt64} (j : Nat) (hi : i = nI j) (hj : j < n) (hn : n < 2 ^ 31) (hS : va_S A H0 H locs) (hA : A a) (hdg : decode cc pc = .ok (.dastore, 1))
    (kk : ∀ (H1 : Heap) (locs1 : List Loc), pAt D H1 a (eD (T 7) n (vf_upd f j x)) → H1.size = H.size → (∀ q : Nat, q ≠ a → H1[q]? = H[q]?) → va_S A H0 H1 locs1 → W p l e R s m args below meth c H1 locs1 cells slots Q (F0 m (pc + 1) ls rest)) : W p l e R s m args below meth c H locs cells slots Q (F0 m pc ls (.double x :: .int i :: .ref a :: rest)) := by
  subst hi
  have hin : vp_in (nI j) n := vp_in_nI hj hn
  refine W.dast hx hb (pone ha 0 _ rfl) ((hK.1.2 7 _ rfl).1 n (fun j => .double (f j))) (fun q => by cases q) (by show ¬ (nI j < 0 ∨ (arrV _ _ _).slots.size ≤ _); rw [arrV_size]; exact hin) rfl rfl hdg fun H1 e z oq => ?_
  refine kk H1 _ ?_ z oq (hS.put z oq hA)
  show H1[a]? = some (vp_cell _ _)
  rw [e, vp_cell_d, vp_cell_d, arrV_store]
  congr 2
  funext q
  rw [nI_clamp (by omega)]
  by_cases hq : q = j
  · subst hq
    simp [updV, vf_upd]
  · simp [updV, vf_upd, hq]
/-- nothing is copied: no number of a row into a row -/
theorem q_copy0 (hx : p.tables.exec = Jvm.exec) (hb : c.code = cc) (hml : c.maxLocals = ls.size) {own : String} {index : Nat} (hown : s.vm.findClass own = some m.cls) (hlink : (Cond.methodLink own index arraycopyName).before args s = true) (hnat : (Cond.native arraycopyName).before args s = true) (hstat : (Cond.static arraycopyName).before args s = true) (hini : (Cond.initialized "java/lang/System").before args s = true)
    (hK : KB D T s) {a0 n0 n1 : Nat} {f g : Nat → Int32} (ha0 : pAt D H a0 (eN (T 1) n0 f)) (ha : pAt D H a (eN (T 1) n1 g)) (hne : a0 ≠ a) (hS : va_S A H0 H locs) (hA0 : A a0) (hA : A a)
    (hframes : 1 ≤ R.frames) (hlocals : (rest.map fun v => v.category).sum + (nativeFrameWords "java/lang/System" "arraycopy" 5 + 11) ≤ R.locals) (hdg : decode cc pc = .ok (.invokestatic index, 3))
    (kk : ∀ (H1 : Heap) (locs1 : List Loc), pAt D H1 a0 (eN (T 1) n0 f) → pAt D H1 a (eN (T 1) n1 g) → va_S A H0 H1 locs1 → W p l e R s m args below meth c H1 locs1 cells slots Q (F0 m (pc + 3) ls rest)) : W p l e R s m args below meth c H locs cells slots Q (F0 m pc ls (.int (nI 0) :: .int (nI 0) :: .ref a :: .int (nI 0) :: .ref a0 :: rest)) := by
  have hP : va_P D vwCl [(a0, eN (T 1) n0 f), (a, eN (T 1) n1 g)] H := fun k q hk => by
    match k, hk with
    | 0, hk => cases hk; exact ha0
    | 1, hk => cases hk; exact ha
    | k + 2, hk => simp at hk
  have hD : va_D A [(a0, eN (T 1) n0 f), (a, eN (T 1) n1 g)] := by
    refine ⟨fun i j x y hi hj hxy => ?_, fun k q hk => ?_⟩
    · match i, j, hi, hj with
      | 0, 0, _, _ => rfl
      | 1, 1, _, _ => rfl
      | 0, 1, hi, hj => cases hi; cases hj; exact absurd hxy hne
      | 1, 0, hi, hj => cases hi; cases hj; exact absurd hxy.symm hne
      | i + 2, _, hi, _ => simp at hi
      | 0, j + 2, _, hj => simp at hj
      | 1, j + 2, _, hj => simp at hj
    · match k, hk with
      | 0, hk => cases hk; exact hA0
      | 1, hk => cases hk; exact hA
      | k + 2, hk => simp at hk
  have e0 : (nI 0).toNatClampNeg = 0 := nI_clamp (by decide)
  refine va_copyi hx hb hml hown hlink hnat hstat hini hK.1 hP hD hS 0 1 1 1 rfl rfl (ty := .int) rfl rfl rfl (by decide) (by decide) (by decide) (by rw [e0]; omega) (by rw [e0]; omega) (fun i hi => by rw [e0] at hi; omega) hframes hlocals hdg (fun H1 locs1 hP1 _ hS1 => ?_)
  have eg : va_cpy f g (nI 0).toNatClampNeg (nI 0).toNatClampNeg (nI 0).toNatClampNeg = g := by
    funext q
    rw [e0]
    exact pk_cpy_out (Or.inr (Nat.zero_le q))
  rw [eg] at hP1
  exact kk H1 locs1 (hP1 0 _ rfl) (hP1 1 _ rfl) hS1
end FWA
