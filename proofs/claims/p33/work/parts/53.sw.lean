/-! MORE ROWS OF THE MACHINE: rows of rows; the world of Stones -/
abbrev zr0 : Nat → Int32 := fun _ => nI 0
theorem jmax_nat {a b : Nat} (ha : a < 2 ^ 31) (hb : b < 2 ^ 31) : jmax (nI a) (nI b) = nI (max a b) := by
  unfold jmax
  rcases Nat.lt_or_ge a b with h | h
  · rw [if_pos ((nI_ltI ha hb).mpr h), Nat.max_eq_right (Nat.le_of_lt h)]
  · rw [if_neg (fun q => absurd ((nI_ltI ha hb).mp q) (by omega)), Nat.max_eq_left h]
theorem jmin_nat {a b : Nat} (ha : a < 2 ^ 31) (hb : b < 2 ^ 31) : jmin (nI a) (nI b) = nI (min a b) := by
  unfold jmin
  rcases Nat.lt_or_ge b a with h | h
  · rw [if_pos ((nI_ltI hb ha).mpr h), Nat.min_eq_right (Nat.le_of_lt h)]
  · rw [if_neg (fun q => absurd ((nI_ltI hb ha).mp q) (by omega)), Nat.min_eq_left h]
/-- beyond its length a row of numbers holds nothing -/
theorem pAt.outN {D : va_G} {H : Heap} {a : Nat} {cA : ClassId} {n : Nat} {f g : Nat → Int32} (h : pAt D H a (eN cA n f)) (e : ∀ k, k < n → f k = g k) : pAt D H a (eN cA n g) := by
  have h1 : H[a]? = some (vp_cell cA _) := h
  show H[a]? = some (vp_cell cA _)
  rw [h1, vp_cell_i, vp_cell_i]
  have h2 : (fun j : Fin n => Value.int (f j.val)) = fun j : Fin n => Value.int (g j.val) := funext fun j => by rw [e j.val j.isLt]
  show some ({ cls := cA, slots := Array.ofFn (n := n) fun j => Value.int (f j.val), vm := .none } : Cell) = some { cls := cA, slots := Array.ofFn (n := n) fun j => Value.int (g j.val), vm := .none }
  rw [h2]
theorem q_over {ty : FieldType} {U : State} (h : va_AOA ty U) : ∃ comp c k, U.vm.findClass (FieldType.array ty).toString = some comp ∧ U.vm.classes[c]? = some k ∧ k.kind = .array comp (.array ty) ∧ U.vm.findClass ("[" ++ (FieldType.array ty).toString) = some c := by
  unfold va_AOA Cond.before at h
  simp only [Cond.holds, Cond.value, beq_iff_eq] at h
  cases hc : U.vm.findClass (FieldType.array ty).toString with
  | none => simp [hc] at h
  | some comp =>
    simp only [hc, Option.bind_some, Option.bind_eq_some_iff, Option.map_eq_some_iff] at h
    obtain ⟨c, hi, k, hk, hb⟩ := h
    obtain ⟨hlt, hp, -⟩ := Array.findIdx?_eq_some_iff_getElem.mp hi
    have hkk : U.vm.classes[c] = k := (Array.getElem?_eq_some_iff.mp hk).2
    rw [hkk] at hp
    cases hkind : k.kind with
    | array component t9 =>
      rw [hkind] at hb hp
      simp at hb hp
      exact ⟨comp, c, k, rfl, hk, by rw [hkind, hp, hb.1], hb.2⟩
    | _ => rw [hkind] at hb; simp at hb
section FWA
variable {p : Program} {l : Launch} {e : Env} {R : Room} {s : State} {m : MethodId} {args : Array Value} {below : List Frame} {meth : Method} {c : Code} {H : Heap} {locs : List Loc} {cells slots : Nat} {Q : State → Prop}
variable {cc : ByteArray} {pc : Nat} {ls : Array Slot} {rest : List Value} {D : va_G} {T : Nat → ClassId} {A : Nat → Prop} {a : Nat} {H0 : Heap}
/-- a row (of class cV) put into a row of rows -/
theorem q_aasta (hx : p.tables.exec = Jvm.exec) (hb : c.code = cc) (hK : KB D T s) (ti tv : Nat) {cA cV : ClassId} {ty : FieldType} (ht : (TY T)[ti]? = some (cA, .array ty)) (hv0 : (TY T)[tv]? = some (cV, ty)) (hover : va_AOA ty s) {n nv v : Nat} {f : Nat → Option Nat} {g : Nat → Int32} (ha : pAt D H a (eR cA n f)) (hv : pAt D H v (eN cV nv g)) {i : Int32} (j : Nat) (hi : i = nI j) (hj : j < n) (hn : n < 2 ^ 31) (hnm : s.vm.findClass (FieldType.array ty).toString = some cV) (hS : va_S A H0 H locs) (hA : A a) (hdg : decode cc pc = .ok (.aastore, 1))
    (kk : ∀ (H1 : Heap) (locs1 : List Loc), pAt D H1 a (eR cA n (fun k => if k = j then some v else f k)) → H1.size = H.size → (∀ q : Nat, q ≠ a → H1[q]? = H[q]?) → va_S A H0 H1 locs1 → W p l e R s m args below meth c H1 locs1 cells slots Q (F0 m (pc + 1) ls rest)) : W p l e R s m args below meth c H locs cells slots Q (F0 m pc ls (.ref v :: .int i :: .ref a :: rest)) := by
  subst hi
  have hin : vp_in (nI j) n := vp_in_nI hj hn
  have hcl : (nI j).toNatClampNeg = j := nI_clamp (by omega)
  obtain ⟨comp, c9, k9, f1, f2, f3, f4⟩ := q_over hover
  have e1 : s.vm.findClass ("[" ++ (FieldType.array ty).toString) = some cA := (hK.1.2 ti _ ht).2
  have e2 : c9 = cA := Option.some.inj (f4.symm.trans e1)
  subst e2
  have e4 : comp = cV := Option.some.inj (f1.symm.trans hnm)
  subst e4
  obtain ⟨-, kV, hkV, -⟩ := (hK.1.2 tv _ hv0).1 nv (fun j => .int (g j))
  refine W.aast hx hb (pone ha 0 _ rfl) (fun q h => by cases h) (fun h => by cases h) f2 f3 rfl hkV ⟨fun q => hin (Or.inl q), by show _ < (arrV _ _ _).slots.size; rw [arrV_size, hcl]; exact hj⟩ (pone hv 0 _ rfl) (fun q h => by cases h) hkV (by
    have h9 : s.vm.assignableAux (255 + 1) comp comp = true := by
      rw [Vm.assignableAux, Bool.or_eq_true, beq_iff_eq]
      exact Or.inl rfl
    exact h9) rfl rfl hdg fun H1 e z oq => ?_
  refine kk H1 _ ?_ z oq (hS.put z oq hA)
  show H1[a]? = some (vp_cell _ _)
  rw [e, vp_cell_q, vp_cell_q, arrV_store, hcl]
  congr 2
  funext q
  by_cases hq : q = j
  · subst hq
    simp [updV, va_rf]
  · simp [updV, hq]
/-- a row of rows of numbers, made -/
theorem q_newqa (hx : p.tables.exec = Jvm.exec) (hb : c.code = cc) {own : String} {index : Nat} (hown : s.vm.findClass own = some m.cls) (hclink : (Cond.classLink own index "[I").before args s = true) (hK : KB D T s) {i : Int32} (j : Nat) (hi : i = nI j) (hj : j < 2 ^ 27) (hcells : cells + 1 ≤ R.cells) (hslots : slots + j ≤ R.slots) (hS : va_S A H0 H locs) (hdg : decode cc pc = .ok (.anewarray index, 3))
    (kk : ∀ H1 : Heap, pAt D H1 H.size (eR (T 5) j (fun _ => none)) → H1.size = H.size + 1 → (∀ q : Nat, q < H.size → H1[q]? = H[q]?) → va_S A H0 H1 locs → W p l e R s m args below meth c H1 locs (cells + 1) (slots + j) Q (F0 m (pc + 3) ls (.ref H.size :: rest))) : W p l e R s m args below meth c H locs cells slots Q (F0 m pc ls (.int i :: rest)) := by
  subst hi
  have hN : (nI j).toNatClampNeg = j := nI_clamp (by omega)
  refine W.anewA (t := .int) hx hb hown hclink (va_AOA.use hK.2.1.2.2.2.1) rfl hdg rfl (fun q => vp_in_nI (Nat.lt_succ_self j) (by omega) (Or.inl q)) (by rw [hN]; omega) hcells (by rw [hN]; exact hslots) fun cA kA comp f1 f2 f3 f4 => ?_
  rw [hN]
  have hc : cA = T 5 := Option.some.inj (f1.symm.trans (hK.1.2 5 _ rfl).2)
  subst hc
  generalize hH1 : H.push ({ cls := T 5, slots := Array.replicate j .null, vm := .none } : Cell) = H1
  have z1 : H1.size = H.size + 1 := by rw [← hH1, Array.size_push]
  have e1 : H1[H.size]? = some (arrV (T 5) j (fun _ => .null)) := by rw [← hH1, Array.getElem?_push_size, ← arrV_new]
  have o1 : ∀ q : Nat, q < H.size → H1[q]? = H[q]? := fun q hq => by rw [← hH1, Array.getElem?_push, if_neg (Nat.ne_of_lt hq)]
  refine kk H1 ?_ z1 o1 (hS.grow z1 o1)
  show H1[H.size]? = some (vp_cell _ _)
  rw [e1, vp_cell_q]
  rfl
/-- all of a row of rows copied to the beginning of another -/
theorem q_copyA (hx : p.tables.exec = Jvm.exec) (hb : c.code = cc) (hml : c.maxLocals = ls.size) {own : String} {index : Nat} (hown : s.vm.findClass own = some m.cls) (hlink : (Cond.methodLink own index arraycopyName).before args s = true) (hnat : (Cond.native arraycopyName).before args s = true) (hstat : (Cond.static arraycopyName).before args s = true) (hini : (Cond.initialized "java/lang/System").before args s = true)
    (hK : KB D T s) {a0 n0 n1 : Nat} {f g : Nat → Option Nat} (ha0 : pAt D H a0 (eR (T 5) n0 f)) (ha : pAt D H a (eR (T 5) n1 g)) (hn : n0 ≤ n1) (hn2 : n1 < 2 ^ 31) (hel : ∀ i : Nat, i < n0 → ∃ (y : Nat) (x : Nat → Int32), f i = some y ∧ pAt D H y (eN (T 1) 2 x)) (hS : va_S A H0 H locs) (hA : A a)
    (hframes : 1 ≤ R.frames) (hlocals : (rest.map fun v => v.category).sum + (nativeFrameWords "java/lang/System" "arraycopy" 5 + 11) ≤ R.locals) (hdg : decode cc pc = .ok (.invokestatic index, 3))
    (kk : ∀ (H1 : Heap) (locs1 : List Loc), pAt D H1 a (eR (T 5) n1 (fun k => if k < n0 then f k else g k)) → H1.size = H.size → (∀ q : Nat, q ≠ a → H1[q]? = H[q]?) → va_S A H0 H1 locs1 → W p l e R s m args below meth c H1 locs1 cells slots Q (F0 m (pc + 3) ls rest)) : W p l e R s m args below meth c H locs cells slots Q (F0 m pc ls (.int (nI n0) :: .int (nI 0) :: .ref a :: .int (nI 0) :: .ref a0 :: rest)) := by
  intro S8 hT X
  have e0 : (nI 0).toNatClampNeg = 0 := nI_clamp (by decide)
  have en : (nI n0).toNatClampNeg = n0 := nI_clamp (by omega)
  have hc0 : H[a0]? = some (vp_cell (T 5) (n0, .inr (.inr (.inr (.inr f))))) := ha0
  have hc1 : H[a]? = some (vp_cell (T 5) (n1, .inr (.inr (.inr (.inr g))))) := ha
  obtain ⟨-, k0, hk0, cm0, hkk0⟩ := (hK.1.2 5 _ rfl).1 n0 (fun j => va_rf (f j))
  obtain ⟨-, k1, hk1, cm1, hkk1⟩ := (hK.1.2 5 _ rfl).1 n1 (fun j => va_rf (g j))
  obtain ⟨-, kV, hkV, -⟩ := (hK.1.2 1 _ rfl).1 2 (fun _ => .int 0)
  have hcm : cm1 = T 1 := by
    obtain ⟨comp, c9, k9, f1, f2, f3, f4⟩ := q_over hK.2.1.2.2.2.1
    have g1 : c9 = T 5 := Option.some.inj (f4.symm.trans (hK.1.2 5 _ rfl).2)
    have g2 : comp = T 1 := Option.some.inj (f1.symm.trans (hK.1.2 1 _ rfl).2)
    subst g1
    have g3 : k9 = k1 := Option.some.inj (f2.symm.trans hk1)
    subst g3
    rw [f3] at hkk1
    cases hkk1
    exact g2
  subst hcm
  obtain ⟨vm', X', step⟩ := X.arraycopy hx hown hlink hnat hstat hini (src := a0) (dst := a) (cs := vp_cell (T 5) (n0, .inr (.inr (.inr (.inr f))))) (cd := vp_cell (T 5) (n1, .inr (.inr (.inr (.inr g))))) (srcPos := nI 0) (destPos := nI 0) (n := nI n0) (by rw [hT]; exact hc0) (by rw [hT]; exact hc1)
    (fun _ h => by cases h) (fun _ h => by cases h) (fun h => by cases h) (fun h => by cases h) hk0 hk1 hkk0 hkk1 rfl (nI_pos (by decide)) (nI_pos (by decide)) (nI_pos (by omega))
    (by rw [nI_toInt (by decide), nI_toInt (by omega)]; show ¬ _ > ((arrV (T 5) n0 (fun j => va_rf (f j))).slots.size : Int); rw [arrV_size]; omega)
    (by rw [nI_toInt (by decide), nI_toInt (by omega)]; show ¬ _ > ((arrV (T 5) n1 (fun j => va_rf (g j))).slots.size : Int); rw [arrV_size]; omega)
    (fun vm₁ hal i hi => by
      have hi : i < n0 := by rw [en] at hi; exact hi
      obtain ⟨y, x, hy, hp⟩ := hel i hi
      have e : (vp_cell (T 5) (n0, .inr (.inr (.inr (.inr f))))).slots.getD ((nI 0).toNatClampNeg + i) .null = .ref y := by
        show (arrV (T 5) n0 (fun j => va_rf (f j))).slots.getD _ _ = _
        rw [e0, Nat.zero_add, Array.getD_eq_getD_getElem?, arrV_read _ _ hi, hy]
        rfl
      rw [e]
      obtain ⟨kV', hkV', -⟩ := hal.2.2 _ _ hkV
      refine ⟨rfl, vp_cell (T 1) (2, .inl x), (show S8.heap[y]? = _ by rw [hT]; exact hp), (fun q h => by cases h), ⟨kV', hkV'⟩, ⟨kV', hkV'⟩, ?_⟩
      show vm₁.assignable _ _ = true
      rw [hal.assignable]
      have h9 : s.vm.assignableAux (255 + 1) (T 1) (T 1) = true := by
        rw [Vm.assignableAux, Bool.or_eq_true, beq_iff_eq]
        exact Or.inl rfl
      exact h9)
    (g := F0 m pc ls (.int (nI n0) :: .int (nI 0) :: .ref a :: .int (nI 0) :: .ref a0 :: rest)) rfl (by rw [hml]) (rest := rest) rfl (by rw [hb]; exact hdg) hframes (by show 2 * 0 + _ + _ ≤ _; omega)
  have e1 : copied (vp_cell (T 5) (n0, .inr (.inr (.inr (.inr f))))) (vp_cell (T 5) (n1, .inr (.inr (.inr (.inr g))))) (nI 0) (nI 0) (nI n0) = vp_cell (T 5) (n1, .inr (.inr (.inr (.inr (fun k => if k < n0 then f k else g k))))) := by
    rw [vp_cell_q, vp_cell_q, vp_cell_q]
    refine (va_copied (fun z => va_rf z) (T 5) (T 5) f g (by rw [e0, en]; omega)).trans ?_
    congr 1
    funext k
    unfold va_cpy
    rw [e0, en]
    by_cases hk : k < n0
    · rw [if_pos hk, if_pos (by omega), show 0 + (k - 0) = k by omega]
    · rw [if_neg hk, if_neg (by omega)]
  rw [e1] at X' step
  have hl : a < H.size := (Array.getElem?_eq_some_iff.mp hc1).1
  have oq : ∀ (z : Cell) (q : Nat), q ≠ a → (H.setIfInBounds a z)[q]? = H[q]? := fun z q hq => by simp [Array.getElem?_setIfInBounds, Ne.symm hq]
  have hheap : ((S8.setVm vm').setCell a (vp_cell (T 5) (n1, .inr (.inr (.inr (.inr (fun k => if k < n0 then f k else g k))))))).heap = H.setIfInBounds a (vp_cell (T 5) (n1, .inr (.inr (.inr (.inr (fun k => if k < n0 then f k else g k)))))) := by rw [← hT]; rfl
  obtain ⟨t, a1, b1⟩ := kk _ _ (show (H.setIfInBounds a (vp_cell (T 5) (n1, .inr (.inr (.inr (.inr (fun k => if k < n0 then f k else g k)))))))[a]? = some _ by simp [Array.getElem?_setIfInBounds, hl]) (by simp) (oq _) ⟨by simp; exact hS.1, fun q g1 g2 => by
      rw [oq _ q (fun e => g2 (by rw [e]; exact hA))]
      exact hS.2.1 q g1 g2, fun q hq => by
      rcases List.mem_append.mp hq with h | h
      · exact hS.2.2 q h
      · obtain ⟨z, -, hz⟩ := List.mem_map.mp h
        rw [← hz]
        exact hA⟩ _ hheap X'
  exact ⟨t, step t a1, b1⟩
/-- a row of rows put into the row of those -/
theorem q_aastq (hx : p.tables.exec = Jvm.exec) (hb : c.code = cc) (hK : KB D T s) {n nv v : Nat} {f g : Nat → Option Nat} (ha : pAt D H a (eR (T 8) n f)) (hv : pAt D H v (eR (T 5) nv g)) {i : Int32} (j : Nat) (hi : i = nI j) (hj : j < n) (hn : n < 2 ^ 31) (hS : va_S A H0 H locs) (hA : A a) (hdg : decode cc pc = .ok (.aastore, 1))
    (kk : ∀ (H1 : Heap) (locs1 : List Loc), pAt D H1 a (eR (T 8) n (fun k => if k = j then some v else f k)) → H1.size = H.size → (∀ q : Nat, q ≠ a → H1[q]? = H[q]?) → va_S A H0 H1 locs1 → W p l e R s m args below meth c H1 locs1 cells slots Q (F0 m (pc + 1) ls rest)) : W p l e R s m args below meth c H locs cells slots Q (F0 m pc ls (.ref v :: .int i :: .ref a :: rest)) := by
  subst hi
  have hin : vp_in (nI j) n := vp_in_nI hj hn
  have hcl : (nI j).toNatClampNeg = j := nI_clamp (by omega)
  obtain ⟨comp, c9, k9, f1, f2, f3, f4⟩ := q_over hK.2.1.2.2.1
  have e2 : c9 = T 8 := Option.some.inj (f4.symm.trans (hK.1.2 8 _ rfl).2)
  subst e2
  have e4 : comp = T 5 := Option.some.inj (f1.symm.trans (hK.1.2 5 _ rfl).2)
  subst e4
  obtain ⟨-, kV, hkV, -⟩ := (hK.1.2 5 _ rfl).1 nv (fun j => va_rf (g j))
  refine W.aast hx hb (pone ha 0 _ rfl) (fun q h => by cases h) (fun h => by cases h) f2 f3 rfl hkV ⟨fun q => hin (Or.inl q), by show _ < (arrV _ _ _).slots.size; rw [arrV_size, hcl]; exact hj⟩ (pone hv 0 _ rfl) (fun q h => by cases h) hkV (by
    have h9 : s.vm.assignableAux (255 + 1) (T 5) (T 5) = true := by
      rw [Vm.assignableAux, Bool.or_eq_true, beq_iff_eq]
      exact Or.inl rfl
    exact h9) rfl rfl hdg fun H1 e z oq => ?_
  refine kk H1 _ ?_ z oq (hS.put z oq hA)
  show H1[a]? = some (vp_cell _ _)
  rw [e, vp_cell_q, vp_cell_q, arrV_store, hcl]
  congr 2
  funext q
  by_cases hq : q = j
  · subst hq
    simp [updV, va_rf]
  · simp [updV, hq]
end FWA
