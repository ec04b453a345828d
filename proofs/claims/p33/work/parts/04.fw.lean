/-! THE WALK'S OWN ROWS: cells one by one, what the tables know in one bundle (KB), contracts over them -/
def TY (T : Nat → ClassId) : List (ClassId × FieldType) := [(T 0, .boolean), (T 1, .int), (T 2, .object RX0), (T 3, .object RX2), (T 1, .int), (T 5, .array .int), (T 6, .int), (T 7, .int), (T 8, .array (.array .int))]
abbrev pAt (D : va_G) (H : Heap) (a : Nat) (e : va_E) : Prop := va_at D vwCl (a, e) H
/-- a row of numbers; a row of references; an object -/
abbrev eN (c : ClassId) (n : Nat) (f : Nat → Int32) : va_E := .inl (c, n, .inl f)
abbrev eL (c : ClassId) (n : Nat) (f : Nat → Int64) : va_E := .inl (c, n, .inr (.inl f))
abbrev eD (c : ClassId) (n : Nat) (f : Nat → UInt64) : va_E := .inl (c, n, .inr (.inr (.inr (.inl f))))
abbrev eR (c : ClassId) (n : Nat) (f : Nat → Option Nat) : va_E := .inl (c, n, .inr (.inr (.inr (.inr f))))
abbrev eO (ci : Nat) (fs : List Value) : va_E := .inr (ci, fs)
theorem pone {D : va_G} {H : Heap} {a : Nat} {e : va_E} (h : pAt D H a e) : va_P D vwCl [(a, e)] H := fun k q hk => by
  cases k with
  | zero => cases hk; exact h
  | succ k => simp at hk
theorem pdone {A : Nat → Prop} {a : Nat} {e : va_E} (h : A a) : va_D A [(a, e)] := by
  refine ⟨fun i j x y hi hj _ => ?_, fun k q hk => ?_⟩
  · have h1 : i < 1 := (List.getElem?_eq_some_iff.mp hi).1
    have h2 : j < 1 := (List.getElem?_eq_some_iff.mp hj).1
    omega
  · cases k with
    | zero => cases hk; exact h
    | succ k => simp at hk
theorem pfst {D : va_G} {H : Heap} {a : Nat} {e : va_E} {ws : va_W} (h : va_P D vwCl ((a, e) :: ws) H) : pAt D H a e := h 0 (a, e) rfl
/-- what the tables say, all that a method's own list of words doesn't carry -/
def KN (U : State) : Prop := va_Nw (.methodLinkNest RX1 46 yX3_isPoint RX3) U ∧ va_Nw (.methodLinkNest RX2 32 yX3_isPoint RX3) U ∧ va_Nw (.methodLinkNest RX3 21 yX0_init RX3) U ∧ va_Nw (.methodLinkNest RX3 26 yX2_init RX3) U ∧ va_Nw (.methodLinkNest RX3 33 yX1_init RX3) U ∧ va_Nw (.methodLinkNest RX4 34 yL_cell RL) U ∧ va_Nw (.methodLinkNest RX4 40 yL_below RL) U
/-- the class of the script's row -/
def SX (c : ClassId) (U : State) : Prop := ∃ (k : Class) (comp : ClassId), U.vm.classes[c]? = some k ∧ k.kind = .array comp .int
theorem SX.moved {c : ClassId} {u U : State} (hal : u.vm.Alike U.vm) (h : SX c u) : SX c U := by
  obtain ⟨k, comp, h1, h2⟩ := h
  obtain ⟨k1, h3, h4⟩ := hal.2.2 _ _ h1
  exact ⟨k1, comp, h3, by rw [h4]; exact h2⟩
def KB (D : va_G) (T : Nat → ClassId) (U : State) : Prop := va_K D vwCl (TY T) U ∧ (va_AO RX0 U ∧ va_AO RX2 U ∧ va_AOA (.array .int) U ∧ va_AOA .int U ∧ SX (T 4) U) ∧ KN U
theorem KN.warm {s U : State} (h : KN s) (hW : s.WarmedH U.vm) : KN U := ⟨va_Nw.warmM hW h.1, va_Nw.warmM hW h.2.1, va_Nw.warmM hW h.2.2.1, va_Nw.warmM hW h.2.2.2.1, va_Nw.warmM hW h.2.2.2.2.1, va_Nw.warmM hW h.2.2.2.2.2.1, va_Nw.warmM hW h.2.2.2.2.2.2⟩
theorem KB.warm {D : va_G} {T : Nat → ClassId} {s U : State} (h : KB D T s) (hW : s.WarmedH U.vm) : KB D T U := ⟨va_K.moved hW.alike h.1, ⟨va_AO.moved hW.alike h.2.1.1, va_AO.moved hW.alike h.2.1.2.1, va_AOA.moved hW.alike h.2.1.2.2.1, va_AOA.moved hW.alike h.2.1.2.2.2.1, SX.moved hW.alike h.2.1.2.2.2.2⟩, h.2.2.warm hW⟩
theorem KN.same {s U : State} (h : KN s) (e : s.vm = U.vm) : KN U := ⟨va_Nw.same rfl e h.1, va_Nw.same rfl e h.2.1, va_Nw.same rfl e h.2.2.1, va_Nw.same rfl e h.2.2.2.1, va_Nw.same rfl e h.2.2.2.2.1, va_Nw.same rfl e h.2.2.2.2.2.1, va_Nw.same rfl e h.2.2.2.2.2.2⟩
theorem KB.same {D : va_G} {T : Nat → ClassId} {s U : State} (h : KB D T s) (e : s.vm = U.vm) : KB D T U := by
  have ha : s.vm.Alike U.vm := by rw [← e]; exact Vm.Alike.refl s.vm
  exact ⟨va_K.moved ha h.1, ⟨va_AO.moved ha h.2.1.1, va_AO.moved ha h.2.1.2.1, va_AOA.moved ha h.2.1.2.2.1, va_AOA.moved ha h.2.1.2.2.2.1, SX.moved ha h.2.1.2.2.2.2⟩, h.2.2.same e⟩
/-- a contract's start: the arguments, the tables, the cells -/
def cP (D : va_G) (T : Nat → ClassId) (av : List Value) (P : Heap → Prop) : Array Value → State → Prop := fun v U => v = av.toArray ∧ KB D T U ∧ P U.heap
theorem cP.blind {D : va_G} {T : Nat → ClassId} {av : List Value} {P : Heap → Prop} : FrameBlind (cP D T av P) := fun _ _ _ _ h => ⟨h.1, h.2.1.same rfl, h.2.2⟩
theorem cP.pre {D : va_G} {T : Nat → ClassId} {av : List Value} {P : Heap → Prop} {s : State} {H : Heap} (hK : KB D T s) (hP : P H) : ∀ U : State, U.heap = H → s.WarmedH U.vm → cP D T av P av.toArray U := fun U hU hW => ⟨rfl, hK.warm hW, by rw [hU]; exact hP⟩
theorem recvO {D : va_G} {T : Nat → ClassId} {s : State} {H : Heap} {a ci : Nat} {fs : List Value} {q : vw_C} (hK : KB D T s) (h : pAt D H a (eO ci fs)) (hc : vwCl[ci]? = some q) : ∃ cell : Cell, H[a]? = some cell ∧ cell.vm.isStatics = false ∧ s.vm.findClass q.1 = some cell.cls := va_recv hK.1 (pone h) hc (q0 := 0) rfl
theorem preS {D : va_G} {T : Nat → ClassId} {s : State} {H : Heap} {av : List Value} {P : Heap → Prop} (hK : KB D T s) (hP : P H) : PreS s H (cP D T av P) av := ⟨cP.blind, cP.pre hK hP⟩
theorem preV {D : va_G} {T : Nat → ClassId} {s : State} {H : Heap} {av : List Value} {P : Heap → Prop} {b ci : Nat} {fs : List Value} {q : vw_C} (hK : KB D T s) (h : pAt D H b (eO ci fs)) (hc : vwCl[ci]? = some q) (hP : P H) : PreV s H q.1 b (cP D T (.ref b :: av) P) av := ⟨cP.blind, recvO hK h hc, cP.pre hK hP⟩
/-- cells that stay -/
theorem pAt.kept {D : va_G} {H H1 : Heap} {a : Nat} {e : va_E} (h : pAt D H a e) (hq : H1[a]? = H[a]?) : pAt D H1 a e := va_at.kept h hq
theorem pAt.lt {D : va_G} {H : Heap} {a : Nat} {e : va_E} (h : pAt D H a e) : a < H.size := va_at.lt h
theorem pAt.ne {D : va_G} {H H1 : Heap} {a b : Nat} {e : va_E} (h : pAt D H a e) (oq : ∀ q : Nat, q ≠ b → H1[q]? = H[q]?) (hn : a ≠ b) : pAt D H1 a e := h.kept (oq a hn)
/-- the script's row: its class is any that holds ints -/
def scX (T : Nat → ClassId) (q N : Nat) (f : Nat → Int32) (H : Heap) : Prop := ∃ scr : Cell, H[q]? = some scr ∧ scr.cls = T 4 ∧ (∀ k, scr.vm ≠ .statics k) ∧ scr.vm ≠ .unknown ∧ scr.slots.size = N ∧ ∀ j : Nat, j < N → scr.slots[j]? = some (.int (f j))
theorem scX.kept {T : Nat → ClassId} {q N : Nat} {f : Nat → Int32} {H H1 : Heap} (h : scX T q N f H) (hq : H1[q]? = H[q]?) : scX T q N f H1 := by
  obtain ⟨scr, h1, h2⟩ := h
  exact ⟨scr, by rw [hq]; exact h1, h2⟩
theorem scX.lt {T : Nat → ClassId} {q N : Nat} {f : Nat → Int32} {H : Heap} (h : scX T q N f H) : q < H.size := by
  obtain ⟨scr, h1, h2⟩ := h
  exact (Array.getElem?_eq_some_iff.mp h1).1
theorem scX.ne {T : Nat → ClassId} {q N b : Nat} {f : Nat → Int32} {H H1 : Heap} (h : scX T q N f H) (oq : ∀ z : Nat, z ≠ b → H1[z]? = H[z]?) (hn : q ≠ b) : scX T q N f H1 := h.kept (oq q hn)
theorem scX.old {T : Nat → ClassId} {q N : Nat} {f : Nat → Int32} {H H1 : Heap} (h : scX T q N f H) (oq : ∀ z : Nat, z < H.size → H1[z]? = H[z]?) : scX T q N f H1 := h.kept (oq q h.lt)
theorem scX.X {D : va_G} {T : Nat → ClassId} {s : State} {q N : Nat} {f : Nat → Int32} {H : Heap} (hK : KB D T s) (h : scX T q N f H) : va_X q N f s H := by
  obtain ⟨scr, h1, h2, h3, h4, h5, h6⟩ := h
  obtain ⟨k, comp, g1, g2⟩ := hK.2.1.2.2.2.2
  exact ⟨scr, h1, ⟨h3, k, by rw [h2]; exact g1, comp, g2⟩, h4, h5, h6⟩
section FWR
variable {p : Program} {l : Launch} {e : Env} {R : Room} {s : State} {m : MethodId} {args : Array Value} {below : List Frame} {meth : Method} {c : Code} {H : Heap} {locs : List Loc} {cells slots : Nat} {Q : State → Prop}
variable {cc : ByteArray} {pc : Nat} {ls : Array Slot} {rest : List Value} {D : va_G} {T : Nat → ClassId} {A : Nat → Prop} {a : Nat} {H0 : Heap}
theorem q_zald (hx : p.tables.exec = Jvm.exec) (hb : c.code = cc) (hK : KB D T s) {n : Nat} {f : Nat → Int32} (ha : pAt D H a (eN (T 0) n f)) {i : Int32} (j : Nat) (hi : i = nI j) (hj : j < n) (hn : n < 2 ^ 31) (hdg : decode cc pc = .ok (.baload, 1))
    (kk : W p l e R s m args below meth c H locs cells slots Q (F0 m (pc + 1) ls (.int (f j) :: rest))) : W p l e R s m args below meth c H locs cells slots Q (F0 m pc ls (.int i :: .ref a :: rest)) := by
  subst hi
  refine va_zald hx hb hK.1 (pone ha) 0 0 rfl rfl (vp_in_nI hj hn) hdg ?_
  rw [nI_clamp (by omega)]
  exact kk
theorem q_iald (hx : p.tables.exec = Jvm.exec) (hb : c.code = cc) (hK : KB D T s) {n : Nat} {f : Nat → Int32} (ha : pAt D H a (eN (T 1) n f)) {i : Int32} (j : Nat) (hi : i = nI j) (hj : j < n) (hn : n < 2 ^ 31) (hdg : decode cc pc = .ok (.iaload, 1))
    (kk : W p l e R s m args below meth c H locs cells slots Q (F0 m (pc + 1) ls (.int (f j) :: rest))) : W p l e R s m args below meth c H locs cells slots Q (F0 m pc ls (.int i :: .ref a :: rest)) := by
  subst hi
  refine va_iald hx hb hK.1 (pone ha) 0 1 rfl rfl (vp_in_nI hj hn) hdg ?_
  rw [nI_clamp (by omega)]
  exact kk
theorem q_slen (hx : p.tables.exec = Jvm.exec) (hb : c.code = cc) (hK : KB D T s) {n : Nat} {f : Nat → Int32} (ha : scX T a n f H) (hdg : decode cc pc = .ok (.arraylength, 1))
    (kk : W p l e R s m args below meth c H locs cells slots Q (F0 m (pc + 1) ls (.int (nI n) :: rest))) : W p l e R s m args below meth c H locs cells slots Q (F0 m pc ls (.ref a :: rest)) := by
  obtain ⟨scr, h1, h2, h3, h4, h5⟩ := ha.X hK
  exact W.alen (n := nI n) hx hb h1 h2 (by rw [h4] <;> rfl) rfl rfl hdg kk
theorem q_sld (hx : p.tables.exec = Jvm.exec) (hb : c.code = cc) (hK : KB D T s) {n : Nat} {f : Nat → Int32} (ha : scX T a n f H) {i : Int32} (j : Nat) (hi : i = nI j) (hj : j < n) (hn : n < 2 ^ 31) (hdg : decode cc pc = .ok (.iaload, 1))
    (kk : W p l e R s m args below meth c H locs cells slots Q (F0 m (pc + 1) ls (.int (f j) :: rest))) : W p l e R s m args below meth c H locs cells slots Q (F0 m pc ls (.int i :: .ref a :: rest)) := by
  subst hi
  obtain ⟨scr, h1, h2, h3, h4, h5⟩ := ha.X hK
  exact W.iald (v := .int (f j)) hx hb h1 h2 h3 (by rw [h4]; exact vp_in_nI hj hn) (by rw [nI_clamp (by omega)]; exact h5 j hj) rfl rfl hdg kk
/-- an element of a row of references (ti: the row's type, by its place in TY) -/
theorem q_aald (hx : p.tables.exec = Jvm.exec) (hb : c.code = cc) (hK : KB D T s) (ti : Nat) {cA : ClassId} {ty : FieldType} (ht : (TY T)[ti]? = some (cA, ty)) (hty : ty.isReference = true) {n : Nat} {f : Nat → Option Nat} (ha : pAt D H a (eR cA n f)) {i : Int32} (j : Nat) (hi : i = nI j) (hj : j < n) (hn : n < 2 ^ 31) {b : Nat} (hf : f j = some b) (hdg : decode cc pc = .ok (.aaload, 1))
    (kk : W p l e R s m args below meth c H locs cells slots Q (F0 m (pc + 1) ls (.ref b :: rest))) : W p l e R s m args below meth c H locs cells slots Q (F0 m pc ls (.int i :: .ref a :: rest)) := by
  subst hi
  have hin : vp_in (nI j) n := vp_in_nI hj hn
  refine W.aald (v := .ref b) (ty := ty) hx hb (pone ha 0 _ rfl) ((hK.1.2 ti _ ht).1 n (fun j => va_rf (f j))) hty (fun q => by cases q) (by show ¬ (nI j < 0 ∨ (arrV _ _ _).slots.size ≤ _); rw [arrV_size]; exact hin) ?_ rfl rfl hdg kk
  show (arrV _ _ _).slots[_]? = _
  rw [nI_clamp (by omega), arrV_read _ _ hj, hf]
  rfl
theorem q_len (hx : p.tables.exec = Jvm.exec) (hb : c.code = cc) (hK : KB D T s) (ti : Nat) {cA : ClassId} {ty : FieldType} (ht : (TY T)[ti]? = some (cA, ty)) {n : Nat} {y : (Nat → Int32) ⊕ (Nat → Int64) ⊕ (Nat → UInt32) ⊕ (Nat → UInt64) ⊕ (Nat → Option Nat)} (ha : pAt D H a (.inl (cA, n, y))) (hdg : decode cc pc = .ok (.arraylength, 1))
    (kk : W p l e R s m args below meth c H locs cells slots Q (F0 m (pc + 1) ls (.int (nI n) :: rest))) : W p l e R s m args below meth c H locs cells slots Q (F0 m pc ls (.ref a :: rest)) := va_alen hx hb hK.1 (pone ha) 0 ti rfl ht rfl hdg kk
theorem q_zast (hx : p.tables.exec = Jvm.exec) (hb : c.code = cc) (hK : KB D T s) {n : Nat} {f : Nat → Int32} (ha : pAt D H a (eN (T 0) n f)) {i x : Int32} (j : Nat) (hi : i = nI j) (hj : j < n) (hn : n < 2 ^ 31) (hv : vp_nar .boolean x = x) (hS : va_S A H0 H locs) (hA : A a) (hdg : decode cc pc = .ok (.bastore, 1))
    (kk : ∀ (H1 : Heap) (locs1 : List Loc), pAt D H1 a (eN (T 0) n (upd f j x)) → H1.size = H.size → (∀ q : Nat, q ≠ a → H1[q]? = H[q]?) → va_S A H0 H1 locs1 → W p l e R s m args below meth c H1 locs1 cells slots Q (F0 m (pc + 1) ls rest)) : W p l e R s m args below meth c H locs cells slots Q (F0 m pc ls (.int x :: .int i :: .ref a :: rest)) := by
  subst hi
  have hin : vp_in (nI j) n := vp_in_nI hj hn
  refine W.zast hx hb (pone ha 0 _ rfl) ((hK.1.2 0 _ rfl).1 n (fun j => .int (f j))) (fun q => by cases q) (by show ¬ (nI j < 0 ∨ (arrV _ _ _).slots.size ≤ _); rw [arrV_size]; exact hin) rfl rfl hdg fun H1 e z oq => ?_
  refine kk H1 _ ?_ z oq (hS.put z oq hA)
  show H1[a]? = some (vp_cell _ _)
  rw [e, vp_cell_i, vp_cell_i, arrV_store]
  congr 2
  funext q
  rw [nI_clamp (by omega)]
  have hx2 : narrow .boolean (.int x) = .int x := by
    have h9 : narrow .boolean (.int x) = .int (vp_nar .boolean x) := rfl
    rw [h9, hv]
  rw [hx2]
  by_cases hq : q = j
  · simp [updV, upd, hq]
  · simp [updV, upd, hq]
theorem q_iast (hx : p.tables.exec = Jvm.exec) (hb : c.code = cc) (hK : KB D T s) {n : Nat} {f : Nat → Int32} (ha : pAt D H a (eN (T 1) n f)) {i x : Int32} (j : Nat) (hi : i = nI j) (hj : j < n) (hn : n < 2 ^ 31) (hS : va_S A H0 H locs) (hA : A a) (hdg : decode cc pc = .ok (.iastore, 1))
    (kk : ∀ (H1 : Heap) (locs1 : List Loc), pAt D H1 a (eN (T 1) n (upd f j x)) → H1.size = H.size → (∀ q : Nat, q ≠ a → H1[q]? = H[q]?) → va_S A H0 H1 locs1 → W p l e R s m args below meth c H1 locs1 cells slots Q (F0 m (pc + 1) ls rest)) : W p l e R s m args below meth c H locs cells slots Q (F0 m pc ls (.int x :: .int i :: .ref a :: rest)) := by
  subst hi
  have hin : vp_in (nI j) n := vp_in_nI hj hn
  refine W.iast hx hb (pone ha 0 _ rfl) ((hK.1.2 1 _ rfl).1 n (fun j => .int (f j))) (fun q => by cases q) (by show ¬ (nI j < 0 ∨ (arrV _ _ _).slots.size ≤ _); rw [arrV_size]; exact hin) rfl rfl hdg fun H1 e z oq => ?_
  refine kk H1 _ ?_ z oq (hS.put z oq hA)
  show H1[a]? = some (vp_cell _ _)
  rw [e, vp_cell_i, vp_cell_i, arrV_store]
  congr 2
  funext q
  rw [nI_clamp (by omega)]
  by_cases hq : q = j
  · simp [updV, upd, hq]
  · simp [updV, upd, hq]
theorem q_get (hx : p.tables.exec = Jvm.exec) (hb : c.code = cc) {own ref C : String} {Tb : u_T} {N ci index : Nat} {Ts : List Cond} (hts : ∀ w ∈ Ts, w.before args s = true) (hin : ∀ w ∈ u_ws C Tb N, w ∈ Ts) (hown : s.vm.findClass own = some m.cls) (hK : KB D T s) {fs : List Value} (ha : pAt D H a (eO ci fs)) (hc : vwCl[ci]? = some (C, Tb, N)) (k : Nat) (hk : k < N) (hlink : (Cond.fieldLink own index ref (Tb k).2.1 (Tb k).2.2.1).before args s = true) (hsame : ∀ x, s.fieldFound? (Tb k).1 (Tb k).2.1 (Tb k).2.2.1 = some x → s.fieldFound? ref (Tb k).2.1 (Tb k).2.2.1 = some x) {v : Value} (hv : fs[k]? = some v) (hdg : decode cc pc = .ok (.getfield index, 3))
    (kk : W p l e R s m args below meth c H locs cells slots Q (F0 m (pc + 3) ls (v :: rest))) : W p l e R s m args below meth c H locs cells slots Q (F0 m pc ls (.ref a :: rest)) := va_get hx hb hts hin hown hK.1 (pone ha) 0 rfl hc k hk hlink hsame hv hdg kk
end FWR
