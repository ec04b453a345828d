/-! NEW CELLS: where the next one comes to lie (H.size), what it holds; the constructors -/
section FWN
variable {p : Program} {l : Launch} {e : Env} {R : Room} {s : State} {m : MethodId} {args : Array Value} {below : List Frame} {meth : Method} {c : Code} {H : Heap} {locs : List Loc} {cells slots : Nat} {Q : State → Prop}
variable {cc : ByteArray} {pc : Nat} {ls : Array Slot} {rest : List Value} {D : va_G} {T : Nat → ClassId} {A : Nat → Prop} {a : Nat} {H0 : Heap}
theorem va_S.grow {A : Nat → Prop} {H0 H H1 : Heap} {locs : List Loc} (h : va_S A H0 H locs) (z : H1.size = H.size + 1) (oq : ∀ q : Nat, q < H.size → H1[q]? = H[q]?) : va_S A H0 H1 locs := ⟨by have := h.1; omega, fun q h1 h2 => (oq q (Nat.lt_of_lt_of_le h1 h.1)).trans (h.2.1 q h1 h2), h.2.2⟩
theorem pAt.old {D : va_G} {H H1 : Heap} {a : Nat} {e : va_E} (h : pAt D H a e) (oq : ∀ q : Nat, q < H.size → H1[q]? = H[q]?) : pAt D H1 a e := h.kept (oq a h.lt)
theorem q_newz (hx : p.tables.exec = Jvm.exec) (hb : c.code = cc) (harr : (Cond.arrayClass .boolean).before args s = true) (hK : KB D T s) {i : Int32} (j : Nat) (hi : i = nI j) (hj : j < 2 ^ 27) (hcells : cells + 1 ≤ R.cells) (hslots : slots + j ≤ R.slots) (hS : va_S A H0 H locs) (hdg : decode cc pc = .ok (.newarray .boolean, 2))
    (kk : ∀ H1 : Heap, pAt D H1 H.size (eN (T 0) j (fun _ => nI 0)) → H1.size = H.size + 1 → (∀ q : Nat, q < H.size → H1[q]? = H[q]?) → va_S A H0 H1 locs → W p l e R s m args below meth c H1 locs (cells + 1) (slots + j) Q (F0 m (pc + 2) ls (.ref H.size :: rest))) : W p l e R s m args below meth c H locs cells slots Q (F0 m pc ls (.int i :: rest)) := by
  subst hi
  refine va_newaK hx hb (atype := .boolean) harr rfl hdg rfl (fun q => vp_in_nI (Nat.lt_succ_self j) (by omega) (Or.inl q)) (nI_clamp (by omega)) (by show j * 1 ≤ _; omega) hcells hslots rfl fun H1 cA e1 z1 o1 _ hNm => ?_
  have hc : cA = T 0 := Option.some.inj (hNm.symm.trans (hK.1.2 0 _ rfl).2)
  subst hc
  refine kk H1 ?_ z1 o1 (hS.grow z1 o1)
  show H1[H.size]? = some (vp_cell _ _)
  rw [e1, vp_cell_i]
  rfl
theorem q_newi (hx : p.tables.exec = Jvm.exec) (hb : c.code = cc) (harr : (Cond.arrayClass .int).before args s = true) (hK : KB D T s) {i : Int32} (j : Nat) (hi : i = nI j) (hj : j < 2 ^ 27) (hcells : cells + 1 ≤ R.cells) (hslots : slots + j ≤ R.slots) (hS : va_S A H0 H locs) (hdg : decode cc pc = .ok (.newarray .int, 2))
    (kk : ∀ H1 : Heap, pAt D H1 H.size (eN (T 1) j (fun _ => nI 0)) → H1.size = H.size + 1 → (∀ q : Nat, q < H.size → H1[q]? = H[q]?) → va_S A H0 H1 locs → W p l e R s m args below meth c H1 locs (cells + 1) (slots + j) Q (F0 m (pc + 2) ls (.ref H.size :: rest))) : W p l e R s m args below meth c H locs cells slots Q (F0 m pc ls (.int i :: rest)) := by
  subst hi
  refine va_newaK hx hb (atype := .int) harr rfl hdg rfl (fun q => vp_in_nI (Nat.lt_succ_self j) (by omega) (Or.inl q)) (nI_clamp (by omega)) (by show j * 4 ≤ _; omega) hcells hslots rfl fun H1 cA e1 z1 o1 _ hNm => ?_
  have hc : cA = T 1 := Option.some.inj (hNm.symm.trans (hK.1.2 1 _ rfl).2)
  subst hc
  refine kk H1 ?_ z1 o1 (hS.grow z1 o1)
  show H1[H.size]? = some (vp_cell _ _)
  rw [e1, vp_cell_i]
  rfl
theorem q_newq (hx : p.tables.exec = Jvm.exec) (hb : c.code = cc) {own C : String} {index : Nat} (hown : s.vm.findClass own = some m.cls) (hclink : (Cond.classLink own index C).before args s = true) (hover : va_AO C s) (hK : KB D T s) (ti : Nat) {cT : ClassId} (ht : (TY T)[ti]? = some (cT, .object C)) {i : Int32} (j : Nat) (hi : i = nI j) (hj : j < 2 ^ 27) (hcells : cells + 1 ≤ R.cells) (hslots : slots + j ≤ R.slots) (hS : va_S A H0 H locs) (hdg : decode cc pc = .ok (.anewarray index, 3))
    (kk : ∀ H1 : Heap, pAt D H1 H.size (eR cT j (fun _ => none)) → H1.size = H.size + 1 → (∀ q : Nat, q < H.size → H1[q]? = H[q]?) → va_S A H0 H1 locs → W p l e R s m args below meth c H1 locs (cells + 1) (slots + j) Q (F0 m (pc + 3) ls (.ref H.size :: rest))) : W p l e R s m args below meth c H locs cells slots Q (F0 m pc ls (.int i :: rest)) := by
  subst hi
  have hN : (nI j).toNatClampNeg = j := nI_clamp (by omega)
  refine W.anew hx hb hown hclink (va_AO.use hover) rfl hdg rfl (fun q => vp_in_nI (Nat.lt_succ_self j) (by omega) (Or.inl q)) (by rw [hN]; omega) hcells (by rw [hN]; exact hslots) fun cA kA comp f1 f2 f3 f4 => ?_
  rw [hN]
  have hc : cA = cT := by
    obtain ⟨_, _, _, _, _, h4⟩ := (hK.1.2 ti _ ht).2
    exact Option.some.inj (f1.symm.trans h4)
  subst hc
  generalize hH1 : H.push ({ cls := cA, slots := Array.replicate j .null, vm := .none } : Cell) = H1
  have z1 : H1.size = H.size + 1 := by rw [← hH1, Array.size_push]
  have e1 : H1[H.size]? = some (arrV cA j (fun _ => .null)) := by rw [← hH1, Array.getElem?_push_size, ← arrV_new]
  have o1 : ∀ q : Nat, q < H.size → H1[q]? = H[q]? := fun q hq => by rw [← hH1, Array.getElem?_push, if_neg (Nat.ne_of_lt hq)]
  refine kk H1 ?_ z1 o1 (hS.grow z1 o1)
  show H1[H.size]? = some (vp_cell _ _)
  rw [e1, vp_cell_q]
  rfl
theorem q_new (hx : p.tables.exec = Jvm.exec) (hb : c.code = cc) {own C : String} {Tb : u_T} {N ci index : Nat} {Ts : List Cond} (hts : ∀ w ∈ Ts, w.before args s = true) (hin : ∀ w ∈ u_ws C Tb N, w ∈ Ts) (ty : Nat → FieldType) (hty : ∀ k, k < N → parseFieldDescriptor (Tb k).2.2.1 = some (ty k)) (hown : s.vm.findClass own = some m.cls) (hcl : (Cond.classLink own index C).before args s = true) (hinst : (Cond.instantiable C N).before args s = true) (hini : (Cond.initialized C).before args s = true)
    (hK : KB D T s) (hc : vwCl[ci]? = some (C, Tb, N)) {fs : List Value} (hfs : ∀ j, j < N → defaultValue (ty j) = vp_V fs j) (hcells : cells + 1 ≤ R.cells) (hslots : slots + N ≤ R.slots) (hS : va_S A H0 H locs) (hdg : decode cc pc = .ok (.new index, 3))
    (kk : ∀ H1 : Heap, pAt D H1 H.size (eO ci fs) → H1.size = H.size + 1 → (∀ q : Nat, q < H.size → H1[q]? = H[q]?) → va_S A H0 H1 locs → W p l e R s m args below meth c H1 locs (cells + 1) (slots + N) Q (F0 m (pc + 3) ls (.ref H.size :: rest))) : W p l e R s m args below meth c H locs cells slots Q (F0 m pc ls rest) := by
  have hKn := hK.1.1 ci _ hc
  refine W.newcK hx hb hown hcl hinst hini rfl hdg hcells hslots hKn.2.1 rfl fun H1 kC hkC e1 z1 o1 => ?_
  exact kk H1 ⟨_, hc, (u_born ty hts hin hKn hkC e1 hty).to hfs⟩ z1 o1 (hS.grow z1 o1)
/-- a final field, in its class's constructor -/
theorem q_putF (hexec : p.tables.exec = Jvm.exec) (hb : c.code = cc) {own ref C : String} {Tb : u_T} {N ci index : Nat} {Ts : List Cond} (hts : ∀ w ∈ Ts, w.before args s = true) (hin : ∀ w ∈ u_ws C Tb N, w ∈ Ts) (ty0 : Nat → FieldType) (hty : ∀ k, k < N → parseFieldDescriptor (Tb k).2.2.1 = some (ty0 k)) (hnm : ∀ a, a < N → ∀ b, b < N → a ≠ b → (Tb a).2.1 ≠ (Tb b).2.1) (hown : s.vm.findClass own = some m.cls) (hK : KB D T s) {fs : List Value} (ha : pAt D H a (eO ci fs)) (hc : vwCl[ci]? = some (C, Tb, N)) (k : Nat) (hk : k < N) (hlink : (Cond.fieldLink own index ref (Tb k).2.1 (Tb k).2.2.1).before args s = true) (hsame : ∀ x, s.fieldFound? (Tb k).1 (Tb k).2.1 (Tb k).2.2.1 = some x → s.fieldFound? ref (Tb k).2.1 (Tb k).2.2.1 = some x) (hfin : (Tb k).2.2.2 = true) (hin2 : meth.name = "<init>") (hdecl : (Tb k).1 = own) {v : Value} (hn : narrow (ty0 k) v = v) (hfit : fits (ty0 k) v = true) (hl : k < fs.length) (hS0 : va_S A H0 H locs) (hA : A a)
    (hdg : decode cc pc = .ok (.putfield index, 3)) (kk : ∀ (H1 : Heap) (locs1 : List Loc), pAt D H1 a (eO ci (fs.set k v)) → H1.size = H.size → (∀ q : Nat, q ≠ a → H1[q]? = H[q]?) → va_S A H0 H1 locs1 → W p l e R s m args below meth c H1 locs1 cells slots Q (F0 m (pc + 3) ls rest)) : W p l e R s m args below meth c H locs cells slots Q (F0 m pc ls (v :: .ref a :: rest)) := by
  have hd : parseFieldDescriptor (Tb k).2.2.1 = some (ty0 k) := hty k hk
  have hap := va_apart (own := own) hts hin ty0 hty hnm hK.1 hc
  obtain ⟨r, h1, cell, q1, q2, q3, q4⟩ := ha
  have hr : r = (C, Tb, N) := Option.some.inj (h1.symm.trans hc)
  subst hr
  obtain ⟨hS, hfc, kC, hkC, hkind⟩ := hK.1.1 ci _ hc
  obtain ⟨cf, kf, fi, f, hi, hsl⟩ := hS k hk
  have hlay := hts _ (hin _ (u_in_lay hk))
  unfold u_lay at hlay
  rw [if_pos hfin] at hlay
  have hst := (u_facts hfc hkC (u_lays hts hin hk) hi).1
  have hcf : m.cls = cf := by
    obtain ⟨_, _, c', _, _, _, -, -, hf', -, -, -, hown2, -⟩ := Cond.laysFinal_spec hlay
    have e1 : c' = cf := by have := hi.symm.trans hf'; simp at this; exact this.1.symm
    rw [hdecl] at hown2
    rw [← e1]; exact Option.some.inj (hown.symm.trans hown2)
  have h6 := u_fits hfc hkC hkind (Or.inr hlay) hi hd hn hfit
  refine W.putFinK hexec hb hown hlink (hsame _ hi) hst hcf hin2 (by rw [q2]; exact h6) q1 q3 (by rw [hsl]; exact k2_hasslot (q4 k hk)) rfl rfl hdg fun H' e1 e2 e3 => ?_
  rw [hsl] at e1 ⊢
  exact kk H' _ ⟨_, hc, t_OB.to (V := updV (vp_V fs) k v) ⟨_, e1, q2, q3, t_set q4 hap hk v⟩ (fun j _ => vp_updV_set hl v j)⟩ e2 e3 (hS0.put e2 e3 hA)
/-- q_put, with the heap's size -/
theorem q_putZ (hexec : p.tables.exec = Jvm.exec) (hb : c.code = cc) {own ref C : String} {Tb : u_T} {N ci index : Nat} {Ts : List Cond} (hts : ∀ w ∈ Ts, w.before args s = true) (hin : ∀ w ∈ u_ws C Tb N, w ∈ Ts) (ty0 : Nat → FieldType) (hty : ∀ k, k < N → parseFieldDescriptor (Tb k).2.2.1 = some (ty0 k)) (hnm : ∀ a, a < N → ∀ b, b < N → a ≠ b → (Tb a).2.1 ≠ (Tb b).2.1) (hown : s.vm.findClass own = some m.cls) (hK : KB D T s) {fs : List Value} (ha : pAt D H a (eO ci fs)) (hc : vwCl[ci]? = some (C, Tb, N)) (k : Nat) (hk : k < N) (hlink : (Cond.fieldLink own index ref (Tb k).2.1 (Tb k).2.2.1).before args s = true) (hsame : ∀ x, s.fieldFound? (Tb k).1 (Tb k).2.1 (Tb k).2.2.1 = some x → s.fieldFound? ref (Tb k).2.1 (Tb k).2.2.1 = some x) (hfin : (Tb k).2.2.2 = false) {v : Value} (hn : narrow (ty0 k) v = v) (hfit : fits (ty0 k) v = true) (hl : k < fs.length) (hS0 : va_S A H0 H locs) (hA : A a)
    (hdg : decode cc pc = .ok (.putfield index, 3)) (kk : ∀ (H1 : Heap) (locs1 : List Loc), pAt D H1 a (eO ci (fs.set k v)) → H1.size = H.size → (∀ q : Nat, q ≠ a → H1[q]? = H[q]?) → va_S A H0 H1 locs1 → W p l e R s m args below meth c H1 locs1 cells slots Q (F0 m (pc + 3) ls rest)) : W p l e R s m args below meth c H locs cells slots Q (F0 m pc ls (v :: .ref a :: rest)) := by
  have hd : parseFieldDescriptor (Tb k).2.2.1 = some (ty0 k) := hty k hk
  have hap := va_apart (own := own) hts hin ty0 hty hnm hK.1 hc
  obtain ⟨r, h1, cell, q1, q2, q3, q4⟩ := ha
  have hr : r = (C, Tb, N) := Option.some.inj (h1.symm.trans hc)
  subst hr
  obtain ⟨hS, hfc, kC, hkC, hkind⟩ := hK.1.1 ci _ hc
  obtain ⟨cf, kf, fi, f, hi, hsl⟩ := hS k hk
  have hlay := hts _ (hin _ (u_in_lay hk))
  unfold u_lay at hlay
  rw [if_neg (by rw [hfin]; decide)] at hlay
  have hst := (u_facts hfc hkC (u_lays hts hin hk) hi).1
  have h6 := u_store hfc hkC hkind hlay hi hd hn hfit
  refine W.putK hexec hb (f := f) ⟨hown, hlink, ⟨_, _, _, hsame _ hi⟩, hst⟩ (by rw [q2]; exact h6) q1 q3 (by rw [hsl]; exact k2_hasslot (q4 k hk)) rfl rfl hdg fun H' e1 e2 e3 => ?_
  rw [hsl] at e1 ⊢
  exact kk H' _ ⟨_, hc, t_OB.to (V := updV (vp_V fs) k v) ⟨_, e1, q2, q3, t_set q4 hap hk v⟩ (fun j _ => vp_updV_set hl v j)⟩ e2 e3 (hS0.put e2 e3 hA)
end FWN
/-- what a constructor may write: its object, and what is new -/
def NA (h sz : Nat) : Nat → Prop := fun q => q = h ∨ sz ≤ q
set_option maxHeartbeats 4000000 in
set_option maxRecDepth 100000 in
theorem conX0_init (l : Launch) (D : va_G) (T : Nat → ClassId) (h sz : Nat) : Met l yX0_init wsX0_init ({ frames := 1, cells := 1, slots := 201, locals := 12 }) (cP D T [.ref h] (fun H => H.size = sz ∧ pAt D H h (eO 0 [.null]))) (va_Qv (fun (_ : Unit) => True) (fun _ t => t.heap.size = sz + 1 ∧ GS D T h sz (fun _ => nI 0) t.heap) (NA h sz)) 1 201 (NA h sz) := by
  refine Met.ofW (cc := cX0_init) (maxL := 1) (ret := none) (by decide) rfl ?_
  intro p e s m args below meth c s₁ B hml hv9
  obtain ⟨rfl, hK, hsz, hh⟩ := hv9
  have hx := B.exec
  have hb := B.bytes
  have hr := B.returns
  have hts := atoms_spec (ws := wsX0_init) B.pre
  have hown : s.vm.findClass RX0 = some m.cls := findClass_of_methodNamed B.named
  have hlocks := B.notSynchronized
  have hin : meth.name = "<init>" := (name_of_methodNamed B.named B.method).1
  have hin0 : ∀ w ∈ wsX00, w ∈ wsX0_init := by decide +kernel
  have hlt : h < sz := hsz ▸ hh.lt
  generalize hAe : NA h sz = A
  have hA_h : A h := by subst hAe; exact Or.inl rfl
  have hA : ∀ q : Nat, sz ≤ q → A q := fun q h9 => by subst hAe; exact Or.inr h9
  have hS : va_S A s.heap s.heap [] := va_S.rf
  have hl := lv_entry ([.ref h]) (n := 1) (Nat.le_of_ble_eq_true rfl)
  rw [lg_entry_eq]
  generalize (lg_sl ([.ref h]) ++ List.replicate (1 - (lg_sl ([.ref h])).length) Slot.unset).toArray = ls at hl ⊢
  have hl : lv_has ls 1 [(0, .ref h)] := hl
  refine lv_aload_n hx hb dX0_init_0 rfl (lv_at hl 0 rfl) ?_
  refine W.objInit hx hb hown (hts (.methodLink RX0 3 objectInit) (by decide +kernel)) (hts (.instanceMethod objectInit) (by decide +kernel)) (hts (.code objectInit ⟨#[0xb1]⟩ 1 none) (by decide +kernel)) rfl (by rw [hml]; exact hl.1) rfl dX0_init_1 (Nat.le_of_ble_eq_true rfl) (Nat.le_of_ble_eq_true rfl) ?_
  refine W.eq (g2 := F0 m 4 ls []) rfl ?_
  refine lv_aload_n hx hb dX0_init_4 rfl (lv_at hl 0 rfl) ?_
  refine lv_sipush (v := nI 201) hx hb dX0_init_5 (by decide) ?_
  refine q_newz hx hb (hts (.arrayClass .boolean) (by decide +kernel)) hK 201 rfl (by decide) (Nat.le_of_ble_eq_true rfl) (Nat.le_of_ble_eq_true rfl) hS dX0_init_8 (fun H1 ha z1 o1 hS => ?_)
  have hh := hh.old o1
  rw [hsz] at ha z1 ⊢
  refine q_putF (v := .ref sz) hx hb hts hin0 tyX0 tyX0_ok nmX0 hown hK hh rfl 0 (by decide) (hts (.fieldLink RX0 9 "PuddingstoneLine$GrainSet" "grains" "[Z") (by decide +kernel)) (fun _ h9 => h9) rfl hin rfl rfl rfl (Nat.le_of_ble_eq_true rfl) hS hA_h dX0_init_10 (fun H2 locs2 hh z2 o2 hS => ?_)
  have ha := ha.ne o2 (by omega)
  exact W.vret hx hb hr (fun t ht _ => ⟨⟨(), rfl, trivial, by dsimp only; rw [ht]; exact ⟨by rw [z2, z1], hh, ha, by omega⟩⟩, by subst hAe; exact hS.F ht⟩) (by subst hAe; exact hS.2.2) dX0_init_13
set_option maxHeartbeats 4000000 in
set_option maxRecDepth 100000 in
theorem conX2_init (l : Launch) (D : va_G) (T : Nat → ClassId) (h sz : Nat) : Met l yX2_init wsX2_init ({ frames := 1, cells := 1, slots := 201, locals := 12 }) (cP D T [.ref h] (fun H => H.size = sz ∧ pAt D H h (eO 2 [.null]))) (va_Qv (fun (_ : Unit) => True) (fun _ t => t.heap.size = sz + 1 ∧ SF D T h sz (fun _ => nI 0) t.heap) (NA h sz)) 1 201 (NA h sz) := by
  refine Met.ofW (cc := cX2_init) (maxL := 1) (ret := none) (by decide) rfl ?_
  intro p e s m args below meth c s₁ B hml hv9
  obtain ⟨rfl, hK, hsz, hh⟩ := hv9
  have hx := B.exec
  have hb := B.bytes
  have hr := B.returns
  have hts := atoms_spec (ws := wsX2_init) B.pre
  have hown : s.vm.findClass RX2 = some m.cls := findClass_of_methodNamed B.named
  have hlocks := B.notSynchronized
  have hin : meth.name = "<init>" := (name_of_methodNamed B.named B.method).1
  have hin0 : ∀ w ∈ wsX20, w ∈ wsX2_init := by decide +kernel
  have hlt : h < sz := hsz ▸ hh.lt
  generalize hAe : NA h sz = A
  have hA_h : A h := by subst hAe; exact Or.inl rfl
  have hA : ∀ q : Nat, sz ≤ q → A q := fun q h9 => by subst hAe; exact Or.inr h9
  have hS : va_S A s.heap s.heap [] := va_S.rf
  have hl := lv_entry ([.ref h]) (n := 1) (Nat.le_of_ble_eq_true rfl)
  rw [lg_entry_eq]
  generalize (lg_sl ([.ref h]) ++ List.replicate (1 - (lg_sl ([.ref h])).length) Slot.unset).toArray = ls at hl ⊢
  have hl : lv_has ls 1 [(0, .ref h)] := hl
  refine lv_aload_n hx hb dX2_init_0 rfl (lv_at hl 0 rfl) ?_
  refine W.objInit hx hb hown (hts (.methodLink RX2 3 objectInit) (by decide +kernel)) (hts (.instanceMethod objectInit) (by decide +kernel)) (hts (.code objectInit ⟨#[0xb1]⟩ 1 none) (by decide +kernel)) rfl (by rw [hml]; exact hl.1) rfl dX2_init_1 (Nat.le_of_ble_eq_true rfl) (Nat.le_of_ble_eq_true rfl) ?_
  refine W.eq (g2 := F0 m 4 ls []) rfl ?_
  refine lv_aload_n hx hb dX2_init_4 rfl (lv_at hl 0 rfl) ?_
  refine lv_sipush (v := nI 201) hx hb dX2_init_5 (by decide) ?_
  refine q_newi hx hb (hts (.arrayClass .int) (by decide +kernel)) hK 201 rfl (by decide) (Nat.le_of_ble_eq_true rfl) (Nat.le_of_ble_eq_true rfl) hS dX2_init_8 (fun H1 ha z1 o1 hS => ?_)
  have hh := hh.old o1
  rw [hsz] at ha z1 ⊢
  refine q_putF (v := .ref sz) hx hb hts hin0 tyX2 tyX2_ok nmX2 hown hK hh rfl 0 (by decide) (hts (.fieldLink RX2 9 "PuddingstoneLine$StepFunction" "values" "[I") (by decide +kernel)) (fun _ h9 => h9) rfl hin rfl rfl rfl (Nat.le_of_ble_eq_true rfl) hS hA_h dX2_init_10 (fun H2 locs2 hh z2 o2 hS => ?_)
  have ha := ha.ne o2 (by omega)
  exact W.vret hx hb hr (fun t ht _ => ⟨⟨(), rfl, trivial, by dsimp only; rw [ht]; exact ⟨by rw [z2, z1], hh, ha, by omega⟩⟩, by subst hAe; exact hS.F ht⟩) (by subst hAe; exact hS.2.2) dX2_init_13
set_option maxHeartbeats 4000000 in
set_option maxRecDepth 100000 in
theorem conX1_init (l : Launch) (D : va_G) (T : Nat → ClassId) (h sz : Nat) : Met l yX1_init wsX1_init ({ frames := 1, cells := 2, slots := 402, locals := 12 }) (cP D T [.ref h] (fun H => H.size = sz ∧ pAt D H h (eO 1 [.null, .null, .int (nI 0)]))) (va_Qv (fun (_ : Unit) => True) (fun _ t => t.heap.size = sz + 2 ∧ SR D T h sz (sz + 1) (fun _ => nI 0, fun _ => nI 0, 0) t.heap) (NA h sz)) 2 402 (NA h sz) := by
  refine Met.ofW (cc := cX1_init) (maxL := 1) (ret := none) (by decide) rfl ?_
  intro p e s m args below meth c s₁ B hml hv9
  obtain ⟨rfl, hK, hsz, hh⟩ := hv9
  have hx := B.exec
  have hb := B.bytes
  have hr := B.returns
  have hts := atoms_spec (ws := wsX1_init) B.pre
  have hown : s.vm.findClass RX1 = some m.cls := findClass_of_methodNamed B.named
  have hlocks := B.notSynchronized
  have hin : meth.name = "<init>" := (name_of_methodNamed B.named B.method).1
  have hin0 : ∀ w ∈ wsX10, w ∈ wsX1_init := by decide +kernel
  have hlt : h < sz := hsz ▸ hh.lt
  generalize hAe : NA h sz = A
  have hA_h : A h := by subst hAe; exact Or.inl rfl
  have hA : ∀ q : Nat, sz ≤ q → A q := fun q h9 => by subst hAe; exact Or.inr h9
  have hS : va_S A s.heap s.heap [] := va_S.rf
  have hl := lv_entry ([.ref h]) (n := 1) (Nat.le_of_ble_eq_true rfl)
  rw [lg_entry_eq]
  generalize (lg_sl ([.ref h]) ++ List.replicate (1 - (lg_sl ([.ref h])).length) Slot.unset).toArray = ls at hl ⊢
  have hl : lv_has ls 1 [(0, .ref h)] := hl
  refine lv_aload_n hx hb dX1_init_0 rfl (lv_at hl 0 rfl) ?_
  refine W.objInit hx hb hown (hts (.methodLink RX1 3 objectInit) (by decide +kernel)) (hts (.instanceMethod objectInit) (by decide +kernel)) (hts (.code objectInit ⟨#[0xb1]⟩ 1 none) (by decide +kernel)) rfl (by rw [hml]; exact hl.1) rfl dX1_init_1 (Nat.le_of_ble_eq_true rfl) (Nat.le_of_ble_eq_true rfl) ?_
  refine W.eq (g2 := F0 m 4 ls []) rfl ?_
  refine lv_aload_n hx hb dX1_init_4 rfl (lv_at hl 0 rfl) ?_
  refine lv_sipush (v := nI 201) hx hb dX1_init_5 (by decide) ?_
  refine q_newi hx hb (hts (.arrayClass .int) (by decide +kernel)) hK 201 rfl (by decide) (Nat.le_of_ble_eq_true rfl) (Nat.le_of_ble_eq_true rfl) hS dX1_init_8 (fun H1 ha z1 o1 hS => ?_)
  have hh := hh.old o1
  rw [hsz] at ha z1 ⊢
  refine q_putF (v := .ref sz) hx hb hts hin0 tyX1 tyX1_ok nmX1 hown hK hh rfl 0 (by decide) (hts (.fieldLink RX1 9 "PuddingstoneLine$SpanRow" "firsts" "[I") (by decide +kernel)) (fun _ h9 => h9) rfl hin rfl rfl rfl (Nat.le_of_ble_eq_true rfl) hS hA_h dX1_init_10 (fun H2 locs2 hh z2 o2 hS => ?_)
  have ha := ha.ne o2 (by omega)
  have hh : pAt D H2 h (eO 1 [.ref sz, .null, .int (nI 0)]) := hh
  refine lv_aload_n hx hb dX1_init_13 rfl (lv_at hl 0 rfl) ?_
  refine lv_sipush (v := nI 201) hx hb dX1_init_14 (by decide) ?_
  refine q_newi hx hb (hts (.arrayClass .int) (by decide +kernel)) hK 201 rfl (by decide) (Nat.le_of_ble_eq_true rfl) (Nat.le_of_ble_eq_true rfl) hS dX1_init_17 (fun H3 hla z3 o3 hS => ?_)
  have hh := hh.old o3
  have ha := ha.old o3
  rw [z2, z1] at hla z3 ⊢
  refine q_putF (v := .ref (sz + 1)) hx hb hts hin0 tyX1 tyX1_ok nmX1 hown hK hh rfl 1 (by decide) (hts (.fieldLink RX1 15 "PuddingstoneLine$SpanRow" "lasts" "[I") (by decide +kernel)) (fun _ h9 => h9) rfl hin rfl rfl rfl (Nat.le_of_ble_eq_true rfl) hS hA_h dX1_init_19 (fun H4 locs4 hh z4 o4 hS => ?_)
  have ha := ha.ne o4 (by omega)
  have hla := hla.ne o4 (by omega)
  have hh : pAt D H4 h (eO 1 [.ref sz, .ref (sz + 1), .int (nI 0)]) := hh
  refine lv_aload_n hx hb dX1_init_22 rfl (lv_at hl 0 rfl) ?_
  refine lv_iconst (v := nI 0) hx hb dX1_init_23 (by decide) ?_
  refine q_putZ (v := .int (nI 0)) hx hb hts hin0 tyX1 tyX1_ok nmX1 hown hK hh rfl 2 (by decide) (hts (.fieldLink RX1 18 "PuddingstoneLine$SpanRow" "size" "I") (by decide +kernel)) (fun _ h9 => h9) rfl rfl rfl (Nat.le_of_ble_eq_true rfl) hS hA_h dX1_init_24 (fun H5 locs5 hh z5 o5 hS => ?_)
  have ha := ha.ne o5 (by omega)
  have hla := hla.ne o5 (by omega)
  exact W.vret hx hb hr (fun t ht _ => ⟨⟨(), rfl, trivial, by dsimp only; rw [ht]; exact ⟨by rw [z5, z4, z3], hh, ha, hla⟩⟩, by subst hAe; exact hS.F ht⟩) (by subst hAe; exact hS.2.2) dX1_init_27
