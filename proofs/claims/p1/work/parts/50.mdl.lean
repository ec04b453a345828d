/-! THE MODEL'S CONSTRUCTOR: two rows of rows -/
section FWM
variable {p : Program} {l : Launch} {e : Env} {R : Room} {s : State} {m : MethodId} {args : Array Value} {below : List Frame} {meth : Method} {c : Code} {H : Heap} {locs : List Loc} {cells slots : Nat} {Q : State → Prop}
variable {cc : ByteArray} {pc : Nat} {ls : Array Slot} {rest : List Value} {D : va_G} {T : Nat → ClassId} {A : Nat → Prop} {a : Nat} {H0 : Heap}
/-- a row of N rows of K: the outer one comes to lie at H.size, the others behind it -/
theorem q_mna (hx : p.tables.exec = Jvm.exec) (hb : c.code = cc) {own : String} {index : Nat} {ty : FieldType} {cy cT : ClassId} (hown : s.vm.findClass own = some m.cls) (hclink : (Cond.classLink own index ("[" ++ (FieldType.array ty).toString)).before args s = true) (hover : va_AOA ty s) (harr : (Cond.arrayClass ty).before args s = true) (hcy : s.vm.findClass (FieldType.array ty).toString = some cy) (hcT : s.vm.findClass ("[" ++ (FieldType.array ty).toString) = some cT) {i j : Int32} (N K : Nat) (hi : i = nI N) (hj : j = nI K) (hN : N < 2 ^ 27) (hK : K < 2 ^ 26) (hby : componentBytes ty ≤ 8) (hdf : fits ty (defaultValue ty) = true) (hdd : (defaultValue ty).isDefault = true) {z : vp_A} (hz : ∀ c : ClassId, Jvm.Free.Multi.innerC c K (defaultValue ty) = vp_cell c z)
    (hcells : cells + (1 + N) ≤ R.cells) (hslots : slots + (N + N * K) ≤ R.slots) (hS : va_S A H0 H locs) (hdg : decode cc pc = .ok (.multianewarray index 2, 4))
    (kk : ∀ H1 : Heap, pAt D H1 H.size (eR cT N (fun i => if i < N then some (H.size + 1 + i) else none)) → (∀ i : Nat, i < N → pAt D H1 (H.size + 1 + i) (.inl (cy, z))) → H1.size = H.size + 1 + N → (∀ q : Nat, q < H.size → H1[q]? = H[q]?) → va_S A H0 H1 locs → W p l e R s m args below meth c H1 locs (cells + 1 + N) (slots + N + N * K) Q (F0 m (pc + 4) ls (.ref H.size :: rest))) : W p l e R s m args below meth c H locs cells slots Q (F0 m pc ls (.int j :: .int i :: rest)) := by
  subst hi
  subst hj
  have eN : (nI N).toNatClampNeg = N := nI_clamp (by omega)
  have eK : (nI K).toNatClampNeg = K := nI_clamp (by omega)
  intro S hT Xs
  have hb2 : K * componentBytes ty ≤ 536870912 := Nat.le_trans (Nat.mul_le_mul_left K hby) (by omega)
  obtain ⟨vm₁, cA, comp, -, fA, fC, hO, -, X', step⟩ := Xs.multianewarray2F hx hown hclink (va_AOA.use hover) harr (g := F0 m pc ls (.int (nI K) :: .int (nI N) :: rest)) rfl (by rw [hb]; exact hdg) rfl (fun q => vp_in_nI (Nat.lt_succ_self N) (by omega) (Or.inl q)) (fun q => vp_in_nI (Nat.lt_succ_self K) (by omega) (Or.inl q)) (by rw [eN]; omega) (by rw [eK]; exact hb2) (by rw [eK]; omega) hdf hdd (by rw [eN]; exact hcells) (by rw [eN, eK]; exact hslots)
  have ec : some cy = some comp := hcy.symm.trans fC
  cases ec
  have eA : some cT = some cA := hcT.symm.trans fA
  cases eA
  rw [eN, eK] at X' step
  generalize hF : Jvm.Free.Multi.fill (S.setVm vm₁) cT cy N K (defaultValue ty) N = F at X' step
  have hTh : (S.setVm vm₁).heap = H := hT
  obtain ⟨f1, f2, -, -⟩ := Jvm.Free.Multi.fill_facts (S.setVm vm₁) cT cy N K (defaultValue ty) N
  rw [hF, hTh] at f1 f2
  have hold : ∀ x : Nat, x < H.size → F.heap[x]? = H[x]? := fun x hx => by
    have := Jvm.Free.Multi.fill_old (S.setVm vm₁) cT cy N K (defaultValue ty) (a := x) (by rw [hTh]; exact hx) N
    rw [hF, hTh] at this
    exact this
  have hrow : ∀ j : Nat, j < N → F.heap[H.size + 1 + j]? = some (vp_cell cy z) := fun j hj => by
    have := Jvm.Free.Multi.fill_inner (S.setVm vm₁) cT cy N K (defaultValue ty) N j hj
    rw [hF, hTh, hz] at this
    exact this
  have hout : Jvm.Free.Multi.outerC cT N H.size N = vp_cell cT (N, .inr (.inr (.inr (.inr (fun i => if i < N then some (H.size + 1 + i) else none))))) := by
    rw [vp_cell_q]
    exact vr_outer cT N H.size N
  rw [hout] at f2
  obtain ⟨t, a1, b1⟩ := kk F.heap f2 hrow f1 hold ⟨by rw [f1]; have := hS.1; omega, fun x h1 h2 => (hold x (Nat.lt_of_lt_of_le h1 hS.1)).trans (hS.2.1 x h1 h2), hS.2.2⟩ F rfl X'
  refine ⟨t, step t ?_, b1⟩
  have e : S.heap.size = H.size := by rw [hT]
  rw [e]
  exact a1
end FWM
theorem inZ (c : ClassId) (K : Nat) : Jvm.Free.Multi.innerC c K (defaultValue .boolean) = vp_cell c (K, .inl (fun _ => nI 0)) := by
  rw [vp_cell_i]
  exact arrV_new c K (.int 0)
theorem inI (c : ClassId) (K : Nat) : Jvm.Free.Multi.innerC c K (defaultValue .int) = vp_cell c (K, .inl (fun _ => nI 0)) := by
  rw [vp_cell_i]
  exact arrV_new c K (.int 0)
/-- the world of one PuddingstoneLineModel: the object, its two rows, the rows in them -/
def MDW (D : va_G) (T : Nat → ClassId) (m0 ms mv : Nat) (r q : Nat → Nat) (th : Int32) (F V : Nat → Nat → Int32) (H : Heap) : Prop :=
  pAt D H m0 (eO 4 [.int th, .ref ms, .ref mv]) ∧ pAt D H ms (eR (T 4) 8 (fun i => if i < 8 then some (r i) else none)) ∧ pAt D H mv (eR (T 5) 5 (fun i => if i < 5 then some (q i) else none)) ∧ (∀ i : Nat, i < 8 → pAt D H (r i) (eN (T 0) 201 (F i))) ∧ ∀ i : Nat, i < 5 → pAt D H (q i) (eN (T 1) 201 (V i))
set_option maxHeartbeats 4000000 in
set_option maxRecDepth 100000 in
theorem conX4_init (l : Launch) (D : va_G) (T : Nat → ClassId) (h sz : Nat) : Met l yX4_init wsX4_init ({ frames := 1, cells := 15, slots := 2626, locals := 12 }) (cP D T [.ref h] (fun H => H.size = sz ∧ pAt D H h (eO 4 [.int (nI 0), .null, .null]))) (va_Qv (fun (_ : Unit) => True) (fun _ t => t.heap.size = sz + 15 ∧ MDW D T h sz (sz + 9) (fun i => sz + 1 + i) (fun i => sz + 10 + i) (nI 0) (fun _ _ => nI 0) (fun _ _ => nI 0) t.heap) (NA h sz)) 15 2626 (NA h sz) := by
  refine Met.ofW (cc := cX4_init) (maxL := 1) (ret := none) (by decide) rfl ?_
  intro p e s m args below meth c s₁ B hml hv9
  obtain ⟨rfl, hK, hsz, hh⟩ := hv9
  have hx := B.exec
  have hb := B.bytes
  have hr := B.returns
  have hts := atoms_spec (ws := wsX4_init) B.pre
  have hown : s.vm.findClass RX4 = some m.cls := findClass_of_methodNamed B.named
  have hlocks := B.notSynchronized
  have hin : meth.name = "<init>" := (name_of_methodNamed B.named B.method).1
  have hin4 : ∀ w ∈ wsX40, w ∈ wsX4_init := by decide +kernel
  have hlt : h < sz := hsz ▸ hh.lt
  generalize hAe : NA h sz = A
  have hA_h : A h := by subst hAe; exact Or.inl rfl
  have hS : va_S A s.heap s.heap [] := va_S.rf
  have hl := lv_entry ([.ref h]) (n := 1) (Nat.le_of_ble_eq_true rfl)
  rw [lg_entry_eq]
  generalize (lg_sl ([.ref h]) ++ List.replicate (1 - (lg_sl ([.ref h])).length) Slot.unset).toArray = ls at hl ⊢
  have hl : lv_has ls 1 [(0, .ref h)] := hl
  refine lv_aload_n hx hb dX4_init_0 rfl (lv_at hl 0 rfl) ?_
  refine W.objInit hx hb hown (hts (.methodLink RX4 1 objectInit) (by decide +kernel)) (hts (.instanceMethod objectInit) (by decide +kernel)) (hts (.code objectInit ⟨#[0xb1]⟩ 1 none) (by decide +kernel)) rfl (by rw [hml]; exact hl.1) rfl dX4_init_1 (Nat.le_of_ble_eq_true rfl) (Nat.le_of_ble_eq_true rfl) ?_
  refine W.eq (g2 := F0 m 4 ls []) rfl ?_
  refine lv_aload_n hx hb dX4_init_4 rfl (lv_at hl 0 rfl) ?_
  refine lv_bipush (v := nI 8) hx hb dX4_init_5 (by decide) ?_
  refine lv_sipush (v := nI 201) hx hb dX4_init_7 (by decide) ?_
  refine q_mna (D := D) (ty := .boolean) (cy := T 0) (cT := T 4) hx hb hown (hts (.classLink RX4 9 "[[Z") (by decide +kernel)) hK.2.1.2.2.1 (hts (.arrayClass .boolean) (by decide +kernel)) (hK.1.2 0 _ rfl).2 (hK.1.2 4 _ rfl).2 8 201 rfl rfl (by decide) (by decide) (by decide) rfl rfl (fun c => inZ c 201) (Nat.le_of_ble_eq_true rfl) (Nat.le_of_ble_eq_true rfl) hS dX4_init_10 (fun H1 k1 r1 z1 o1 hS => ?_)
  have hh := hh.old o1
  rw [hsz] at k1 r1 z1 ⊢
  refine q_putF (v := .ref sz) hx hb hts hin4 tyX4 tyX4_ok nmX4 hown hK hh rfl 1 (by decide) (hts (.fieldLink RX4 11 "PuddingstoneLineModel" "sets" "[[Z") (by decide +kernel)) (fun _ h9 => h9) rfl hin rfl rfl rfl (Nat.le_of_ble_eq_true rfl) hS hA_h dX4_init_14 (fun H2 locs2 hh z2 o2 hS => ?_)
  have k1 := k1.ne o2 (by omega)
  have r1 := fun i hi => (r1 i hi).ne o2 (by omega)
  have hh : pAt D H2 h (eO 4 [.int (nI 0), .ref sz, .null]) := hh
  have hz : H2.size = sz + 9 := by omega
  refine lv_aload_n hx hb dX4_init_17 rfl (lv_at hl 0 rfl) ?_
  refine lv_iconst (v := nI 5) hx hb dX4_init_18 (by decide) ?_
  refine lv_sipush (v := nI 201) hx hb dX4_init_19 (by decide) ?_
  refine q_mna (D := D) (ty := .int) (cy := T 1) (cT := T 5) hx hb hown (hts (.classLink RX4 14 "[[I") (by decide +kernel)) hK.2.1.2.2.2 (hts (.arrayClass .int) (by decide +kernel)) (hK.1.2 1 _ rfl).2 (hK.1.2 5 _ rfl).2 5 201 rfl rfl (by decide) (by decide) (by decide) rfl rfl (fun c => inI c 201) (Nat.le_of_ble_eq_true rfl) (Nat.le_of_ble_eq_true rfl) hS dX4_init_22 (fun H3 k3 r3 z3 o3 hS => ?_)
  have hh := hh.old o3
  have k1 := k1.old o3
  have r1 := fun i hi => (r1 i hi).old o3
  rw [hz] at k3 r3 z3 ⊢
  refine q_putF (v := .ref (sz + 9)) hx hb hts hin4 tyX4 tyX4_ok nmX4 hown hK hh rfl 2 (by decide) (hts (.fieldLink RX4 16 "PuddingstoneLineModel" "values" "[[I") (by decide +kernel)) (fun _ h9 => h9) rfl hin rfl rfl rfl (Nat.le_of_ble_eq_true rfl) hS hA_h dX4_init_26 (fun H4 locs4 hh z4 o4 hS => ?_)
  have k1 := k1.ne o4 (by omega)
  have r1 := fun i hi => (r1 i hi).ne o4 (by omega)
  have k3 := k3.ne o4 (by omega)
  have r3 := fun i hi => (r3 i hi).ne o4 (by omega)
  exact W.vret hx hb hr (fun t ht _ => ⟨⟨(), rfl, trivial, by dsimp only; rw [ht]; exact ⟨by omega, hh, k1, k3, r1, r3⟩⟩, hS.F ht⟩) hS.2.2 dX4_init_29
