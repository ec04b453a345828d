/-! STONES: ITS CONSTRUCTOR -/
theorem ac_over {ty : FieldType} {args : Array Value} {U : State} (h : va_AOA ty U) : (Cond.arrayClass (.array ty)).before args U = true := by
  obtain ⟨comp, c, k, h1, h2, h3, h4⟩ := q_over h
  unfold Cond.before
  simp [Cond.holds, Cond.value, h4, h2, h3]
section FWM
variable {p : Program} {l : Launch} {e : Env} {R : Room} {s : State} {m : MethodId} {args : Array Value} {below : List Frame} {meth : Method} {c : Code} {H : Heap} {locs : List Loc} {cells slots : Nat} {Q : State → Prop}
variable {cc : ByteArray} {pc : Nat} {ls : Array Slot} {rest : List Value} {D : va_G} {T : Nat → ClassId} {A : Nat → Prop} {a : Nat} {H0 : Heap}
/-- a row of rows, made at once: the outer row behind all there is, its rows behind it -/
theorem q_mna (hx : p.tables.exec = Jvm.exec) (hb : c.code = cc) {own : String} {index : Nat} {ty : FieldType} (hown : s.vm.findClass own = some m.cls) (hclink : (Cond.classLink own index ("[" ++ (FieldType.array ty).toString)).before args s = true) (hover : va_AOA ty s) (harr : (Cond.arrayClass ty).before args s = true) {cA cy : ClassId} (hA1 : s.vm.findClass ("[" ++ (FieldType.array ty).toString) = some cA) (hcy : s.vm.findClass (FieldType.array ty).toString = some cy) {N K : Nat} (hN : N < 2 ^ 20) (hK : K < 2 ^ 20) {z : vp_A} (hz : Jvm.Free.Multi.innerC cy K (defaultValue ty) = vp_cell cy z) (hbt : K * componentBytes ty ≤ 536870912) (hdf : fits ty (defaultValue ty) = true) (hdd : (defaultValue ty).isDefault = true) (hcells : cells + (1 + N) ≤ R.cells) (hslots : slots + (N + N * K) ≤ R.slots) (hS : va_S A H0 H locs) (hdg : decode cc pc = .ok (.multianewarray index 2, 4))
    (kk : ∀ H1 : Heap, pAt D H1 H.size (eR cA N (fun i => if i < N then some (H.size + 1 + i) else none)) → (∀ j : Nat, j < N → pAt D H1 (H.size + 1 + j) (.inl (cy, z))) → H1.size = H.size + 1 + N → (∀ q : Nat, q < H.size → H1[q]? = H[q]?) → va_S A H0 H1 locs → W p l e R s m args below meth c H1 locs (cells + 1 + N) (slots + N + N * K) Q (F0 m (pc + 4) ls (.ref H.size :: rest))) : W p l e R s m args below meth c H locs cells slots Q (F0 m pc ls (.int (nI K) :: .int (nI N) :: rest)) := by
  intro S8 hT Xs
  have hNe : (nI N).toNatClampNeg = N := nI_clamp (by omega)
  have hKe : (nI K).toNatClampNeg = K := nI_clamp (by omega)
  obtain ⟨vm₁, c1, comp, -, fA, fC, -, -, X', step⟩ := Xs.multianewarray2F hx hown hclink (va_AOA.use hover) harr (g := F0 m pc ls (.int (nI K) :: .int (nI N) :: rest)) rfl (by rw [hb]; exact hdg) rfl (nI_pos (by omega)) (nI_pos (by omega)) (by rw [hNe]; omega) (by rw [hKe]; exact hbt) (by rw [hKe]; omega) hdf hdd (by rw [hNe]; exact hcells) (by rw [hNe, hKe]; exact hslots)
  have e1 : c1 = cA := Option.some.inj (fA.symm.trans hA1)
  have e2 : comp = cy := Option.some.inj (fC.symm.trans hcy)
  rw [hNe, hKe, e1, e2] at X' step
  generalize hF : Jvm.Free.Multi.fill (S8.setVm vm₁) cA cy N K (defaultValue ty) N = F9 at X' step
  have hTh : (S8.setVm vm₁).heap = H := hT
  obtain ⟨f1, f2, -, -⟩ := Jvm.Free.Multi.fill_facts (S8.setVm vm₁) cA cy N K (defaultValue ty) N
  rw [hF, hTh] at f1 f2
  have hold : ∀ x : Nat, x < H.size → F9.heap[x]? = H[x]? := fun x hx9 => by
    have := Jvm.Free.Multi.fill_old (S8.setVm vm₁) cA cy N K (defaultValue ty) (a := x) (by rw [hTh]; exact hx9) N
    rw [hF, hTh] at this
    exact this
  have hrow : ∀ j : Nat, j < N → F9.heap[H.size + 1 + j]? = some (vp_cell cy z) := fun j hj => by
    have := Jvm.Free.Multi.fill_inner (S8.setVm vm₁) cA cy N K (defaultValue ty) N j hj
    rw [hF, hTh, hz] at this
    exact this
  have hout : Jvm.Free.Multi.outerC cA N H.size N = vp_cell cA (N, .inr (.inr (.inr (.inr (fun i => if i < N then some (H.size + 1 + i) else none))))) := by
    rw [vp_cell_q]
    exact vr_outer cA N H.size N
  rw [hout] at f2
  obtain ⟨t, a1, b1⟩ := kk F9.heap f2 hrow f1 hold ⟨by rw [f1]; have := hS.1; omega, fun x h1 h2 => (hold x (Nat.lt_of_lt_of_le h1 hS.1)).trans (hS.2.1 x h1 h2), hS.2.2⟩ F9 rfl X'
  refine ⟨t, step t ?_, b1⟩
  have e9 : S8.heap.size = H.size := by rw [hT]
  rw [e9]
  exact a1
end FWM
theorem rep_none : Rep (pB (fun _ => nI 0)) 201 (0, fun _ => 0, fun _ => 0) := by
  refine ⟨fun k hk => absurd hk (Nat.not_lt_zero k), fun k hk => absurd hk (Nat.not_lt_zero k), fun g hg => ⟨fun h => ?_, fun ⟨k, hk, _⟩ => absurd hk (Nat.not_lt_zero k)⟩⟩
  have h0 : pB (fun _ => nI 0) g = false := pB_n.mpr (by
    unfold holdZ
    repeat (first | rfl | split))
  rw [h0] at h
  cases h
theorem goodIn_l {big ws : List Cond} (x : List Cond) (h : GoodIn big ws) : GoodIn (big ++ x) ws := fun w hw => ⟨List.mem_append_left _ (h w hw).1, (h w hw).2⟩
/-- its words, and that of the row of rows of rows -/
def wsX4_initM : List Cond := wsX4_init ++ [.classLink RX4 16 "[[[I"]
theorem adO_le : ∀ i : Fin 37, adO i.1 ≤ 35 := by decide +kernel
theorem adI_rng {h sz i : Nat} (hlt : h < sz) (hi : i < 37) : h ≤ adI h sz i ∧ adI h sz i < sz + 36 := by
  have h1 := adO_le ⟨i, hi⟩
  have h2 : adO i ≤ 35 := h1
  unfold adI
  split <;> omega
set_option maxHeartbeats 40000000 in
set_option maxRecDepth 100000 in
theorem conX4_init (l : Launch) (D : va_G) (T : Nat → ClassId) (o sc N dr : Nat) (sf : Nat → Int32) : Met l yX4_init wsX4_initM ({ frames := 3, cells := 52, slots := 4673, locals := 80 }) (cP D T [.ref o, .ref sc, .int (nI dr)] (fun H => H.size = o + 1 ∧ pAt D H o (eO 4 [.null, .null, .int (nI 0), .null, .null]) ∧ sc < o ∧ scX T sc N sf H)) (va_Qv (fun (_ : Unit) => True) (fun _ t => ST D T (adI (o + 1) (o + 2)) o sc N sf dr t.heap) (fun z : Nat => o ≤ z)) 52 4673 (fun z : Nat => o ≤ z) := by
  refine Met.ofW (cc := cX4_init) (maxL := 3) (ret := none) (by decide) rfl ?_
  intro p e s m args below meth c s₁ B hml hv9
  obtain ⟨rfl, hK, hz, ho, hlt, hsc⟩ := hv9
  have hx := B.exec
  have hb := B.bytes
  have hr := B.returns
  have hts := atoms_spec (ws := wsX4_initM) B.pre
  have hown : s.vm.findClass RX4 = some m.cls := findClass_of_methodNamed B.named
  have hlocks := B.notSynchronized
  have hin : meth.name = "<init>" := (name_of_methodNamed B.named B.method).1
  have hin3 : ∀ w ∈ wsX30, w ∈ wsX4_initM := by decide +kernel
  have hin4 : ∀ w ∈ wsX40, w ∈ wsX4_initM := by decide +kernel
  generalize hAe : (fun z : Nat => o ≤ z) = A
  have hA : ∀ z : Nat, o ≤ z → A z := fun z h9 => by subst hAe; exact h9
  have hA_o : A o := hA o (Nat.le_refl o)
  have hS : va_S A s.heap s.heap [] := va_S.rf
  have hl := lv_entry ([.ref o, .ref sc, .int (nI dr)]) (n := 3) (Nat.le_of_ble_eq_true rfl)
  rw [lg_entry_eq]
  generalize (lg_sl ([.ref o, .ref sc, .int (nI dr)]) ++ List.replicate (3 - (lg_sl ([.ref o, .ref sc, .int (nI dr)])).length) Slot.unset).toArray = ls at hl ⊢
  have hl : lv_has ls 3 [(0, .ref o), (1, .ref sc), (2, .int (nI dr))] := hl
  refine lv_aload_n hx hb dX4_init_0 rfl (lv_at hl 0 rfl) ?_
  refine W.objInit hx hb hown (hts (.methodLink RX4 1 objectInit) (by decide +kernel)) (hts (.instanceMethod objectInit) (by decide +kernel)) (hts (.code objectInit ⟨#[0xb1]⟩ 1 none) (by decide +kernel)) rfl (by rw [hml]; exact hl.1) rfl dX4_init_1 (Nat.le_of_ble_eq_true rfl) (Nat.le_of_ble_eq_true rfl) ?_
  refine W.eq (g2 := F0 m 4 ls []) rfl ?_
  refine lv_aload_n hx hb dX4_init_4 rfl (lv_at hl 0 rfl) ?_
  refine q_new (ci := 3) (fs := [.null, .null, .null, .null, .null, .null]) hx hb hts hin3 tyX3 tyX3_ok hown (hts (.classLink RX4 7 RX3) (by decide +kernel)) (hts (.instantiable RX3 6) (by decide +kernel)) (hts (.initialized RX3) (by decide +kernel)) hK rfl (fun j hj => by rcases j with _ | _ | _ | _ | _ | _ | j; all_goals first | rfl | omega) (Nat.le_of_ble_eq_true rfl) (Nat.le_of_ble_eq_true rfl) hS dX4_init_5 (fun H1 hh z1 o1 hS => ?_)
  replace ho := ho.old o1
  replace hsc := hsc.old o1
  rw [hz] at hh z1 ⊢
  refine lv_dup hx hb dX4_init_8 rfl ?_
  refine va_callv (va_runI (As := []) (rest := [.ref (o + 1), .ref o]) ⟨hx, hb, hml, hown, hts⟩ (conX3_init l D T (o + 1) (o + 2)) (cwI 0 hts (goodIn_l _ gX4_init_X3_init) rfl rfl rfl (hts (.initialized RX3) (by decide +kernel)) (hts (.methodLink RX4 9 yX3_init) (by decide +kernel)) (hts (.instanceMethod yX3_init) (by decide +kernel)) rfl (by decide +kernel) ⟨Nat.le_of_ble_eq_true rfl, Nat.le_of_ble_eq_true rfl⟩) (preS hK ⟨z1, hh⟩) rfl rfl hl.1 rfl (lv_room (Nat.le_of_ble_eq_true rfl)) dX4_init_9 ⟨Nat.le_of_ble_eq_true rfl, Nat.le_of_ble_eq_true rfl⟩) hS (fun q _ h9 => hA q (by rcases h9 with h9 | h9 <;> omega)) (fun q h9 => hA q (by rcases h9 with h9 | h9 <;> omega)) (fun u t H2 locs2 ht hvm hw9 hB hz2 hk2 hS => ?_)
  try dsimp only at hB
  rw [ht] at hB
  obtain ⟨y2, hw⟩ := hB
  have hne : ∀ q : Nat, q < o + 1 → ¬ NA (o + 1) (o + 2) q := fun q hq h9 => by rcases h9 with h9 | h9 <;> omega
  replace ho := ho.kept (hk2 o (by omega) (hne o (by omega)))
  replace hsc := hsc.kept (hk2 sc (by omega) (hne sc (by omega)))
  have had : ∀ i : Nat, i < 37 → o + 1 ≤ adI (o + 1) (o + 2) i ∧ adI (o + 1) (o + 2) i < o + 38 := fun i hi => by
    have := adI_rng (h := o + 1) (sz := o + 2) (by omega) hi
    omega
  refine q_putF (v := .ref (o + 1)) hx hb hts hin4 tyX4 tyX4_ok nmX4 hown hK ho rfl 0 (by decide) (hts (.fieldLink RX4 10 "PuddingstoneLineLaw$Stones" "m" "LPuddingstoneLine;") (by decide +kernel)) (fun _ h9 => h9) rfl hin rfl rfl rfl (Nat.le_of_ble_eq_true rfl) hS hA_o dX4_init_12 (fun H3 locs3 ho z3 o3 hS => ?_)
  replace hw : PLW D T (adI (o + 1) (o + 2)) _ _ _ _ H3 := hw.upd (A := fun q => q = o) (fun q _ h2 => o3 q h2) (fun i hi => Or.inl ⟨fun h9 => by have := had i hi; omega, rfl⟩)
  replace hsc := hsc.ne o3 (by omega)
  have ho : pAt D H3 o (eO 4 [.ref (o + 1), .null, .int (nI 0), .null, .null]) := ho
  have y3 : H3.size = o + 38 := by omega
  refine lv_aload_n hx hb dX4_init_15 rfl (lv_at hl 0 rfl) ?_
  refine lv_bipush (v := nI 8) hx hb dX4_init_16 (by decide) ?_
  refine lv_iconst (v := nI 0) hx hb dX4_init_18 (by decide) ?_
  refine q_mna (D := D) (ty := .array .int) (cA := T 8) (cy := T 5) (N := 8) (K := 0) (z := (0, .inr (.inr (.inr (.inr (fun _ => none)))))) hx hb hown (hts (.classLink RX4 16 "[[[I") (by decide +kernel)) hK.2.1.2.2.1 (ac_over hK.2.1.2.2.2.1) (hK.1.2 8 _ rfl).2 (hK.1.2 5 _ rfl).2 (by decide) (by decide) (by
    show ({ cls := T 5, slots := Array.replicate 0 .null, vm := .none } : Cell) = _
    rw [arrV_new, vp_cell_q]
    rfl) (by decide) rfl rfl (Nat.le_of_ble_eq_true rfl) (Nat.le_of_ble_eq_true rfl) hS dX4_init_19 (fun H4 hs0 hs1 z4 o4 hS => ?_)
  replace ho := ho.old o4
  replace hsc := hsc.old o4
  replace hw := hw.kept (fun q h1 _ => o4 q h1)
  rw [y3] at hs0 hs1 z4 ⊢
  refine q_putF (v := .ref (o + 38)) hx hb hts hin4 tyX4 tyX4_ok nmX4 hown hK ho rfl 3 (by decide) (hts (.fieldLink RX4 18 "PuddingstoneLineLaw$Stones" "sets" "[[[I") (by decide +kernel)) (fun _ h9 => h9) rfl hin rfl rfl rfl (Nat.le_of_ble_eq_true rfl) hS hA_o dX4_init_23 (fun H5 locs5 ho z5 o5 hS => ?_)
  replace hw : PLW D T (adI (o + 1) (o + 2)) _ _ _ _ H5 := hw.upd (A := fun q => q = o) (fun q _ h2 => o5 q h2) (fun i hi => Or.inl ⟨fun h9 => by have := had i hi; omega, rfl⟩)
  replace hsc := hsc.ne o5 (by omega)
  replace hs0 := hs0.ne o5 (by omega)
  replace hs1 : ∀ j : Nat, j < 8 → pAt D H5 (o + 38 + 1 + j) _ := fun j hj => (hs1 j hj).ne o5 (by omega)
  have ho : pAt D H5 o (eO 4 [.ref (o + 1), .null, .int (nI 0), .ref (o + 38), .null]) := ho
  have y5 : H5.size = o + 47 := by omega
  refine lv_aload_n hx hb dX4_init_26 rfl (lv_at hl 0 rfl) ?_
  refine lv_iconst (v := nI 5) hx hb dX4_init_27 (by decide) ?_
  refine lv_sipush (v := nI 201) hx hb dX4_init_28 (by decide) ?_
  refine q_mna (D := D) (ty := .int) (cA := T 5) (cy := T 1) (N := 5) (K := 201) (z := (201, .inl (fun _ => nI 0))) hx hb hown (hts (.classLink RX4 21 "[[I") (by decide +kernel)) hK.2.1.2.2.2.1 (hts (.arrayClass .int) (by decide +kernel)) (hK.1.2 5 _ rfl).2 (hK.1.2 1 _ rfl).2 (by decide) (by decide) (by
    show ({ cls := T 1, slots := Array.replicate 201 (.int 0), vm := .none } : Cell) = _
    rw [arrV_new, vp_cell_i]
    rfl) (by decide) rfl rfl (Nat.le_of_ble_eq_true rfl) (Nat.le_of_ble_eq_true rfl) hS dX4_init_31 (fun H6 hv0 hv1 z6 o6 hS => ?_)
  replace ho := ho.old o6
  replace hsc := hsc.old o6
  replace hs0 := hs0.old o6
  replace hs1 : ∀ j : Nat, j < 8 → pAt D H6 (o + 38 + 1 + j) _ := fun j hj => (hs1 j hj).old o6
  replace hw := hw.kept (fun q h1 _ => o6 q h1)
  rw [y5] at hv0 hv1 z6 ⊢
  refine q_putF (v := .ref (o + 47)) hx hb hts hin4 tyX4 tyX4_ok nmX4 hown hK ho rfl 4 (by decide) (hts (.fieldLink RX4 23 "PuddingstoneLineLaw$Stones" "values" "[[I") (by decide +kernel)) (fun _ h9 => h9) rfl hin rfl rfl rfl (Nat.le_of_ble_eq_true rfl) hS hA_o dX4_init_35 (fun H7 locs7 ho z7 o7 hS => ?_)
  have ho : pAt D H7 o (eO 4 [.ref (o + 1), .null, .int (nI 0), .ref (o + 38), .ref (o + 47)]) := ho
  refine lv_aload_n hx hb dX4_init_38 rfl (lv_at hl 0 rfl) ?_
  refine lv_aload_n hx hb dX4_init_39 rfl (lv_at hl 1 rfl) ?_
  refine q_putF (v := .ref sc) hx hb hts hin4 tyX4 tyX4_ok nmX4 hown hK ho rfl 1 (by decide) (hts (.fieldLink RX4 26 "PuddingstoneLineLaw$Stones" "s" "[I") (by decide +kernel)) (fun _ h9 => h9) rfl hin rfl rfl rfl (Nat.le_of_ble_eq_true rfl) hS hA_o dX4_init_40 (fun H8 locs8 ho z8 o8 hS => ?_)
  have ho : pAt D H8 o (eO 4 [.ref (o + 1), .ref sc, .int (nI 0), .ref (o + 38), .ref (o + 47)]) := ho
  refine lv_aload_n hx hb dX4_init_43 rfl (lv_at hl 0 rfl) ?_
  refine lv_iload_n hx hb dX4_init_44 rfl (lv_at hl 2 rfl) ?_
  refine q_putZ (v := .int (nI dr)) hx hb hts hin4 tyX4 tyX4_ok nmX4 hown hK ho rfl 2 (by decide) (hts (.fieldLink RX4 30 "PuddingstoneLineLaw$Stones" "draws" "I") (by decide +kernel)) (fun _ h9 => h9) rfl rfl rfl (Nat.le_of_ble_eq_true rfl) hS hA_o dX4_init_45 (fun H9 locs9 ho z9 o9 hS => ?_)
  have ho : pAt D H9 o (eO 4 [.ref (o + 1), .ref sc, .int (nI dr), .ref (o + 38), .ref (o + 47)]) := ho
  have oo : ∀ q : Nat, q ≠ o → H9[q]? = H6[q]? := fun q hq => ((o9 q hq).trans (o8 q hq)).trans (o7 q hq)
  replace hw : PLW D T (adI (o + 1) (o + 2)) _ _ _ _ H9 := hw.upd (A := fun q => q = o) (fun q _ h2 => oo q h2) (fun i hi => Or.inl ⟨fun h9 => by have := had i hi; omega, rfl⟩)
  replace hsc := hsc.ne oo (by omega)
  replace hs0 := hs0.ne oo (by omega)
  replace hv0 := hv0.ne oo (by omega)
  have hst : ST D T (adI (o + 1) (o + 2)) o sc N sf dr H9 := ⟨dr, _, _, _, _, fun _ => (0, fun _ => 0, fun _ => 0), fun _ _ => nI 0, fun k => o + 38 + 1 + k, fun k => o + 47 + 1 + k, Nat.le_refl dr, by omega, ⟨had, hw, ho, hs0.outR (fun k hk => if_pos hk), fun k hk => ⟨Or.inl ⟨by show o + 39 ≤ o + 38 + 1 + k; omega, by show o + 38 + 1 + k < o + 47; omega⟩, Nat.zero_le _, fun _ => 0, ((hs1 k hk).ne oo (by omega)).outR (fun j hj => absurd hj (Nat.not_lt_zero j)), fun j hj => absurd hj (Nat.not_lt_zero j)⟩, hv0.outR (fun k hk => if_pos hk), fun k hk => ⟨by show o + 48 ≤ o + 47 + 1 + k; omega, (hv1 k hk).ne oo (by omega)⟩, fun i j _ _ h1 h2 => h1 (by have h3 : o + 47 + 1 + i = o + 47 + 1 + j := h2; omega), hlt, hsc⟩, Nat.zero_le _, fun k _ => rep_none, fun f g _ _ => ⟨rfl, show inL (nI 0) from (by unfold inL; decide)⟩⟩
  exact W.vret hx hb hr (fun t ht _ => ⟨⟨(), rfl, trivial, by dsimp only; rw [ht]; exact hst⟩, hS.F ht⟩) hS.2.2 dX4_init_48
