/-! WHAT THE TABLES GIVE AT THE LAW'S ENTRY -/
theorem ar_prim {ty : FieldType} {args : Array Value} {s : State} (h : (Cond.arrayClass ty).before args s = true) : ∃ cA : ClassId, ArrOfT s cA ty ∧ s.vm.findClass ("[" ++ ty.toString) = some cA := by
  obtain ⟨c, k, comp, h1, h2, h3⟩ := Cond.arrayClass_spec h
  exact ⟨c, fun n z => ⟨(fun k h => by cases h), k, h2, comp, h3⟩, h1⟩
theorem ar_obj {C : String} {args : Array Value} {s : State} (h : (Cond.arrayOver (.object C)).before args s = true) : ∃ cA : ClassId, ArrOfT s cA (.object C) ∧ va_RA s cA (.object C) := by
  obtain ⟨comp, c, k, h1, -, h3, h4, h5⟩ := Cond.arrayOver_spec h
  exact ⟨c, fun n z => ⟨(fun k h => by cases h), k, h3, comp, h4⟩, k, comp, h3, h4, h1, h5⟩
theorem ar_arr {ty : FieldType} {s : State} (h : va_AOA ty s) : ∃ cA : ClassId, ArrOfT s cA (.array ty) ∧ s.vm.findClass ("[" ++ (FieldType.array ty).toString) = some cA := by
  obtain ⟨comp, c, k, h1, h3, h4, h5⟩ := q_over h
  exact ⟨c, fun n z => ⟨(fun k h => by cases h), k, h3, comp, h4⟩, h5⟩
def tyT (a0 a1 a2 a3 a4 a5 a6 a7 : ClassId) : Nat → ClassId := fun k => match k with
  | 0 => a0
  | 1 => a1
  | 2 => a2
  | 3 => a3
  | 4 => a4
  | 5 => a5
  | 6 => a6
  | _ => a7
def tyD {α : Type} (c0 c1 c2 c3 c4 : α) : Nat → α := fun k => match k with
  | 0 => c0
  | 1 => c1
  | 2 => c2
  | 3 => c3
  | _ => c4
theorem xTx_in : ∀ x ∈ xTx, Cond.stringRef RX3 x.1 x.2 ∈ lw_tbl := by decide +kernel
set_option maxHeartbeats 4000000 in
set_option maxRecDepth 100000 in
theorem start_env {s : State} {b : Nat} (hts : ∀ w ∈ lw_tbl, w.before #[Value.ref b] s = true) (hgv : (Jvm.Cond.and given_1 narrow_1).before #[Value.ref b] s = true) : ∃ (D : va_G) (T : Nat → ClassId), KB D T s ∧ KX s.heap.size s ∧ va_Nc IAE IOB s := by
  obtain ⟨c0, i0, k0⟩ := u_known (C := RX0) (T := TX0) (N := 1) (n := 1) hts inX0 (hts (.instantiable RX0 1) (by decide +kernel))
  obtain ⟨c1, i1, k1⟩ := u_known (C := RX1) (T := TX1) (N := 3) (n := 3) hts inX1 (hts (.instantiable RX1 3) (by decide +kernel))
  obtain ⟨c2, i2, k2⟩ := u_known (C := RX2) (T := TX2) (N := 1) (n := 1) hts inX2 (hts (.instantiable RX2 1) (by decide +kernel))
  obtain ⟨c3, i3, k3⟩ := u_known (C := RX3) (T := TX3) (N := 6) (n := 6) hts inX3 (hts (.instantiable RX3 6) (by decide +kernel))
  obtain ⟨c4, i4, k4⟩ := u_known (C := RX4) (T := TX4) (N := 3) (n := 3) hts inX4 (hts (.instantiable RX4 3) (by decide +kernel))
  have o0 : va_AO RX0 s := va_AO.of (hts (.arrayOver (.object RX0)) (by decide +kernel))
  have o2 : va_AO RX2 s := va_AO.of (hts (.arrayOver (.object RX2)) (by decide +kernel))
  have q0 : va_AOA .boolean s := va_AOA.of (hts (.arrayOver (.array .boolean)) (by decide +kernel))
  have q1 : va_AOA .int s := va_AOA.of (hts (.arrayOver (.array .int)) (by decide +kernel))
  obtain ⟨a0, A0, N0⟩ := ar_prim (hts (.arrayClass .boolean) (by decide +kernel))
  obtain ⟨a1, A1, N1⟩ := ar_prim (hts (.arrayClass .int) (by decide +kernel))
  obtain ⟨a2, A2, N2⟩ := ar_obj (va_AO.use (A := #[]) o0)
  obtain ⟨a3, A3, N3⟩ := ar_obj (va_AO.use (A := #[]) o2)
  obtain ⟨a4, A4, N4⟩ := ar_arr q0
  obtain ⟨a5, A5, N5⟩ := ar_arr q1
  obtain ⟨a6, A6, N6⟩ := ar_prim (hts (.arrayClass .long) (by decide +kernel))
  obtain ⟨a7, A7, N7⟩ := ar_prim (hts (.arrayClass .double) (by decide +kernel))
  have hf := flat_of_before _ hgv
  refine ⟨(tyD c0 c1 c2 c3 c4, tyD i0 i1 i2 i3 i4), tyT a0 a1 a2 a3 a4 a5 a6 a7, ⟨⟨?_, ?_⟩, ⟨o0, o2, q0, q1⟩, ?_⟩, ⟨⟨?_, ?_, ?_⟩, ?_, ?_⟩, ?_⟩
  · intro k q hq
    match k, hq with
    | 0, hq => cases hq; exact k0
    | 1, hq => cases hq; exact k1
    | 2, hq => cases hq; exact k2
    | 3, hq => cases hq; exact k3
    | 4, hq => cases hq; exact k4
    | k + 5, hq => simp [vwCl] at hq
  · intro k q hq
    match k, hq with
    | 0, hq => cases hq; exact ⟨A0, N0⟩
    | 1, hq => cases hq; exact ⟨A1, N1⟩
    | 2, hq => cases hq; exact ⟨A2, N2⟩
    | 3, hq => cases hq; exact ⟨A3, N3⟩
    | 4, hq => cases hq; exact ⟨A4, N4⟩
    | 5, hq => cases hq; exact ⟨A5, N5⟩
    | 6, hq => cases hq; exact ⟨A6, N6⟩
    | 7, hq => cases hq; exact ⟨A7, N7⟩
    | k + 8, hq => simp [TY] at hq
  · exact ⟨va_Nw.of rfl (hts _ (by decide +kernel)), va_Nw.of rfl (hts _ (by decide +kernel)), va_Nw.of rfl (hts _ (by decide +kernel)), va_Nw.of rfl (hts _ (by decide +kernel)), va_Nw.of rfl (hts _ (by decide +kernel))⟩
  · exact ⟨va_Nw.of rfl (hts _ (by decide +kernel)), va_Nw.of rfl (hts _ (by decide +kernel)), va_Nw.of rfl (hts _ (by decide +kernel))⟩
  · exact ⟨va_Nw.of rfl (hts _ (by decide +kernel)), va_Nw.of rfl (hts _ (by decide +kernel))⟩
  · intro x hx
    have h1 : (Cond.stringRef RX3 x.1 x.2).before #[Value.ref b] s = true := hts _ (xTx_in x hx)
    obtain ⟨k9, cf, i, a, -, -, -, -, -, he⟩ := Cond.stringRef_spec k3.2.1 h1
    exact ⟨a, vk_R.of h1 he⟩
  · exact vx_Zqof (hts _ (by decide +kernel)) (hts _ (by decide +kernel)) (hf _ (by decide +kernel)) (fun a h1 h2 => absurd h1 (Nat.not_lt.mpr h2))
  · exact vx_Zqof (hts _ (by decide +kernel)) (hts _ (by decide +kernel)) (hf _ (by decide +kernel)) (fun a h1 h2 => absurd h1 (Nat.not_lt.mpr h2))
  · exact va_Nc.of (hf _ (by decide +kernel))
section FWQ
variable {p : Program} {l : Launch} {e : Env} {R : Room} {s : State} {m : MethodId} {args : Array Value} {below : List Frame} {meth : Method} {c : Code} {H : Heap} {locs : List Loc} {cells slots : Nat} {Q : State → Prop}
variable {cc : ByteArray} {pc : Nat} {ls : Array Slot} {rest : List Value} {D : va_G} {T : Nat → ClassId} {A : Nat → Prop} {a : Nat} {H0 : Heap}
theorem q_newl (hx : p.tables.exec = Jvm.exec) (hb : c.code = cc) (harr : (Cond.arrayClass .long).before args s = true) (hK : KB D T s) {i : Int32} (j : Nat) (hi : i = nI j) (hj : j < 2 ^ 26) (hcells : cells + 1 ≤ R.cells) (hslots : slots + j ≤ R.slots) (hS : va_S A H0 H locs) (hdg : decode cc pc = .ok (.newarray .long, 2))
    (kk : ∀ H1 : Heap, pAt D H1 H.size (eL (T 6) j (fun _ => 0)) → H1.size = H.size + 1 → (∀ q : Nat, q < H.size → H1[q]? = H[q]?) → va_S A H0 H1 locs → W p l e R s m args below meth c H1 locs (cells + 1) (slots + j) Q (F0 m (pc + 2) ls (.ref H.size :: rest))) : W p l e R s m args below meth c H locs cells slots Q (F0 m pc ls (.int i :: rest)) := by
  subst hi
  refine va_newaK hx hb (atype := .long) harr rfl hdg rfl (fun q => vp_in_nI (Nat.lt_succ_self j) (by omega) (Or.inl q)) (nI_clamp (by omega)) (by show j * 8 ≤ _; omega) hcells hslots rfl fun H1 cA e1 z1 o1 _ hNm => ?_
  have hc : cA = T 6 := Option.some.inj (hNm.symm.trans (hK.1.2 6 _ rfl).2)
  subst hc
  refine kk H1 ?_ z1 o1 (hS.grow z1 o1)
  show H1[H.size]? = some (vp_cell _ _)
  rw [e1, vp_cell_l]
  rfl
theorem q_newd (hx : p.tables.exec = Jvm.exec) (hb : c.code = cc) (harr : (Cond.arrayClass .double).before args s = true) (hK : KB D T s) {i : Int32} (j : Nat) (hi : i = nI j) (hj : j < 2 ^ 26) (hcells : cells + 1 ≤ R.cells) (hslots : slots + j ≤ R.slots) (hS : va_S A H0 H locs) (hdg : decode cc pc = .ok (.newarray .double, 2))
    (kk : ∀ H1 : Heap, pAt D H1 H.size (eD (T 7) j (fun _ => 0)) → H1.size = H.size + 1 → (∀ q : Nat, q < H.size → H1[q]? = H[q]?) → va_S A H0 H1 locs → W p l e R s m args below meth c H1 locs (cells + 1) (slots + j) Q (F0 m (pc + 2) ls (.ref H.size :: rest))) : W p l e R s m args below meth c H locs cells slots Q (F0 m pc ls (.int i :: rest)) := by
  subst hi
  refine va_newaK hx hb (atype := .double) harr rfl hdg rfl (fun q => vp_in_nI (Nat.lt_succ_self j) (by omega) (Or.inl q)) (nI_clamp (by omega)) (by show j * 8 ≤ _; omega) hcells hslots rfl fun H1 cA e1 z1 o1 _ hNm => ?_
  have hc : cA = T 7 := Option.some.inj (hNm.symm.trans (hK.1.2 7 _ rfl).2)
  subst hc
  refine kk H1 ?_ z1 o1 (hS.grow z1 o1)
  show H1[H.size]? = some (vp_cell _ _)
  rw [e1, vp_cell_d]
  rfl
end FWQ
theorem na_N {h sz N0 q : Nat} (h1 : N0 ≤ h) (h2 : h < sz) (h9 : NA h sz q) : N0 ≤ q := by
  rcases h9 with h8 | h8 <;> omega
theorem adO_le : ∀ i : Fin 37, adO i.1 ≤ 35 := by decide +kernel
theorem adI_rng {h sz i : Nat} (hlt : h < sz) (hi : i < 37) : h ≤ adI h sz i ∧ adI h sz i < sz + 36 := by
  have h1 := adO_le ⟨i, hi⟩
  have h2 : adO i ≤ 35 := h1
  unfold adI
  split <;> omega
theorem PLW.out {D : va_G} {T : Nat → ClassId} {ad : Nat → Nat} {F V : Nat → Nat → Int32} {sr : SRs} {C : Nat → Int32} {H H1 : Heap} (h : PLW D T ad F V sr C H) {A : Nat → Prop} (hk : ∀ q : Nat, q < H.size → ¬ A q → H1[q]? = H[q]?) (hA : ∀ i : Nat, i < 37 → ¬ A (ad i)) : PLW D T ad F V sr C H1 := h.upd hk (fun i hi => Or.inl ⟨hA i hi, rfl⟩)
