/-! WHAT THE TABLES GIVE AT THE LAW'S ENTRY -/
theorem ar_prim {ty : FieldType} {args : Array Value} {s : State} (h : (Cond.arrayClass ty).before args s = true) : ∃ cA : ClassId, ArrOfT s cA ty ∧ s.vm.findClass ("[" ++ ty.toString) = some cA := by
  obtain ⟨c, k, comp, h1, h2, h3⟩ := Cond.arrayClass_spec h
  exact ⟨c, fun n z => ⟨(fun k h => by cases h), k, h2, comp, h3⟩, h1⟩
theorem ar_obj {C : String} {args : Array Value} {s : State} (h : (Cond.arrayOver (.object C)).before args s = true) : ∃ cA : ClassId, ArrOfT s cA (.object C) ∧ va_RA s cA (.object C) := by
  obtain ⟨comp, c, k, h1, -, h3, h4, h5⟩ := Cond.arrayOver_spec h
  exact ⟨c, fun n z => ⟨(fun k h => by cases h), k, h3, comp, h4⟩, k, comp, h3, h4, h1, h5⟩
theorem ar_arr {ty : FieldType} {s : State} (h : va_AOA ty s) : ∃ cA : ClassId, ArrOfT s cA (.array ty) ∧ s.vm.findClass ("[" ++ (FieldType.array ty).toString) = some cA := by
  obtain ⟨comp, c, k, h1, h3, h4, h5⟩ := q_over h
  exact ⟨c, fun n z => ⟨(fun k h => by cases h), k, h3, comp, h4⟩, h5⟩
def tyT (a0 a1 a2 a3 a4 a5 a8 : ClassId) : Nat → ClassId := fun k => match k with
  | 0 => a0
  | 1 => a1
  | 2 => a2
  | 3 => a3
  | 4 => a4
  | 5 => a5
  | 6 => a1
  | 7 => a1
  | _ => a8
def tyD {α : Type} (c0 c1 c2 c3 c4 : α) : Nat → α := fun k => match k with
  | 0 => c0
  | 1 => c1
  | 2 => c2
  | 3 => c3
  | _ => c4
set_option maxHeartbeats 4000000 in
set_option maxRecDepth 100000 in
theorem start_env {s : State} {b : Nat} {cs : ClassId} (hts : ∀ w ∈ lw_tbl, w.before #[Value.ref b] s = true) (hsx : SX cs s) : ∃ (D : va_G) (T : Nat → ClassId), KB D T s ∧ T 4 = cs := by
  obtain ⟨c0, i0, k0⟩ := u_known (C := RX0) (T := TX0) (N := 1) (n := 1) hts inX0 (hts (.instantiable RX0 1) (by decide +kernel))
  obtain ⟨c1, i1, k1⟩ := u_known (C := RX1) (T := TX1) (N := 3) (n := 3) hts inX1 (hts (.instantiable RX1 3) (by decide +kernel))
  obtain ⟨c2, i2, k2⟩ := u_known (C := RX2) (T := TX2) (N := 1) (n := 1) hts inX2 (hts (.instantiable RX2 1) (by decide +kernel))
  obtain ⟨c3, i3, k3⟩ := u_known (C := RX3) (T := TX3) (N := 6) (n := 6) hts inX3 (hts (.instantiable RX3 6) (by decide +kernel))
  obtain ⟨c4, i4, k4⟩ := u_known (C := RX4) (T := TX4) (N := 5) (n := 5) hts inX4 (hts (.instantiable RX4 5) (by decide +kernel))
  have o0 : va_AO RX0 s := va_AO.of (hts (.arrayOver (.object RX0)) (by decide +kernel))
  have o2 : va_AO RX2 s := va_AO.of (hts (.arrayOver (.object RX2)) (by decide +kernel))
  have q0 : va_AOA (.array .int) s := va_AOA.of (hts (.arrayOver (.array (.array .int))) (by decide +kernel))
  have q1 : va_AOA .int s := va_AOA.of (hts (.arrayOver (.array .int)) (by decide +kernel))
  obtain ⟨a0, A0, N0⟩ := ar_prim (hts (.arrayClass .boolean) (by decide +kernel))
  obtain ⟨a1, A1, N1⟩ := ar_prim (hts (.arrayClass .int) (by decide +kernel))
  obtain ⟨a2, A2, N2⟩ := ar_obj (va_AO.use (A := #[]) o0)
  obtain ⟨a3, A3, N3⟩ := ar_obj (va_AO.use (A := #[]) o2)
  obtain ⟨a5, A5, N5⟩ := ar_arr q1
  obtain ⟨a8, A8, N8⟩ := ar_arr q0
  refine ⟨(tyD c0 c1 c2 c3 c4, tyD i0 i1 i2 i3 i4), tyT a0 a1 a2 a3 cs a5 a8, ⟨⟨?_, ?_⟩, ⟨o0, o2, q0, q1, hsx⟩, ?_⟩, rfl⟩
  · intro k q hq
    match k, hq with
    | 0, hq => cases hq; exact k0
    | 1, hq => cases hq; exact k1
    | 2, hq => cases hq; exact k2
    | 3, hq => cases hq; exact k3
    | 4, hq => cases hq; exact k4
    | k + 5, hq => simp [vwCl] at hq
  · intro k q hq
    match k, hq with
    | 0, hq => cases hq; exact ⟨A0, N0⟩
    | 1, hq => cases hq; exact ⟨A1, N1⟩
    | 2, hq => cases hq; exact ⟨A2, N2⟩
    | 3, hq => cases hq; exact ⟨A3, N3⟩
    | 4, hq => cases hq; exact ⟨A1, N1⟩
    | 5, hq => cases hq; exact ⟨A5, N5⟩
    | 6, hq => cases hq; exact ⟨A1, N1⟩
    | 7, hq => cases hq; exact ⟨A1, N1⟩
    | 8, hq => cases hq; exact ⟨A8, N8⟩
    | k + 9, hq => simp [TY] at hq
  · exact ⟨va_Nw.of rfl (hts _ (by decide +kernel)), va_Nw.of rfl (hts _ (by decide +kernel)), va_Nw.of rfl (hts _ (by decide +kernel)), va_Nw.of rfl (hts _ (by decide +kernel)), va_Nw.of rfl (hts _ (by decide +kernel)), va_Nw.of rfl (hts _ (by decide +kernel)), va_Nw.of rfl (hts _ (by decide +kernel))⟩
