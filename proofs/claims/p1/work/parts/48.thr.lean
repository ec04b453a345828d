/-! THE CHECKS, WHERE THEY REFUSE -/
set_option maxHeartbeats 4000000 in
set_option maxRecDepth 100000 in
/-- checkGrain, where it refuses -/
theorem thX3_checkGrain (l : Launch) (hlt : l.stackTraces = false) (D : va_G) (T : Nat → ClassId) (N0 : Nat) (x : Int32) (hbad : x < 0 ∨ ¬ x < nI 201) : vx_Met l yX3_checkGrain wsX3_checkGrain ({ frames := 6, cells := 1, slots := 6, locals := 82 }) (cX D T N0 [.int x] (fun H => True)) (va_Qv (fun (_ : Unit) => False) (fun _ _ => True) (fun q : Nat => N0 ≤ q)) (xQ IOB (fun q : Nat => N0 ≤ q)) 1 6 (fun q : Nat => N0 ≤ q) := by
  refine vx_ofW (cc := cX3_checkGrain) (maxL := 1) (ret := none) (by decide) rfl ?_
  intro p e s m args below meth c s₁ B hml hex hv9
  obtain ⟨rfl, hK, hw, hKX⟩ := hv9
  have hx := B.exec
  have hb := B.bytes
  have hts := atoms_spec (ws := wsX3_checkGrain) B.pre
  have hown : s.vm.findClass RX3 = some m.cls := findClass_of_methodNamed B.named
  have hlocks := B.notSynchronized
  have hS : va_S (fun q : Nat => N0 ≤ q) s.heap s.heap [] := va_S.rf
  have hl := lv_entry ([.int x]) (n := 1) (Nat.le_of_ble_eq_true rfl)
  rw [lg_entry_eq]
  generalize (lg_sl ([.int x]) ++ List.replicate (1 - (lg_sl ([.int x])).length) Slot.unset).toArray = ls at hl ⊢
  have hl : lv_has ls 1 [(0, .int x)] := hl
  have hend : W p l e (headSpec wsX3_checkGrain { frames := 6, cells := 1, slots := 6, locals := 82 }).room s m #[Value.int x] below meth c s.heap [] 0 0 (vx_MQ below (va_Qv (fun (_ : Unit) => False) (fun _ _ => True) (fun q : Nat => N0 ≤ q)) (xQ IOB (fun q : Nat => N0 ≤ q)) #[Value.int x] s 1 6 (fun q : Nat => N0 ≤ q)) (F0 m 11 ls []) :=
    q_throwB hx hb hlt hts (by decide +kernel) hown hKX 218 "there is no such GRAIN" (by decide +kernel) hS (hl.1.trans hml.symm) dX3_checkGrain_11 dX3_checkGrain_14 dX3_checkGrain_15 dX3_checkGrain_17 dX3_checkGrain_20 (fun z hz => absurd (hex z hz) (fun f => f)) (Nat.le_of_ble_eq_true rfl) (Nat.le_of_ble_eq_true rfl) (Nat.le_of_ble_eq_true rfl) (Nat.le_of_ble_eq_true rfl) hlocks (fun z hz => absurd hz List.not_mem_nil) (Nat.le_of_ble_eq_true rfl) (Nat.le_of_ble_eq_true rfl)
  refine lv_iload_n hx hb dX3_checkGrain_0 rfl (lv_at hl 0 rfl) ?_
  refine lv_if_lt (tgt := 11) hx hb dX3_checkGrain_1 (by decide) (fun c1 => hend) (fun c1 => ?_)
  refine lv_iload_n hx hb dX3_checkGrain_4 rfl (lv_at hl 0 rfl) ?_
  refine lv_sipush (v := nI 201) hx hb dX3_checkGrain_5 (by decide) ?_
  exact lv_icmp_lt (tgt := 21) hx hb dX3_checkGrain_8 (by decide) (fun c8 => absurd hbad (fun h9 => h9.elim c1 (fun h8 => h8 c8))) (fun c8 => hend)
set_option maxHeartbeats 4000000 in
set_option maxRecDepth 100000 in
/-- checkSet, where it refuses -/
theorem thX3_checkSet (l : Launch) (hlt : l.stackTraces = false) (D : va_G) (T : Nat → ClassId) (N0 : Nat) (x : Int32) (hbad : x < 0 ∨ ¬ x < nI 8) : vx_Met l yX3_checkSet wsX3_checkSet ({ frames := 6, cells := 1, slots := 6, locals := 82 }) (cX D T N0 [.int x] (fun H => True)) (va_Qv (fun (_ : Unit) => False) (fun _ _ => True) (fun q : Nat => N0 ≤ q)) (xQ IOB (fun q : Nat => N0 ≤ q)) 1 6 (fun q : Nat => N0 ≤ q) := by
  refine vx_ofW (cc := cX3_checkSet) (maxL := 1) (ret := none) (by decide) rfl ?_
  intro p e s m args below meth c s₁ B hml hex hv9
  obtain ⟨rfl, hK, hw, hKX⟩ := hv9
  have hx := B.exec
  have hb := B.bytes
  have hts := atoms_spec (ws := wsX3_checkSet) B.pre
  have hown : s.vm.findClass RX3 = some m.cls := findClass_of_methodNamed B.named
  have hlocks := B.notSynchronized
  have hS : va_S (fun q : Nat => N0 ≤ q) s.heap s.heap [] := va_S.rf
  have hl := lv_entry ([.int x]) (n := 1) (Nat.le_of_ble_eq_true rfl)
  rw [lg_entry_eq]
  generalize (lg_sl ([.int x]) ++ List.replicate (1 - (lg_sl ([.int x])).length) Slot.unset).toArray = ls at hl ⊢
  have hl : lv_has ls 1 [(0, .int x)] := hl
  have hend : W p l e (headSpec wsX3_checkSet { frames := 6, cells := 1, slots := 6, locals := 82 }).room s m #[Value.int x] below meth c s.heap [] 0 0 (vx_MQ below (va_Qv (fun (_ : Unit) => False) (fun _ _ => True) (fun q : Nat => N0 ≤ q)) (xQ IOB (fun q : Nat => N0 ≤ q)) #[Value.int x] s 1 6 (fun q : Nat => N0 ≤ q)) (F0 m 10 ls []) :=
    q_throwB hx hb hlt hts (by decide +kernel) hown hKX 214 "there is no such SET" (by decide +kernel) hS (hl.1.trans hml.symm) dX3_checkSet_10 dX3_checkSet_13 dX3_checkSet_14 dX3_checkSet_16 dX3_checkSet_19 (fun z hz => absurd (hex z hz) (fun f => f)) (Nat.le_of_ble_eq_true rfl) (Nat.le_of_ble_eq_true rfl) (Nat.le_of_ble_eq_true rfl) (Nat.le_of_ble_eq_true rfl) hlocks (fun z hz => absurd hz List.not_mem_nil) (Nat.le_of_ble_eq_true rfl) (Nat.le_of_ble_eq_true rfl)
  refine lv_iload_n hx hb dX3_checkSet_0 rfl (lv_at hl 0 rfl) ?_
  refine lv_if_lt (tgt := 10) hx hb dX3_checkSet_1 (by decide) (fun c1 => hend) (fun c1 => ?_)
  refine lv_iload_n hx hb dX3_checkSet_4 rfl (lv_at hl 0 rfl) ?_
  refine lv_bipush (v := nI 8) hx hb dX3_checkSet_5 (by decide) ?_
  exact lv_icmp_lt (tgt := 20) hx hb dX3_checkSet_7 (by decide) (fun c8 => absurd hbad (fun h9 => h9.elim c1 (fun h8 => h8 c8))) (fun c8 => hend)
set_option maxHeartbeats 4000000 in
set_option maxRecDepth 100000 in
/-- checkChoice, where it refuses -/
theorem thX3_checkChoice (l : Launch) (hlt : l.stackTraces = false) (D : va_G) (T : Nat → ClassId) (N0 : Nat) (x y : Int32) (hbad : x < 0 ∨ ¬ x ≤ y) : vx_Met l yX3_checkChoice wsX3_checkChoice ({ frames := 6, cells := 1, slots := 6, locals := 82 }) (cX D T N0 [.int x, .int y] (fun H => True)) (va_Qv (fun (_ : Unit) => False) (fun _ _ => True) (fun q : Nat => N0 ≤ q)) (xQ IAE (fun q : Nat => N0 ≤ q)) 1 6 (fun q : Nat => N0 ≤ q) := by
  refine vx_ofW (cc := cX3_checkChoice) (maxL := 2) (ret := none) (by decide) rfl ?_
  intro p e s m args below meth c s₁ B hml hex hv9
  obtain ⟨rfl, hK, hw, hKX⟩ := hv9
  have hx := B.exec
  have hb := B.bytes
  have hts := atoms_spec (ws := wsX3_checkChoice) B.pre
  have hown : s.vm.findClass RX3 = some m.cls := findClass_of_methodNamed B.named
  have hlocks := B.notSynchronized
  have hS : va_S (fun q : Nat => N0 ≤ q) s.heap s.heap [] := va_S.rf
  have hl := lv_entry ([.int x, .int y]) (n := 2) (Nat.le_of_ble_eq_true rfl)
  rw [lg_entry_eq]
  generalize (lg_sl ([.int x, .int y]) ++ List.replicate (2 - (lg_sl ([.int x, .int y])).length) Slot.unset).toArray = ls at hl ⊢
  have hl : lv_has ls 2 [(0, .int x), (1, .int y)] := hl
  have hend : W p l e (headSpec wsX3_checkChoice { frames := 6, cells := 1, slots := 6, locals := 82 }).room s m #[Value.int x, Value.int y] below meth c s.heap [] 0 0 (vx_MQ below (va_Qv (fun (_ : Unit) => False) (fun _ _ => True) (fun q : Nat => N0 ≤ q)) (xQ IAE (fun q : Nat => N0 ≤ q)) #[Value.int x, Value.int y] s 1 6 (fun q : Nat => N0 ≤ q)) (F0 m 9 ls []) :=
    q_throwI hx hb hlt hts (by decide +kernel) hown hKX 220 "how, what or ends is none of those that there are" (by decide +kernel) hS (hl.1.trans hml.symm) dX3_checkChoice_9 dX3_checkChoice_12 dX3_checkChoice_13 dX3_checkChoice_15 dX3_checkChoice_18 (fun z hz => absurd (hex z hz) (fun f => f)) (Nat.le_of_ble_eq_true rfl) (Nat.le_of_ble_eq_true rfl) (Nat.le_of_ble_eq_true rfl) (Nat.le_of_ble_eq_true rfl) hlocks (fun z hz => absurd hz List.not_mem_nil) (Nat.le_of_ble_eq_true rfl) (Nat.le_of_ble_eq_true rfl)
  refine lv_iload_n hx hb dX3_checkChoice_0 rfl (lv_at hl 0 rfl) ?_
  refine lv_if_lt (tgt := 9) hx hb dX3_checkChoice_1 (by decide) (fun c1 => hend) (fun c1 => ?_)
  refine lv_iload_n hx hb dX3_checkChoice_4 rfl (lv_at hl 0 rfl) ?_
  refine lv_iload_n hx hb dX3_checkChoice_5 rfl (lv_at hl 1 rfl) ?_
  exact lv_icmp_le (tgt := 19) hx hb dX3_checkChoice_6 (by decide) (fun c8 => absurd hbad (fun h9 => h9.elim c1 (fun h8 => h8 c8))) (fun c8 => hend)
set_option maxHeartbeats 4000000 in
set_option maxRecDepth 100000 in
/-- checkMove, where it refuses -/
theorem thX3_checkMove (l : Launch) (hlt : l.stackTraces = false) (D : va_G) (T : Nat → ClassId) (N0 : Nat) (x : Int32) (hbad : x < -100 ∨ ¬ x ≤ nI 100) : vx_Met l yX3_checkMove wsX3_checkMove ({ frames := 6, cells := 1, slots := 6, locals := 82 }) (cX D T N0 [.int x] (fun H => True)) (va_Qv (fun (_ : Unit) => False) (fun _ _ => True) (fun q : Nat => N0 ≤ q)) (xQ IAE (fun q : Nat => N0 ≤ q)) 1 6 (fun q : Nat => N0 ≤ q) := by
  refine vx_ofW (cc := cX3_checkMove) (maxL := 1) (ret := none) (by decide) rfl ?_
  intro p e s m args below meth c s₁ B hml hex hv9
  obtain ⟨rfl, hK, hw, hKX⟩ := hv9
  have hx := B.exec
  have hb := B.bytes
  have hts := atoms_spec (ws := wsX3_checkMove) B.pre
  have hown : s.vm.findClass RX3 = some m.cls := findClass_of_methodNamed B.named
  have hlocks := B.notSynchronized
  have hS : va_S (fun q : Nat => N0 ≤ q) s.heap s.heap [] := va_S.rf
  have hl := lv_entry ([.int x]) (n := 1) (Nat.le_of_ble_eq_true rfl)
  rw [lg_entry_eq]
  generalize (lg_sl ([.int x]) ++ List.replicate (1 - (lg_sl ([.int x])).length) Slot.unset).toArray = ls at hl ⊢
  have hl : lv_has ls 1 [(0, .int x)] := hl
  have hend : W p l e (headSpec wsX3_checkMove { frames := 6, cells := 1, slots := 6, locals := 82 }).room s m #[Value.int x] below meth c s.heap [] 0 0 (vx_MQ below (va_Qv (fun (_ : Unit) => False) (fun _ _ => True) (fun q : Nat => N0 ≤ q)) (xQ IAE (fun q : Nat => N0 ≤ q)) #[Value.int x] s 1 6 (fun q : Nat => N0 ≤ q)) (F0 m 12 ls []) :=
    q_throwI hx hb hlt hts (by decide +kernel) hown hKX 224 "by is not -100 to 100" (by decide +kernel) hS (hl.1.trans hml.symm) dX3_checkMove_12 dX3_checkMove_15 dX3_checkMove_16 dX3_checkMove_18 dX3_checkMove_21 (fun z hz => absurd (hex z hz) (fun f => f)) (Nat.le_of_ble_eq_true rfl) (Nat.le_of_ble_eq_true rfl) (Nat.le_of_ble_eq_true rfl) (Nat.le_of_ble_eq_true rfl) hlocks (fun z hz => absurd hz List.not_mem_nil) (Nat.le_of_ble_eq_true rfl) (Nat.le_of_ble_eq_true rfl)
  refine lv_iload_n hx hb dX3_checkMove_0 rfl (lv_at hl 0 rfl) ?_
  refine lv_bipush (v := (-100)) hx hb dX3_checkMove_1 (by decide) ?_
  refine lv_icmp_lt (tgt := 12) hx hb dX3_checkMove_3 (by decide) (fun c1 => hend) (fun c1 => ?_)
  refine lv_iload_n hx hb dX3_checkMove_6 rfl (lv_at hl 0 rfl) ?_
  refine lv_bipush (v := nI 100) hx hb dX3_checkMove_7 (by decide) ?_
  exact lv_icmp_le (tgt := 22) hx hb dX3_checkMove_9 (by decide) (fun c8 => absurd hbad (fun h9 => h9.elim c1 (fun h8 => h8 c8))) (fun c8 => hend)
/-- the start of a call that may throw -/
theorem preX {D : va_G} {T : Nat → ClassId} {N0 : Nat} {s : State} {H : Heap} {av : List Value} {P : Heap → Prop} (hK : KB D T s) (hKX : KX N0 s) (hH : s.heap = H) (hP : P H) : PreS s H (cX D T N0 av P) av := ⟨cX.blind, fun U hU hW => ⟨rfl, hK.warm hW, by rw [hU]; exact hP, hKX.1.warm hW, hKX.2.kept hW.alike (fun a _ _ => by rw [hU, hH])⟩⟩
theorem preXV {D : va_G} {T : Nat → ClassId} {N0 : Nat} {s : State} {H : Heap} {av : List Value} {P : Heap → Prop} {b ci : Nat} {fs : List Value} {q : vw_C} (hK : KB D T s) (hKX : KX N0 s) (hH : s.heap = H) (h : pAt D H b (eO ci fs)) (hc : vwCl[ci]? = some q) (hP : P H) : PreV s H q.1 b (cX D T N0 (.ref b :: av) P) av := ⟨cX.blind, recvO hK h hc, fun U hU hW => ⟨rfl, hK.warm hW, by rw [hU]; exact hP, hKX.1.warm hW, hKX.2.kept hW.alike (fun a _ _ => by rw [hU, hH])⟩⟩
set_option maxHeartbeats 4000000 in
set_option maxRecDepth 100000 in
/-- checkSpan, where it refuses -/
theorem thX3_checkSpan (l : Launch) (hlt : l.stackTraces = false) (D : va_G) (T : Nat → ClassId) (N0 : Nat) (x y z : Int32) (hbad : (x < 0 ∨ nI 100 < y ∨ y < x) ∨ (z < 0 ∨ ¬ z ≤ nI 3)) : vx_Met l yX3_checkSpan wsX3_checkSpan ({ frames := 7, cells := 1, slots := 6, locals := 103 }) (cX D T N0 [.int x, .int y, .int z] (fun H => True)) (va_Qv (fun (_ : Unit) => False) (fun _ _ => True) (fun q : Nat => N0 ≤ q)) (xQ IAE (fun q : Nat => N0 ≤ q)) 1 6 (fun q : Nat => N0 ≤ q) := by
  refine vx_ofW (cc := cX3_checkSpan) (maxL := 3) (ret := none) (by decide) rfl ?_
  intro p e s m args below meth c s₁ B hml hex hv9
  obtain ⟨rfl, hK, hw, hKX⟩ := hv9
  have hx := B.exec
  have hb := B.bytes
  have hts := atoms_spec (ws := wsX3_checkSpan) B.pre
  have hown : s.vm.findClass RX3 = some m.cls := findClass_of_methodNamed B.named
  have hlocks := B.notSynchronized
  have hS : va_S (fun q : Nat => N0 ≤ q) s.heap s.heap [] := va_S.rf
  have hl := lv_entry ([.int x, .int y, .int z]) (n := 3) (Nat.le_of_ble_eq_true rfl)
  rw [lg_entry_eq]
  generalize (lg_sl ([.int x, .int y, .int z]) ++ List.replicate (3 - (lg_sl ([.int x, .int y, .int z])).length) Slot.unset).toArray = ls at hl ⊢
  have hl : lv_has ls 3 [(0, .int x), (1, .int y), (2, .int z)] := hl
  have hend : W p l e (headSpec wsX3_checkSpan { frames := 7, cells := 1, slots := 6, locals := 103 }).room s m #[Value.int x, Value.int y, Value.int z] below meth c s.heap [] 0 0 (vx_MQ below (va_Qv (fun (_ : Unit) => False) (fun _ _ => True) (fun q : Nat => N0 ≤ q)) (xQ IAE (fun q : Nat => N0 ≤ q)) #[Value.int x, Value.int y, Value.int z] s 1 6 (fun q : Nat => N0 ≤ q)) (F0 m 15 ls []) :=
    q_throwI hx hb hlt hts (by decide +kernel) hown hKX 222 "a or b is not 0 to 100, or b is below a" (by decide +kernel) hS (hl.1.trans hml.symm) dX3_checkSpan_15 dX3_checkSpan_18 dX3_checkSpan_19 dX3_checkSpan_21 dX3_checkSpan_24 (fun z hz => absurd (hex z hz) (fun f => f)) (Nat.le_of_ble_eq_true rfl) (Nat.le_of_ble_eq_true rfl) (Nat.le_of_ble_eq_true rfl) (Nat.le_of_ble_eq_true rfl) hlocks (fun z hz => absurd hz List.not_mem_nil) (Nat.le_of_ble_eq_true rfl) (Nat.le_of_ble_eq_true rfl)
  refine lv_iload_n hx hb dX3_checkSpan_0 rfl (lv_at hl 0 rfl) ?_
  refine lv_if_lt (tgt := 15) hx hb dX3_checkSpan_1 (by decide) (fun c1 => hend) (fun c1 => ?_)
  refine lv_iload_n hx hb dX3_checkSpan_4 rfl (lv_at hl 1 rfl) ?_
  refine lv_bipush (v := nI 100) hx hb dX3_checkSpan_5 (by decide) ?_
  refine lv_icmp_gt (tgt := 15) hx hb dX3_checkSpan_7 (by decide) (fun c2 => hend) (fun c2 => ?_)
  refine lv_iload_n hx hb dX3_checkSpan_10 rfl (lv_at hl 1 rfl) ?_
  refine lv_iload_n hx hb dX3_checkSpan_11 rfl (lv_at hl 0 rfl) ?_
  refine lv_icmp_ge (tgt := 25) hx hb dX3_checkSpan_12 (by decide) (fun c3 => ?_) (fun c3 => hend)
  have hbad2 : z < 0 ∨ ¬ z ≤ nI 3 := hbad.resolve_left (fun h9 => h9.elim c1 (fun h9 => h9.elim c2 (fun h9 => absurd c3 (Int32.not_le.mpr h9))))
  refine lv_iload_n hx hb dX3_checkSpan_25 rfl (lv_at hl 2 rfl) ?_
  refine lv_iconst (v := nI 3) hx hb dX3_checkSpan_26 (by decide) ?_
  exact vx_callv (vx_runS (As := [.int z, .int (nI 3)]) (rest := []) ⟨hx, hb, hml, hown, hts⟩ (thX3_checkChoice l hlt D T N0 z (nI 3) hbad2) (va_cwS 2 hts gX3_checkSpan_X3_checkChoice rfl rfl rfl (by decide +kernel) ⟨Nat.le_of_ble_eq_true rfl, Nat.le_of_ble_eq_true rfl⟩) (preX hK hKX rfl trivial) rfl rfl hl.1 rfl (lv_room (Nat.le_of_ble_eq_true rfl)) dX3_checkSpan_27 ⟨Nat.le_of_ble_eq_true rfl, Nat.le_of_ble_eq_true rfl⟩) hS (fun q _ h9 => h9) (fun q h9 => h9) (fun q _ h9 => h9) (fun E ce q9 u t H1 locs1 ht hvm _ hE hz hk hS hce hcv hcl => by
    subst hE
    exact vx_out (fun z hz => absurd (hex z hz) (fun f => f)) hlocks hce hcv hcl (fun t ht _ => ⟨(), trivial, rfl, hS.F ht⟩) hS.2.2 (Nat.le_of_ble_eq_true rfl) (Nat.le_of_ble_eq_true rfl)) (fun u t H1 locs1 ht hvm hf => hf.elim)
set_option maxHeartbeats 4000000 in
set_option maxRecDepth 100000 in
/-- setOrNull outside the row -/
theorem nlX3_setOrNull (l : Launch) (D : va_G) (T : Nat → ClassId) (ad : Nat → Nat) (F V : Nat → Nat → Int32) (sr : SRs) (C : Nat → Int32) (x : Int32) (hbad : x < 0 ∨ nI 8 ≤ x) : Met l yX3_setOrNull wsX3_setOrNull ({ frames := 0, cells := 0, slots := 0, locals := 0 }) (cP D T [.ref (ad 0), .int x] (fun H => PLW D T ad F V sr C H)) (va_Sr (fun _ => True) (fun _ => .null)) 0 0 (fun _ => False) := by
  refine Met.ofW (cc := cX3_setOrNull) (maxL := 2) (ret := (some (.object "PuddingstoneLine$GrainSet"))) (by decide) rfl ?_
  intro p e s m args below meth c s₁ B hml hv9
  obtain ⟨rfl, hK, hw⟩ := hv9
  have hx := B.exec
  have hb := B.bytes
  have hr := B.returns
  have hts := atoms_spec (ws := wsX3_setOrNull) B.pre
  have hown : s.vm.findClass RX3 = some m.cls := findClass_of_methodNamed B.named
  have hin3 : ∀ w ∈ wsX30, w ∈ wsX3_setOrNull := by decide +kernel
  have hl := lv_entry ([.ref (ad 0), .int x]) (n := 2) (Nat.le_of_ble_eq_true rfl)
  rw [lg_entry_eq]
  generalize (lg_sl ([.ref (ad 0), .int x]) ++ List.replicate (2 - (lg_sl ([.ref (ad 0), .int x])).length) Slot.unset).toArray = ls at hl ⊢
  have hl : lv_has ls 2 [(0, .ref (ad 0)), (1, .int x)] := hl
  refine lv_iload_n hx hb dX3_setOrNull_0 rfl (lv_at hl 1 rfl) ?_
  refine lv_if_lt (tgt := 22) hx hb dX3_setOrNull_1 (by decide) (fun c1 => ?_) (fun c1 => ?_)
  · refine lv_null hx hb dX3_setOrNull_22 ?_
    exact W.aret (v := .null) hx hb hr (Or.inl ⟨_, rfl⟩) (Or.inl rfl) (fun t ht _ => ⟨0, rfl, trivial, ht⟩) (fun q hq => absurd hq List.not_mem_nil) dX3_setOrNull_23
  · refine lv_iload_n hx hb dX3_setOrNull_4 rfl (lv_at hl 1 rfl) ?_
    refine lv_aload_n hx hb dX3_setOrNull_5 rfl (lv_at hl 0 rfl) ?_
    refine q_get (v := .ref (ad 1)) hx hb hts hin3 hown hK hw.o rfl 0 (by decide) (hts (.fieldLink RX3 11 "PuddingstoneLine" "sets" "[LPuddingstoneLine$GrainSet;") (by decide +kernel)) (fun _ h9 => h9) rfl dX3_setOrNull_6 ?_
    refine q_len hx hb hK 2 rfl hw.sa dX3_setOrNull_9 ?_
    refine lv_icmp_ge (tgt := 22) hx hb dX3_setOrNull_10 (by decide) (fun c10 => ?_) (fun c10 => absurd hbad (fun h9 => h9.elim c1 c10))
    refine lv_null hx hb dX3_setOrNull_22 ?_
    exact W.aret (v := .null) hx hb hr (Or.inl ⟨_, rfl⟩) (Or.inl rfl) (fun t ht _ => ⟨0, rfl, trivial, ht⟩) (fun q hq => absurd hq List.not_mem_nil) dX3_setOrNull_23
set_option maxHeartbeats 4000000 in
set_option maxRecDepth 100000 in
/-- setAt, where it refuses -/
theorem thX3_setAt (l : Launch) (hlt : l.stackTraces = false) (D : va_G) (T : Nat → ClassId) (N0 : Nat) (ad : Nat → Nat) (F V : Nat → Nat → Int32) (sr : SRs) (C : Nat → Int32) (x : Int32) (hbad : x < 0 ∨ nI 8 ≤ x) : vx_Met l yX3_setAt wsX3_setAt ({ frames := 6, cells := 1, slots := 6, locals := 82 }) (cX D T N0 [.ref (ad 0), .int x] (fun H => PLW D T ad F V sr C H)) (va_Qv (fun (_ : Unit) => False) (fun _ _ => True) (fun q : Nat => N0 ≤ q)) (xQ IOB (fun q : Nat => N0 ≤ q)) 1 6 (fun q : Nat => N0 ≤ q) := by
  refine vx_ofW (cc := cX3_setAt) (maxL := 3) (ret := (some (.object "PuddingstoneLine$GrainSet"))) (by decide) rfl ?_
  intro p e s m args below meth c s₁ B hml hex hv9
  obtain ⟨rfl, hK, hw, hKX⟩ := hv9
  have hx := B.exec
  have hb := B.bytes
  have hts := atoms_spec (ws := wsX3_setAt) B.pre
  have hown : s.vm.findClass RX3 = some m.cls := findClass_of_methodNamed B.named
  have hlocks := B.notSynchronized
  have hS : va_S (fun q : Nat => N0 ≤ q) s.heap s.heap [] := va_S.rf
  have hl := lv_entry ([.ref (ad 0), .int x]) (n := 3) (Nat.le_of_ble_eq_true rfl)
  rw [lg_entry_eq]
  generalize (lg_sl ([.ref (ad 0), .int x]) ++ List.replicate (3 - (lg_sl ([.ref (ad 0), .int x])).length) Slot.unset).toArray = ls at hl ⊢
  have hl : lv_has ls 3 [(0, .ref (ad 0)), (1, .int x)] := hl
  refine lv_aload_n hx hb dX3_setAt_0 rfl (lv_at hl 0 rfl) ?_
  refine lv_iload_n hx hb dX3_setAt_1 rfl (lv_at hl 1 rfl) ?_
  refine va_csr (ad := fun _ => .null) (va_runV (As := [.int x]) (rest := []) ⟨hx, hb, hml, hown, hts⟩ (nlX3_setOrNull l D T ad F V sr C x hbad) (cwV 1 hts gX3_setAt_X3_setOrNull rfl rfl rfl (by decide +kernel) ⟨Nat.le_of_ble_eq_true rfl, Nat.le_of_ble_eq_true rfl⟩) (preV hK hw.o rfl hw) rfl rfl hl.1 rfl (lv_room (Nat.le_of_ble_eq_true rfl)) dX3_setAt_2 ⟨Nat.le_of_ble_eq_true rfl, Nat.le_of_ble_eq_true rfl⟩).run (fun r1 hr1 => ?_)
  refine lv_astore_nN (lv' := [(2, .null), (0, .ref (ad 0)), (1, .int x)]) hx hb dX3_setAt_5 rfl hl (by decide) rfl (fun ls hl => ?_)
  refine lv_aload_nN hx hb dX3_setAt_6 rfl (lv_at hl 0 rfl) ?_
  refine lv_ifnonnullN hx hb dX3_setAt_7 ?_
  exact q_throwB hx hb hlt hts (by decide +kernel) hown hKX 214 "there is no such SET" (by decide +kernel) hS (hl.1.trans hml.symm) dX3_setAt_10 dX3_setAt_13 dX3_setAt_14 dX3_setAt_16 dX3_setAt_19 (fun z hz => absurd (hex z hz) (fun f => f)) (Nat.le_of_ble_eq_true rfl) (Nat.le_of_ble_eq_true rfl) (Nat.le_of_ble_eq_true rfl) (Nat.le_of_ble_eq_true rfl) hlocks (fun z hz => absurd hz List.not_mem_nil) (Nat.le_of_ble_eq_true rfl) (Nat.le_of_ble_eq_true rfl)
set_option maxHeartbeats 4000000 in
set_option maxRecDepth 100000 in
/-- functionAt, where it refuses -/
theorem thX3_functionAt (l : Launch) (hlt : l.stackTraces = false) (D : va_G) (T : Nat → ClassId) (N0 : Nat) (ad : Nat → Nat) (F V : Nat → Nat → Int32) (sr : SRs) (C : Nat → Int32) (x : Int32) (hbad : x < 0 ∨ nI 5 ≤ x) : vx_Met l yX3_functionAt wsX3_functionAt ({ frames := 6, cells := 1, slots := 6, locals := 82 }) (cX D T N0 [.ref (ad 0), .int x] (fun H => PLW D T ad F V sr C H)) (va_Qv (fun (_ : Unit) => False) (fun _ _ => True) (fun q : Nat => N0 ≤ q)) (xQ IOB (fun q : Nat => N0 ≤ q)) 1 6 (fun q : Nat => N0 ≤ q) := by
  refine vx_ofW (cc := cX3_functionAt) (maxL := 3) (ret := (some (.object "PuddingstoneLine$StepFunction"))) (by decide) rfl ?_
  intro p e s m args below meth c s₁ B hml hex hv9
  obtain ⟨rfl, hK, hw, hKX⟩ := hv9
  have hx := B.exec
  have hb := B.bytes
  have hts := atoms_spec (ws := wsX3_functionAt) B.pre
  have hown : s.vm.findClass RX3 = some m.cls := findClass_of_methodNamed B.named
  have hlocks := B.notSynchronized
  have hS : va_S (fun q : Nat => N0 ≤ q) s.heap s.heap [] := va_S.rf
  have hl := lv_entry ([.ref (ad 0), .int x]) (n := 3) (Nat.le_of_ble_eq_true rfl)
  rw [lg_entry_eq]
  generalize (lg_sl ([.ref (ad 0), .int x]) ++ List.replicate (3 - (lg_sl ([.ref (ad 0), .int x])).length) Slot.unset).toArray = ls at hl ⊢
  have hl : lv_has ls 3 [(0, .ref (ad 0)), (1, .int x)] := hl
  have hin3 : ∀ w ∈ wsX30, w ∈ wsX3_functionAt := by decide +kernel
  have hend : W p l e (headSpec wsX3_functionAt { frames := 6, cells := 1, slots := 6, locals := 82 }).room s m #[Value.ref (ad 0), Value.int x] below meth c s.heap [] 0 0 (vx_MQ below (va_Qv (fun (_ : Unit) => False) (fun _ _ => True) (fun q : Nat => N0 ≤ q)) (xQ IOB (fun q : Nat => N0 ≤ q)) #[Value.ref (ad 0), Value.int x] s 1 6 (fun q : Nat => N0 ≤ q)) (F0 m 22 ls []) := by
    refine lv_null hx hb dX3_functionAt_22 ?_
    refine lv_astore_nN (lv' := [(2, .null), (0, .ref (ad 0)), (1, .int x)]) hx hb dX3_functionAt_23 rfl hl (by decide) rfl (fun ls hl => ?_)
    refine lv_aload_nN hx hb dX3_functionAt_24 rfl (lv_at hl 0 rfl) ?_
    refine lv_ifnonnullN hx hb dX3_functionAt_25 ?_
    exact q_throwB hx hb hlt hts (by decide +kernel) hown hKX 216 "there is no such FUNCTION" (by decide +kernel) hS (hl.1.trans hml.symm) dX3_functionAt_28 dX3_functionAt_31 dX3_functionAt_32 dX3_functionAt_34 dX3_functionAt_37 (fun z hz => absurd (hex z hz) (fun f => f)) (Nat.le_of_ble_eq_true rfl) (Nat.le_of_ble_eq_true rfl) (Nat.le_of_ble_eq_true rfl) (Nat.le_of_ble_eq_true rfl) hlocks (fun z hz => absurd hz List.not_mem_nil) (Nat.le_of_ble_eq_true rfl) (Nat.le_of_ble_eq_true rfl)
  refine lv_iload_n hx hb dX3_functionAt_0 rfl (lv_at hl 1 rfl) ?_
  refine lv_if_lt (tgt := 22) hx hb dX3_functionAt_1 (by decide) (fun c1 => hend) (fun c1 => ?_)
  refine lv_iload_n hx hb dX3_functionAt_4 rfl (lv_at hl 1 rfl) ?_
  refine lv_aload_n hx hb dX3_functionAt_5 rfl (lv_at hl 0 rfl) ?_
  refine q_get (v := .ref (ad 2)) hx hb hts hin3 hown hK hw.o rfl 1 (by decide) (hts (.fieldLink RX3 17 "PuddingstoneLine" "functions" "[LPuddingstoneLine$StepFunction;") (by decide +kernel)) (fun _ h9 => h9) rfl dX3_functionAt_6 ?_
  refine q_len hx hb hK 3 rfl hw.fa dX3_functionAt_9 ?_
  exact lv_icmp_ge (tgt := 22) hx hb dX3_functionAt_10 (by decide) (fun c10 => hend) (fun c10 => absurd hbad (fun h9 => h9.elim c1 c10))
