set_option maxHeartbeats 4000000 in
set_option maxRecDepth 100000 in
theorem conX4_thrown (l : Launch) (D : va_G) (T : Nat → ClassId) (m0 : Nat) (th : Int32) (vs vv : Value) : Met l yX4_thrown wsX4_thrown ({ frames := 0, cells := 0, slots := 0, locals := 0 }) (cP D T [.ref m0] (fun H => pAt D H m0 (eO 4 [.int th, vs, vv]))) (vp_Si (fun r => r = th)) 0 0 (fun _ => False) := by
  refine Met.ofW (cc := cX4_thrown) (maxL := 1) (ret := (some .int)) (by decide) rfl ?_
  intro p e s m args below meth c s₁ B hml hv9
  obtain ⟨rfl, hK, hh⟩ := hv9
  have hx := B.exec
  have hb := B.bytes
  have hr := B.returns
  have hts := atoms_spec (ws := wsX4_thrown) B.pre
  have hown : s.vm.findClass RX4 = some m.cls := findClass_of_methodNamed B.named
  have hlocks := B.notSynchronized
  have hin4 : ∀ w ∈ wsX40, w ∈ wsX4_thrown := by decide +kernel
  have hl := lv_entry ([.ref m0]) (n := 1) (Nat.le_of_ble_eq_true rfl)
  rw [lg_entry_eq]
  generalize (lg_sl ([.ref m0]) ++ List.replicate (1 - (lg_sl ([.ref m0])).length) Slot.unset).toArray = ls at hl ⊢
  have hl : lv_has ls 1 [(0, .ref m0)] := hl
  refine lv_aload_n hx hb dX4_thrown_0 rfl (lv_at hl 0 rfl) ?_
  refine q_get (v := .int th) hx hb hts hin4 hown hK hh rfl 0 (by decide) (hts (.fieldLink RX4 19 "PuddingstoneLineModel" "thrown" "I") (by decide +kernel)) (fun _ h9 => h9) rfl dX4_thrown_1 ?_
  exact W.iret hx hb hr (fun t ht _ => ⟨th, rfl, rfl, ht⟩) (fun q hq => absurd hq List.not_mem_nil) dX4_thrown_4
set_option maxHeartbeats 4000000 in
set_option maxRecDepth 100000 in
theorem conX4_no (l : Launch) (D : va_G) (T : Nat → ClassId) (m0 : Nat) (th x : Int32) (vs vv : Value) : Met l yX4_no wsX4_no ({ frames := 0, cells := 0, slots := 0, locals := 0 }) (cP D T [.ref m0, .int x] (fun H => pAt D H m0 (eO 4 [.int th, vs, vv]))) (va_Qi (fun (r : Int32) (_ : Unit) => r = nI 0) (fun _ t => pAt D t.heap m0 (eO 4 [.int x, vs, vv])) (fun q : Nat => q = m0)) 0 0 (fun q : Nat => q = m0) := by
  refine Met.ofW (cc := cX4_no) (maxL := 2) (ret := (some .int)) (by decide) rfl ?_
  intro p e s m args below meth c s₁ B hml hv9
  obtain ⟨rfl, hK, hh⟩ := hv9
  have hx := B.exec
  have hb := B.bytes
  have hr := B.returns
  have hts := atoms_spec (ws := wsX4_no) B.pre
  have hown : s.vm.findClass RX4 = some m.cls := findClass_of_methodNamed B.named
  have hlocks := B.notSynchronized
  have hin4 : ∀ w ∈ wsX40, w ∈ wsX4_no := by decide +kernel
  have hS : va_S (fun q : Nat => q = m0) s.heap s.heap [] := va_S.rf
  have hl := lv_entry ([.ref m0, .int x]) (n := 2) (Nat.le_of_ble_eq_true rfl)
  rw [lg_entry_eq]
  generalize (lg_sl ([.ref m0, .int x]) ++ List.replicate (2 - (lg_sl ([.ref m0, .int x])).length) Slot.unset).toArray = ls at hl ⊢
  have hl : lv_has ls 2 [(0, .ref m0), (1, .int x)] := hl
  refine lv_aload_n hx hb dX4_no_0 rfl (lv_at hl 0 rfl) ?_
  refine lv_iload_n hx hb dX4_no_1 rfl (lv_at hl 1 rfl) ?_
  refine q_put (v := .int x) hx hb hts hin4 tyX4 tyX4_ok nmX4 hown hK hh rfl 0 (by decide) (hts (.fieldLink RX4 19 "PuddingstoneLineModel" "thrown" "I") (by decide +kernel)) (fun _ h9 => h9) rfl rfl rfl (Nat.le_of_ble_eq_true rfl) hS rfl dX4_no_2 (fun H1 locs1 hh o1 hS => ?_)
  refine lv_iconst (v := nI 0) hx hb dX4_no_5 (by decide) ?_
  exact W.iret hx hb hr (fun t ht _ => ⟨⟨nI 0, (), rfl, rfl, by dsimp only; rw [ht]; exact hh⟩, hS.F ht⟩) hS.2.2 dX4_no_6
