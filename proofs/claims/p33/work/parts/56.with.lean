/-! STONES: A ROW OF SPANS WITH ONE MORE -/
theorem with_e {D : va_G} {H : Heap} {r n mo : Nat} {cA : ClassId} {ads : Nat → Nat} (h : pAt D H r (eR cA (n + 1) (fun k => if k = n then some mo else if k < n then some (ads k) else none))) : pAt D H r (eR cA (n + 1) (fun k => some (if k = n then mo else ads k))) := by
  refine h.outR fun k hk => ?_
  by_cases e : k = n
  · rw [if_pos e, if_pos e]
  · rw [if_neg e, if_neg e, if_pos (by omega)]
set_option maxHeartbeats 4000000 in
set_option maxRecDepth 100000 in
theorem conX4_with (l : Launch) (D : va_G) (T : Nat → ClassId) (sz w q mo x y : Nat) (ads : Nat → Nat) (n : Nat) (a b : Nat → Nat) (hn : n ≤ 101) (hwm : w ≤ mo) : Met l yX4_with wsX4_with ({ frames := 1, cells := 1, slots := 102, locals := 60 }) (cP D T [.ref q, .ref mo] (fun H => H.size = sz ∧ ILA D T w q ads n a b H ∧ pAt D H mo (eN (T 1) 2 (pr2 x y)))) (va_Qr (fun (_ : Unit) => True) (fun _ r t => r = sz ∧ t.heap.size = sz + 1 ∧ ILA D T w r (fun k => if k = n then mo else ads k) (n + 1) (updN a n x) (updN b n y) t.heap) (fun z : Nat => sz ≤ z)) 1 102 (fun z : Nat => sz ≤ z) := by
  refine Met.ofW (cc := cX4_with) (maxL := 3) (ret := (some (.array (.array .int)))) (by decide) rfl ?_
  intro p e s m args below meth c s₁ B hml hv9
  obtain ⟨rfl, hK, hsz, hil, hmo⟩ := hv9
  have hx := B.exec
  have hb := B.bytes
  have hr := B.returns
  have hts := atoms_spec (ws := wsX4_with) B.pre
  have hown : s.vm.findClass RX4 = some m.cls := findClass_of_methodNamed B.named
  have hlocks := B.notSynchronized
  generalize hAe : (fun z : Nat => sz ≤ z) = A
  have hA : ∀ z : Nat, s.heap.size ≤ z → A z := fun z h9 => by subst hAe; show sz ≤ z; omega
  have hS : va_S A s.heap s.heap [] := va_S.rf
  have hl := lv_entry ([.ref q, .ref mo]) (n := 3) (Nat.le_of_ble_eq_true rfl)
  rw [lg_entry_eq]
  generalize (lg_sl ([.ref q, .ref mo]) ++ List.replicate (3 - (lg_sl ([.ref q, .ref mo])).length) Slot.unset).toArray = ls at hl ⊢
  have hl : lv_has ls 3 [(0, .ref q), (1, .ref mo)] := hl
  have hold : ∀ z : Nat, z < s.heap.size → s.heap[z]? = s.heap[z]? := fun _ _ => rfl
  refine lv_aload_n hx hb dX4_with_0 rfl (lv_at hl 0 rfl) ?_
  refine q_len hx hb hK 5 rfl (hil.old hold).1 dX4_with_1 ?_
  refine lv_iconst (v := nI 1) hx hb dX4_with_2 (by decide) ?_
  refine lv_iadd hx hb dX4_with_3 ?_
  rw [nI_add]
  obtain ⟨b1, hb1⟩ : ∃ z : Nat, z = s.heap.size := ⟨_, rfl⟩
  have ln_b1 : s.heap.size ≤ b1 := by have h8 := hS.1; omega
  refine q_newqa hx hb hown (hts (.classLink RX4 44 "[I") (by decide +kernel)) hK (n + 1) rfl (by omega) (by show _ ≤ 1; omega) (by show _ ≤ 102; omega) hS dX4_with_4 (fun H1 hw9 z1 o1 hS => ?_)
  rw [← hb1] at hw9 ⊢
  have nb1 := hw9
  have sb1 : H1.size = b1 + 1 := by omega
  replace hold := fun (z : Nat) (hz : z < s.heap.size) => (o1 z (by omega)).trans (hold z hz)
  refine lv_astore_n (lv' := [(2, .ref b1), (0, .ref q), (1, .ref mo)]) hx hb dX4_with_7 rfl hl (by decide) rfl (fun ls hl => ?_)
  refine lv_aload_n hx hb dX4_with_8 rfl (lv_at hl 1 rfl) ?_
  refine lv_iconst (v := nI 0) hx hb dX4_with_9 (by decide) ?_
  refine lv_aload_n hx hb dX4_with_10 rfl (lv_at hl 0 rfl) ?_
  refine lv_iconst (v := nI 0) hx hb dX4_with_11 (by decide) ?_
  refine lv_aload_n hx hb dX4_with_12 rfl (lv_at hl 1 rfl) ?_
  refine q_len hx hb hK 5 rfl (hil.old hold).1 dX4_with_13 ?_
  refine q_copyA hx hb (by rw [hml]; exact hl.1.symm) hown (hts (.methodLink RX4 45 arraycopyName) (by decide +kernel)) (hts (.native arraycopyName) (by decide +kernel)) (hts (.static arraycopyName) (by decide +kernel)) (hts (.initialized "java/lang/System") (by decide +kernel)) hK (hil.old hold).1 nb1 (by omega) (by omega) (fun i hi => ⟨_, _, rfl, ((hil.old hold).2 i hi).2⟩) hS (hA _ (by omega)) (Nat.le_of_ble_eq_true rfl) (Nat.le_of_ble_eq_true rfl) dX4_with_14 (fun H1 locs1 hw9 hz oq hS => ?_)
  have nb1 := hw9
  replace hold := fun (z : Nat) (hz : z < s.heap.size) => (oq z (by omega)).trans (hold z hz)
  refine lv_aload_n hx hb dX4_with_17 rfl (lv_at hl 0 rfl) ?_
  refine lv_aload_n hx hb dX4_with_18 rfl (lv_at hl 1 rfl) ?_
  refine q_len hx hb hK 5 rfl (hil.old hold).1 dX4_with_19 ?_
  refine lv_aload_n hx hb dX4_with_20 rfl (lv_at hl 2 rfl) ?_
  refine q_aasta hx hb hK 5 1 (ty := .int) rfl rfl hK.2.1.2.2.2.1 nb1 (hmo.kept (hold _ hmo.lt)) n rfl (by omega) (by omega) (hK.1.2 1 _ rfl).2 hS (hA _ (by omega)) dX4_with_21 (fun H1 locs1 hw9 hz oq hS => ?_)
  have nb1 := hw9
  replace hold := fun (z : Nat) (hz : z < s.heap.size) => (oq z (by omega)).trans (hold z hz)
  refine lv_aload_n hx hb dX4_with_22 rfl (lv_at hl 0 rfl) ?_
  refine W.widen (k := 1) (n := 102) (by first | omega | decide) (by first | omega | decide) ?_
  exact W.aret (v := .ref b1) hx hb hr (Or.inr ⟨_, rfl⟩) (Or.inr ⟨_, rfl⟩) (fun t ht _ => ⟨⟨(), b1, rfl, trivial, by dsimp only; rw [ht]; exact ⟨by omega, by omega, hil.snoc hwm hmo (with_e nb1) hold⟩⟩, hS.F ht⟩) hS.2.2 dX4_with_23
