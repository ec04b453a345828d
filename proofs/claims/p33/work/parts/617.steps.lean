/-! THE LAW: the steps with one Stones -/
set_option maxHeartbeats 40000000 in
set_option maxRecDepth 100000 in
theorem seg_steps {p : Program} {l : Launch} {e : Env} {s : State} {m : MethodId} {args : Array Value} {below : List Frame} {meth : Method} {c : Code} {Q : State → Prop} {D : va_G} {T : Nat → ClassId} {A : Nat → Prop} {H : Heap} {locs : List Loc} {cells slots : Nat} {ls : Array Slot} (hc : LCx p s m args c D T) {ad : Nat → Nat} {o sc N : Nat} {sf : Nat → Int32} (hN : N < 2 ^ 30) (hA : ∀ z : Nat, o ≤ z → A z) (hcm : cells + 12000 ≤ 600086) (hsm : slots + 600000 ≤ 7301442) (hS : va_S A s.heap H locs) {d : Nat} {b ti : Nat} (hd : d + 2000 < 2 ^ 29) (hst : ST D T ad o sc N sf d H) (hl : lv_has ls 17 [(3, .ref (ad 0)), (2, .ref o), (1, .int (nI ti)), (0, .ref b)]) (kk1147 : ∀ (H1 : Heap) (locs1 : List Loc) (ls1 : Array Slot), va_S A s.heap H1 locs1 → lv_has ls1 17 [(1, .int (nI ti)), (0, .ref b)] → True → W p l e room_1 s m args below meth c H1 locs1 (cells + 4 * 3000) (slots + 4 * 150000) Q (F0 m 1147 ls1 [])) : W p l e room_1 s m args below meth c H locs cells slots Q (F0 m 37 ls []) := by
  have hc9 := hc
  obtain ⟨hx, hb, hml, hown, hts, hK⟩ := hc
  refine lv_iconst (v := nI 0) hx hb dL_law_37 (by decide) ?_
  refine lv_istore (lv' := [(4, .int (nI 0)), (3, .ref (ad 0)), (2, .ref o), (1, .int (nI ti)), (0, .ref b)]) hx hb dL_law_38 hl (by decide) rfl (fun ls hl => ?_)
  refine q_forg (fun (i : Nat) (H : Heap) (locs : List Loc) (ls : Array Slot) => va_S A s.heap H locs ∧ lv_has ls 17 [(4, .int (nI i)), (3, .ref (ad 0)), (2, .ref o), (1, .int (nI ti)), (0, .ref b)] ∧ ST D T ad o sc N sf (d + 100 * i) H) 4 3000 150000 ?_ ?_ ?_
  · skip
    exact ⟨hS, lv_sub hl [0, 1, 2, 3, 4] rfl, (by exact hst.le (by omega))⟩
  · skip
    intro i H locs ls hi9 hin9 hnext
    obtain ⟨hS, hl, hst⟩ := hin9
    refine lv_iload hx hb dL_law_40 (lv_at hl 0 rfl) ?_
    refine lv_iconst (v := nI 4) hx hb dL_law_42 (by decide) ?_
    refine lv_icmp_ge (tgt := 1147) hx hb dL_law_43 (by decide) (fun c43 => ?_) (fun c43 => ?_)
    · skip
      have c43 : 4 ≤ i := (nc_le (a := 4) (b := i) (by omega) (by omega)).mp c43
      omega
    · skip
      have c43 : ¬ (4 ≤ i) := fun q9 => c43 ((nc_le (a := 4) (b := i) (by omega) (by omega)).mpr q9)
      refine seg_step hc9 hN hA (by omega) (by omega) hS (by omega) hst (lv_sub hl [0, 1, 2, 3, 4] rfl) (fun H1 locs1 ls hS hl hst => ?_)
      refine lv_iinc (v := nI (i + 1)) (lv' := [(4, .int (nI (i + 1))), (3, .ref (ad 0)), (2, .ref o), (1, .int (nI ti)), (0, .ref b)]) hx hb dL_law_1141 hl (k := 0) rfl (inc_1 _) (by decide) rfl (fun ls hl => ?_)
      refine lv_goto (tgt := 40) hx hb dL_law_1144 (by decide) ?_
      exact W.widen (by omega) (by omega) (hnext _ _ _ ⟨hS, lv_sub hl [0, 1, 2, 3, 4] rfl, (by exact hst.le (by omega))⟩)
  · skip
    intro H locs ls hin9
    obtain ⟨hS, hl, hst⟩ := hin9
    refine lv_iload hx hb dL_law_40 (lv_at hl 0 rfl) ?_
    refine lv_iconst (v := nI 4) hx hb dL_law_42 (by decide) ?_
    refine lv_icmp_ge (tgt := 1147) hx hb dL_law_43 (by decide) (fun c43 => ?_) (fun c43 => ?_)
    · skip
      have c43 : 4 ≤ 4 := (nc_le (a := 4) (b := 4) (by omega) (by omega)).mp c43
      exact kk1147 H locs ls hS (lv_sub hl [3, 4] rfl) trivial
    · skip
      have c43 : ¬ (4 ≤ 4) := fun q9 => c43 ((nc_le (a := 4) (b := 4) (by omega) (by omega)).mpr q9)
      omega
