/-! THE MODEL'S PUBLIC METHODS ON A FRESH OBJECT: what they throw (tw_..) and answer -/
def dMs (x : Int64) : Int64 := itr (fun w x => x * 31 + (onM w).toInt64) 6 x
def dMf (x : Int64) : Int64 := dgC (itr (fun w x => x * 31 + (fnM w).toInt64) 5 x) 201
def dMt (d : Int64) : Int64 := (((d * 31 + (nI 0).toInt64) * 31 + (nI 0).toInt64) * 31 + (nI 0).toInt64) * 31 + (nI 0).toInt64
def dMa (n : Nat) : Int64 := itr (fun _ x => dMs x) n 965
def dMb (n : Nat) : Int64 := itr (fun _ x => dMf x) n (dMa 8)
def dMv : Int64 := dgC (dMt (dMb 5)) 8
theorem dMv_e : dgC (dMt (dMb 5)) 8 = dMv := by unfold dMv; exact Eq.refl _
theorem dMt_e (d : Int64) : (((d * 31 + (nI 0).toInt64) * 31 + (nI 0).toInt64) * 31 + (nI 0).toInt64) * 31 + (nI 0).toInt64 = dMt d := rfl
theorem dgC_0 (d : Int64) : dgC d 0 = d := rfl
theorem dMa_0 : (965 : Int64) = dMa 0 := rfl
theorem dMb_0 : dMa 8 = dMb 0 := by
  unfold dMb
  rw [itr_0]
theorem dMs_e (x : Int64) : dMs x = (((((x * 31 + (onM 0).toInt64) * 31 + (onM 1).toInt64) * 31 + (onM 2).toInt64) * 31 + (onM 3).toInt64) * 31 + (onM 4).toInt64) * 31 + (onM 5).toInt64 := by
  unfold dMs
  simp only [itr_s, itr_0]
theorem dMf_e (x : Int64) : dMf x = dgC (((((x * 31 + (fnM 0).toInt64) * 31 + (fnM 1).toInt64) * 31 + (fnM 2).toInt64) * 31 + (fnM 3).toInt64) * 31 + (fnM 4).toInt64) 201 := by
  unfold dMf
  simp only [itr_s, itr_0]
theorem dMa_s (n : Nat) : dMa (n + 1) = (((((dMa n * 31 + (onM 0).toInt64) * 31 + (onM 1).toInt64) * 31 + (onM 2).toInt64) * 31 + (onM 3).toInt64) * 31 + (onM 4).toInt64) * 31 + (onM 5).toInt64 := by
  unfold dMa
  rw [itr_s, dMs_e]
theorem dMb_s (n : Nat) : dMb (n + 1) = dgC (((((dMb n * 31 + (fnM 0).toInt64) * 31 + (fnM 1).toInt64) * 31 + (fnM 2).toInt64) * 31 + (fnM 3).toInt64) * 31 + (fnM 4).toInt64) 201 := by
  unfold dMb
  rw [itr_s, dMf_e]
def tw_digest : Int32 := nI 0
set_option maxHeartbeats 4000000 in
set_option maxRecDepth 100000 in
theorem conX4_digest (l : Launch) (D : va_G) (T : Nat → ClassId) (sz m0 : Nat) (th  : Int32) : Met l yX4_digest wsX4_digest ({ frames := 3, cells := 89, slots := 16281, locals := 90 }) (cP D T [.ref m0] (fun H => H.size = sz ∧ MF D T m0 th H)) (va_Ql (fun (r : Int64) (_ : Unit) => tw_digest  = nI 0 → r = dMv) (fun _ t => MT D m0 (tw_digest ) t.heap) (MA m0 sz)) 89 16281 (MA m0 sz) := by
  refine Met.ofW (cc := cX4_digest) (maxL := 8) (ret := (some .long)) (by decide) rfl ?_
  intro p e s m args below meth c s₁ B hml hv9
  obtain ⟨rfl, hK, hsz, hw⟩ := hv9
  have hx := B.exec
  have hb := B.bytes
  have hr := B.returns
  have hts := atoms_spec (ws := wsX4_digest) B.pre
  have hown : s.vm.findClass RX4 = some m.cls := findClass_of_methodNamed B.named
  have hlocks := B.notSynchronized
  have hin4 : ∀ w ∈ wsX40, w ∈ wsX4_digest := by decide +kernel
  generalize hAe : (MA m0 sz) = A
  have hA : ∀ q : Nat, ((m0 ≤ q ∧ q < m0 + 16) ∨ s.heap.size ≤ q) → A q := fun q h9 => by subst hAe; show (m0 ≤ q ∧ q < m0 + 16) ∨ sz ≤ q; omega
  have hS : va_S A s.heap s.heap [] := va_S.rf
  have hl := lv_entry ([.ref m0]) (n := 8) (Nat.le_of_ble_eq_true rfl)
  rw [lg_entry_eq]
  generalize (lg_sl ([.ref m0]) ++ List.replicate (8 - (lg_sl ([.ref m0])).length) Slot.unset).toArray = ls at hl ⊢
  have hl : lv_has ls 8 [(0, .ref m0)] := hl
  refine lv_aload_n hx hb dX4_digest_0 rfl (lv_at hl 0 rfl) ?_
  refine lv_iconst (v := nI 0) hx hb dX4_digest_1 (by decide) ?_
  refine q_put (v := .int (nI 0)) hx hb hts hin4 tyX4 tyX4_ok nmX4 hown hK hw.o rfl 0 (by decide) (hts (.fieldLink RX4 19 "PuddingstoneLineModel" "thrown" "I") (by decide +kernel)) (fun _ h9 => h9) rfl rfl rfl (Nat.le_of_ble_eq_true rfl) hS (hA _ (by omega)) dX4_digest_2 (fun H1 locs1 hw9 oq hS => ?_)
  replace hw := hw.setO hw9 oq
  refine lv_ldc2 hx hb hown (hts (.constantLong RX4 168 965) (by decide +kernel)) dX4_digest_5 ?_
  refine lv_lstore_n (lv' := [(1, .long 965), (0, .ref m0)]) hx hb dX4_digest_8 rfl hl (by decide) rfl (fun ls hl => ?_)
  refine lv_iconst (v := nI 0) hx hb dX4_digest_9 (by decide) ?_
  refine lv_istore_n (lv' := [(3, .int (nI 0)), (1, .long 965), (0, .ref m0)]) hx hb dX4_digest_10 rfl hl (by decide) rfl (fun ls hl => ?_)
  refine q_forg (fun (i : Nat) (H : Heap) (locs : List Loc) (ls : Array Slot) => va_S A s.heap H locs ∧ lv_has ls 8 [(3, .int (nI i)), (1, .long (dMa i)), (0, .ref m0)] ∧ MF D T m0 (nI 0) H) 8 6 1206 ?_ ?_ ?_
  · skip
    have e1 : 965 = dMa 0 := by exact dMa_0
    exact ⟨hS, lv_sub (lv_ex hl 1 rfl (congrArg Value.long e1)) [0, 1, 2] rfl, hw⟩
  · skip
    intro i H locs ls hi9 hin9 hnext
    obtain ⟨hS, hl, hw⟩ := hin9
    refine lv_iload_n hx hb dX4_digest_11 rfl (lv_at hl 0 rfl) ?_
    refine lv_bipush (v := nI 8) hx hb dX4_digest_12 (by decide) ?_
    refine lv_icmp_ge (tgt := 146) hx hb dX4_digest_14 (by decide) (fun c14 => ?_) (fun c14 => ?_)
    · skip
      have c14 : 8 ≤ i := (nc_le (a := 8) (b := i) (by omega) (by omega)).mp c14
      omega
    · skip
      have c14 : ¬ (8 ≤ i) := fun q9 => c14 ((nc_le (a := 8) (b := i) (by omega) (by omega)).mpr q9)
      refine lv_iconst (v := nI 0) hx hb dX4_digest_17 (by decide) ?_
      refine lv_istore (lv' := [(4, .int (nI 0)), (3, .int (nI i)), (1, .long (dMa i)), (0, .ref m0)]) hx hb dX4_digest_18 hl (by decide) rfl (fun ls hl => ?_)
      refine lv_iload hx hb dX4_digest_20 (lv_at hl 0 rfl) ?_
      refine lv_bipush (v := nI 6) hx hb dX4_digest_22 (by decide) ?_
      refine lv_icmp_ge (tgt := 48) hx hb dX4_digest_24 (by decide) (fun c24 => ?_) (fun c24 => ?_)
      · skip
        have c24 : 6 ≤ 0 := (nc_le (a := 6) (b := 0) (by omega) (by omega)).mp c24
        omega
      · skip
        have c24 : ¬ (6 ≤ 0) := fun q9 => c24 ((nc_le (a := 6) (b := 0) (by omega) (by omega)).mpr q9)
        refine lv_lload_n hx hb dX4_digest_27 rfl (lv_at hl 2 rfl) ?_
        refine lv_ldc2 hx hb hown (hts (.constantLong RX4 170 31) (by decide +kernel)) dX4_digest_28 ?_
        refine lv_lmul hx hb dX4_digest_31 ?_
        refine lv_aload_n hx hb dX4_digest_32 rfl (lv_at hl 3 rfl) ?_
        refine lv_iload_n hx hb dX4_digest_33 rfl (lv_at hl 1 rfl) ?_
        refine lv_iload hx hb dX4_digest_34 (lv_at hl 0 rfl) ?_
        obtain ⟨b1, hb1⟩ : ∃ z : Nat, z = H.size := ⟨_, rfl⟩
        have lw_b1 : m0 + 16 ≤ b1 := by have h8 := hw.lt; omega
        have ln_b1 : s.heap.size ≤ b1 := by have h8 := hS.1; omega
        refine va_calli (va_runV (As := [.int (nI i), .int (nI 0)]) (rest := [.long ((dMa i) * 31)]) ⟨hx, hb, hml, hown, hts⟩ (conX4_ofNow l D T b1 m0 (nI 0) i 0 (by omega) (by omega)) (cwV 2 hts gX4_digest_X4_ofNow rfl rfl rfl (by decide +kernel) ⟨Nat.le_of_ble_eq_true rfl, Nat.le_of_ble_eq_true rfl⟩) (preV hK hw.o rfl ⟨hb1.symm, hw⟩) rfl rfl hl.1 rfl (lv_room (Nat.le_of_ble_eq_true rfl)) dX4_digest_36 ⟨by show _ ≤ 89; omega, by show _ ≤ 16281; omega⟩) hS (fun q _ h9 => (hA q (by have h8 : b1 ≤ q := h9; omega))) (fun q h9 => (hA q (by have h8 : b1 ≤ q := h9; omega))) (fun r u t H1 locs1 ht hvm hw9 hB hz1 hk1 hS => ?_)
        try dsimp only at hB
        rw [ht] at hB
        rw [hw9]
        replace hw := hB
        refine lv_i2l (v := (onM 0).toInt64) hx hb dX4_digest_39 rfl ?_
        refine lv_ladd hx hb dX4_digest_40 ?_
        refine lv_lstore_n (lv' := [(1, .long (((dMa i) * 31) + ((onM 0).toInt64))), (4, .int (nI 0)), (3, .int (nI i)), (0, .ref m0)]) hx hb dX4_digest_41 rfl hl (by decide) rfl (fun ls hl => ?_)
        refine lv_iinc (v := nI 1) (lv' := [(4, .int (nI 1)), (1, .long (((dMa i) * 31) + ((onM 0).toInt64))), (3, .int (nI i)), (0, .ref m0)]) hx hb dX4_digest_42 hl (k := 1) rfl (inc_1 _) (by decide) rfl (fun ls hl => ?_)
        refine lv_goto (tgt := 20) hx hb dX4_digest_45 (by decide) ?_
        refine lv_iload hx hb dX4_digest_20 (lv_at hl 0 rfl) ?_
        refine lv_bipush (v := nI 6) hx hb dX4_digest_22 (by decide) ?_
        refine lv_icmp_ge (tgt := 48) hx hb dX4_digest_24 (by decide) (fun c24 => ?_) (fun c24 => ?_)
        · skip
          have c24 : 6 ≤ 1 := (nc_le (a := 6) (b := 1) (by omega) (by omega)).mp c24
          omega
        · skip
          have c24 : ¬ (6 ≤ 1) := fun q9 => c24 ((nc_le (a := 6) (b := 1) (by omega) (by omega)).mpr q9)
          refine lv_lload_n hx hb dX4_digest_27 rfl (lv_at hl 1 rfl) ?_
          refine lv_ldc2 hx hb hown (hts (.constantLong RX4 170 31) (by decide +kernel)) dX4_digest_28 ?_
          refine lv_lmul hx hb dX4_digest_31 ?_
          refine lv_aload_n hx hb dX4_digest_32 rfl (lv_at hl 3 rfl) ?_
          refine lv_iload_n hx hb dX4_digest_33 rfl (lv_at hl 2 rfl) ?_
          refine lv_iload hx hb dX4_digest_34 (lv_at hl 0 rfl) ?_
          obtain ⟨b2, hb2⟩ : ∃ z : Nat, z = H1.size := ⟨_, rfl⟩
          have lw_b2 : m0 + 16 ≤ b2 := by have h8 := hw.lt; omega
          have ln_b2 : s.heap.size ≤ b2 := by have h8 := hS.1; omega
          refine va_calli (va_runV (As := [.int (nI i), .int (nI 1)]) (rest := [.long ((((dMa i) * 31) + ((onM 0).toInt64)) * 31)]) ⟨hx, hb, hml, hown, hts⟩ (conX4_ofNow l D T b2 m0 (nI 0) i 1 (by omega) (by omega)) (cwV 2 hts gX4_digest_X4_ofNow rfl rfl rfl (by decide +kernel) ⟨Nat.le_of_ble_eq_true rfl, Nat.le_of_ble_eq_true rfl⟩) (preV hK hw.o rfl ⟨hb2.symm, hw⟩) rfl rfl hl.1 rfl (lv_room (Nat.le_of_ble_eq_true rfl)) dX4_digest_36 ⟨by show _ ≤ 89; omega, by show _ ≤ 16281; omega⟩) hS (fun q _ h9 => (hA q (by have h8 : b2 ≤ q := h9; omega))) (fun q h9 => (hA q (by have h8 : b2 ≤ q := h9; omega))) (fun r u t H1 locs1 ht hvm hw9 hB hz1 hk1 hS => ?_)
          try dsimp only at hB
          rw [ht] at hB
          rw [hw9]
          replace hw := hB
          refine lv_i2l (v := (onM 1).toInt64) hx hb dX4_digest_39 rfl ?_
          refine lv_ladd hx hb dX4_digest_40 ?_
          refine lv_lstore_n (lv' := [(1, .long (((((dMa i) * 31) + ((onM 0).toInt64)) * 31) + ((onM 1).toInt64))), (4, .int (nI 1)), (3, .int (nI i)), (0, .ref m0)]) hx hb dX4_digest_41 rfl hl (by decide) rfl (fun ls hl => ?_)
          refine lv_iinc (v := nI 2) (lv' := [(4, .int (nI 2)), (1, .long (((((dMa i) * 31) + ((onM 0).toInt64)) * 31) + ((onM 1).toInt64))), (3, .int (nI i)), (0, .ref m0)]) hx hb dX4_digest_42 hl (k := 1) rfl (inc_1 _) (by decide) rfl (fun ls hl => ?_)
          refine lv_goto (tgt := 20) hx hb dX4_digest_45 (by decide) ?_
          refine lv_iload hx hb dX4_digest_20 (lv_at hl 0 rfl) ?_
          refine lv_bipush (v := nI 6) hx hb dX4_digest_22 (by decide) ?_
          refine lv_icmp_ge (tgt := 48) hx hb dX4_digest_24 (by decide) (fun c24 => ?_) (fun c24 => ?_)
          · skip
            have c24 : 6 ≤ 2 := (nc_le (a := 6) (b := 2) (by omega) (by omega)).mp c24
            omega
          · skip
            have c24 : ¬ (6 ≤ 2) := fun q9 => c24 ((nc_le (a := 6) (b := 2) (by omega) (by omega)).mpr q9)
            refine lv_lload_n hx hb dX4_digest_27 rfl (lv_at hl 1 rfl) ?_
            refine lv_ldc2 hx hb hown (hts (.constantLong RX4 170 31) (by decide +kernel)) dX4_digest_28 ?_
            refine lv_lmul hx hb dX4_digest_31 ?_
            refine lv_aload_n hx hb dX4_digest_32 rfl (lv_at hl 3 rfl) ?_
            refine lv_iload_n hx hb dX4_digest_33 rfl (lv_at hl 2 rfl) ?_
            refine lv_iload hx hb dX4_digest_34 (lv_at hl 0 rfl) ?_
            obtain ⟨b3, hb3⟩ : ∃ z : Nat, z = H1.size := ⟨_, rfl⟩
            have lw_b3 : m0 + 16 ≤ b3 := by have h8 := hw.lt; omega
            have ln_b3 : s.heap.size ≤ b3 := by have h8 := hS.1; omega
            refine va_calli (va_runV (As := [.int (nI i), .int (nI 2)]) (rest := [.long ((((((dMa i) * 31) + ((onM 0).toInt64)) * 31) + ((onM 1).toInt64)) * 31)]) ⟨hx, hb, hml, hown, hts⟩ (conX4_ofNow l D T b3 m0 (nI 0) i 2 (by omega) (by omega)) (cwV 2 hts gX4_digest_X4_ofNow rfl rfl rfl (by decide +kernel) ⟨Nat.le_of_ble_eq_true rfl, Nat.le_of_ble_eq_true rfl⟩) (preV hK hw.o rfl ⟨hb3.symm, hw⟩) rfl rfl hl.1 rfl (lv_room (Nat.le_of_ble_eq_true rfl)) dX4_digest_36 ⟨by show _ ≤ 89; omega, by show _ ≤ 16281; omega⟩) hS (fun q _ h9 => (hA q (by have h8 : b3 ≤ q := h9; omega))) (fun q h9 => (hA q (by have h8 : b3 ≤ q := h9; omega))) (fun r u t H1 locs1 ht hvm hw9 hB hz1 hk1 hS => ?_)
            try dsimp only at hB
            rw [ht] at hB
            rw [hw9]
            replace hw := hB
            refine lv_i2l (v := (onM 2).toInt64) hx hb dX4_digest_39 rfl ?_
            refine lv_ladd hx hb dX4_digest_40 ?_
            refine lv_lstore_n (lv' := [(1, .long (((((((dMa i) * 31) + ((onM 0).toInt64)) * 31) + ((onM 1).toInt64)) * 31) + ((onM 2).toInt64))), (4, .int (nI 2)), (3, .int (nI i)), (0, .ref m0)]) hx hb dX4_digest_41 rfl hl (by decide) rfl (fun ls hl => ?_)
            refine lv_iinc (v := nI 3) (lv' := [(4, .int (nI 3)), (1, .long (((((((dMa i) * 31) + ((onM 0).toInt64)) * 31) + ((onM 1).toInt64)) * 31) + ((onM 2).toInt64))), (3, .int (nI i)), (0, .ref m0)]) hx hb dX4_digest_42 hl (k := 1) rfl (inc_1 _) (by decide) rfl (fun ls hl => ?_)
            refine lv_goto (tgt := 20) hx hb dX4_digest_45 (by decide) ?_
            refine lv_iload hx hb dX4_digest_20 (lv_at hl 0 rfl) ?_
            refine lv_bipush (v := nI 6) hx hb dX4_digest_22 (by decide) ?_
            refine lv_icmp_ge (tgt := 48) hx hb dX4_digest_24 (by decide) (fun c24 => ?_) (fun c24 => ?_)
            · skip
              have c24 : 6 ≤ 3 := (nc_le (a := 6) (b := 3) (by omega) (by omega)).mp c24
              omega
            · skip
              have c24 : ¬ (6 ≤ 3) := fun q9 => c24 ((nc_le (a := 6) (b := 3) (by omega) (by omega)).mpr q9)
              refine lv_lload_n hx hb dX4_digest_27 rfl (lv_at hl 1 rfl) ?_
              refine lv_ldc2 hx hb hown (hts (.constantLong RX4 170 31) (by decide +kernel)) dX4_digest_28 ?_
              refine lv_lmul hx hb dX4_digest_31 ?_
              refine lv_aload_n hx hb dX4_digest_32 rfl (lv_at hl 3 rfl) ?_
              refine lv_iload_n hx hb dX4_digest_33 rfl (lv_at hl 2 rfl) ?_
              refine lv_iload hx hb dX4_digest_34 (lv_at hl 0 rfl) ?_
              obtain ⟨b4, hb4⟩ : ∃ z : Nat, z = H1.size := ⟨_, rfl⟩
              have lw_b4 : m0 + 16 ≤ b4 := by have h8 := hw.lt; omega
              have ln_b4 : s.heap.size ≤ b4 := by have h8 := hS.1; omega
              refine va_calli (va_runV (As := [.int (nI i), .int (nI 3)]) (rest := [.long ((((((((dMa i) * 31) + ((onM 0).toInt64)) * 31) + ((onM 1).toInt64)) * 31) + ((onM 2).toInt64)) * 31)]) ⟨hx, hb, hml, hown, hts⟩ (conX4_ofNow l D T b4 m0 (nI 0) i 3 (by omega) (by omega)) (cwV 2 hts gX4_digest_X4_ofNow rfl rfl rfl (by decide +kernel) ⟨Nat.le_of_ble_eq_true rfl, Nat.le_of_ble_eq_true rfl⟩) (preV hK hw.o rfl ⟨hb4.symm, hw⟩) rfl rfl hl.1 rfl (lv_room (Nat.le_of_ble_eq_true rfl)) dX4_digest_36 ⟨by show _ ≤ 89; omega, by show _ ≤ 16281; omega⟩) hS (fun q _ h9 => (hA q (by have h8 : b4 ≤ q := h9; omega))) (fun q h9 => (hA q (by have h8 : b4 ≤ q := h9; omega))) (fun r u t H1 locs1 ht hvm hw9 hB hz1 hk1 hS => ?_)
              try dsimp only at hB
              rw [ht] at hB
              rw [hw9]
              replace hw := hB
              refine lv_i2l (v := (onM 3).toInt64) hx hb dX4_digest_39 rfl ?_
              refine lv_ladd hx hb dX4_digest_40 ?_
              refine lv_lstore_n (lv' := [(1, .long (((((((((dMa i) * 31) + ((onM 0).toInt64)) * 31) + ((onM 1).toInt64)) * 31) + ((onM 2).toInt64)) * 31) + ((onM 3).toInt64))), (4, .int (nI 3)), (3, .int (nI i)), (0, .ref m0)]) hx hb dX4_digest_41 rfl hl (by decide) rfl (fun ls hl => ?_)
              refine lv_iinc (v := nI 4) (lv' := [(4, .int (nI 4)), (1, .long (((((((((dMa i) * 31) + ((onM 0).toInt64)) * 31) + ((onM 1).toInt64)) * 31) + ((onM 2).toInt64)) * 31) + ((onM 3).toInt64))), (3, .int (nI i)), (0, .ref m0)]) hx hb dX4_digest_42 hl (k := 1) rfl (inc_1 _) (by decide) rfl (fun ls hl => ?_)
              refine lv_goto (tgt := 20) hx hb dX4_digest_45 (by decide) ?_
              refine lv_iload hx hb dX4_digest_20 (lv_at hl 0 rfl) ?_
              refine lv_bipush (v := nI 6) hx hb dX4_digest_22 (by decide) ?_
              refine lv_icmp_ge (tgt := 48) hx hb dX4_digest_24 (by decide) (fun c24 => ?_) (fun c24 => ?_)
              · skip
                have c24 : 6 ≤ 4 := (nc_le (a := 6) (b := 4) (by omega) (by omega)).mp c24
                omega
              · skip
                have c24 : ¬ (6 ≤ 4) := fun q9 => c24 ((nc_le (a := 6) (b := 4) (by omega) (by omega)).mpr q9)
                refine lv_lload_n hx hb dX4_digest_27 rfl (lv_at hl 1 rfl) ?_
                refine lv_ldc2 hx hb hown (hts (.constantLong RX4 170 31) (by decide +kernel)) dX4_digest_28 ?_
                refine lv_lmul hx hb dX4_digest_31 ?_
                refine lv_aload_n hx hb dX4_digest_32 rfl (lv_at hl 3 rfl) ?_
                refine lv_iload_n hx hb dX4_digest_33 rfl (lv_at hl 2 rfl) ?_
                refine lv_iload hx hb dX4_digest_34 (lv_at hl 0 rfl) ?_
                obtain ⟨b5, hb5⟩ : ∃ z : Nat, z = H1.size := ⟨_, rfl⟩
                have lw_b5 : m0 + 16 ≤ b5 := by have h8 := hw.lt; omega
                have ln_b5 : s.heap.size ≤ b5 := by have h8 := hS.1; omega
                refine va_calli (va_runV (As := [.int (nI i), .int (nI 4)]) (rest := [.long ((((((((((dMa i) * 31) + ((onM 0).toInt64)) * 31) + ((onM 1).toInt64)) * 31) + ((onM 2).toInt64)) * 31) + ((onM 3).toInt64)) * 31)]) ⟨hx, hb, hml, hown, hts⟩ (conX4_ofNow l D T b5 m0 (nI 0) i 4 (by omega) (by omega)) (cwV 2 hts gX4_digest_X4_ofNow rfl rfl rfl (by decide +kernel) ⟨Nat.le_of_ble_eq_true rfl, Nat.le_of_ble_eq_true rfl⟩) (preV hK hw.o rfl ⟨hb5.symm, hw⟩) rfl rfl hl.1 rfl (lv_room (Nat.le_of_ble_eq_true rfl)) dX4_digest_36 ⟨by show _ ≤ 89; omega, by show _ ≤ 16281; omega⟩) hS (fun q _ h9 => (hA q (by have h8 : b5 ≤ q := h9; omega))) (fun q h9 => (hA q (by have h8 : b5 ≤ q := h9; omega))) (fun r u t H1 locs1 ht hvm hw9 hB hz1 hk1 hS => ?_)
                try dsimp only at hB
                rw [ht] at hB
                rw [hw9]
                replace hw := hB
                refine lv_i2l (v := (onM 4).toInt64) hx hb dX4_digest_39 rfl ?_
                refine lv_ladd hx hb dX4_digest_40 ?_
                refine lv_lstore_n (lv' := [(1, .long (((((((((((dMa i) * 31) + ((onM 0).toInt64)) * 31) + ((onM 1).toInt64)) * 31) + ((onM 2).toInt64)) * 31) + ((onM 3).toInt64)) * 31) + ((onM 4).toInt64))), (4, .int (nI 4)), (3, .int (nI i)), (0, .ref m0)]) hx hb dX4_digest_41 rfl hl (by decide) rfl (fun ls hl => ?_)
                refine lv_iinc (v := nI 5) (lv' := [(4, .int (nI 5)), (1, .long (((((((((((dMa i) * 31) + ((onM 0).toInt64)) * 31) + ((onM 1).toInt64)) * 31) + ((onM 2).toInt64)) * 31) + ((onM 3).toInt64)) * 31) + ((onM 4).toInt64))), (3, .int (nI i)), (0, .ref m0)]) hx hb dX4_digest_42 hl (k := 1) rfl (inc_1 _) (by decide) rfl (fun ls hl => ?_)
                refine lv_goto (tgt := 20) hx hb dX4_digest_45 (by decide) ?_
                refine lv_iload hx hb dX4_digest_20 (lv_at hl 0 rfl) ?_
                refine lv_bipush (v := nI 6) hx hb dX4_digest_22 (by decide) ?_
                refine lv_icmp_ge (tgt := 48) hx hb dX4_digest_24 (by decide) (fun c24 => ?_) (fun c24 => ?_)
                · skip
                  have c24 : 6 ≤ 5 := (nc_le (a := 6) (b := 5) (by omega) (by omega)).mp c24
                  omega
                · skip
                  have c24 : ¬ (6 ≤ 5) := fun q9 => c24 ((nc_le (a := 6) (b := 5) (by omega) (by omega)).mpr q9)
                  refine lv_lload_n hx hb dX4_digest_27 rfl (lv_at hl 1 rfl) ?_
                  refine lv_ldc2 hx hb hown (hts (.constantLong RX4 170 31) (by decide +kernel)) dX4_digest_28 ?_
                  refine lv_lmul hx hb dX4_digest_31 ?_
                  refine lv_aload_n hx hb dX4_digest_32 rfl (lv_at hl 3 rfl) ?_
                  refine lv_iload_n hx hb dX4_digest_33 rfl (lv_at hl 2 rfl) ?_
                  refine lv_iload hx hb dX4_digest_34 (lv_at hl 0 rfl) ?_
                  obtain ⟨b6, hb6⟩ : ∃ z : Nat, z = H1.size := ⟨_, rfl⟩
                  have lw_b6 : m0 + 16 ≤ b6 := by have h8 := hw.lt; omega
                  have ln_b6 : s.heap.size ≤ b6 := by have h8 := hS.1; omega
                  refine va_calli (va_runV (As := [.int (nI i), .int (nI 5)]) (rest := [.long ((((((((((((dMa i) * 31) + ((onM 0).toInt64)) * 31) + ((onM 1).toInt64)) * 31) + ((onM 2).toInt64)) * 31) + ((onM 3).toInt64)) * 31) + ((onM 4).toInt64)) * 31)]) ⟨hx, hb, hml, hown, hts⟩ (conX4_ofNow l D T b6 m0 (nI 0) i 5 (by omega) (by omega)) (cwV 2 hts gX4_digest_X4_ofNow rfl rfl rfl (by decide +kernel) ⟨Nat.le_of_ble_eq_true rfl, Nat.le_of_ble_eq_true rfl⟩) (preV hK hw.o rfl ⟨hb6.symm, hw⟩) rfl rfl hl.1 rfl (lv_room (Nat.le_of_ble_eq_true rfl)) dX4_digest_36 ⟨by show _ ≤ 89; omega, by show _ ≤ 16281; omega⟩) hS (fun q _ h9 => (hA q (by have h8 : b6 ≤ q := h9; omega))) (fun q h9 => (hA q (by have h8 : b6 ≤ q := h9; omega))) (fun r u t H1 locs1 ht hvm hw9 hB hz1 hk1 hS => ?_)
                  try dsimp only at hB
                  rw [ht] at hB
                  rw [hw9]
                  replace hw := hB
                  refine lv_i2l (v := (onM 5).toInt64) hx hb dX4_digest_39 rfl ?_
                  refine lv_ladd hx hb dX4_digest_40 ?_
                  refine lv_lstore_n (lv' := [(1, .long (((((((((((((dMa i) * 31) + ((onM 0).toInt64)) * 31) + ((onM 1).toInt64)) * 31) + ((onM 2).toInt64)) * 31) + ((onM 3).toInt64)) * 31) + ((onM 4).toInt64)) * 31) + ((onM 5).toInt64))), (4, .int (nI 5)), (3, .int (nI i)), (0, .ref m0)]) hx hb dX4_digest_41 rfl hl (by decide) rfl (fun ls hl => ?_)
                  refine lv_iinc (v := nI 6) (lv' := [(4, .int (nI 6)), (1, .long (((((((((((((dMa i) * 31) + ((onM 0).toInt64)) * 31) + ((onM 1).toInt64)) * 31) + ((onM 2).toInt64)) * 31) + ((onM 3).toInt64)) * 31) + ((onM 4).toInt64)) * 31) + ((onM 5).toInt64))), (3, .int (nI i)), (0, .ref m0)]) hx hb dX4_digest_42 hl (k := 1) rfl (inc_1 _) (by decide) rfl (fun ls hl => ?_)
                  refine lv_goto (tgt := 20) hx hb dX4_digest_45 (by decide) ?_
                  refine lv_iload hx hb dX4_digest_20 (lv_at hl 0 rfl) ?_
                  refine lv_bipush (v := nI 6) hx hb dX4_digest_22 (by decide) ?_
                  refine lv_icmp_ge (tgt := 48) hx hb dX4_digest_24 (by decide) (fun c24 => ?_) (fun c24 => ?_)
                  · skip
                    have c24 : 6 ≤ 6 := (nc_le (a := 6) (b := 6) (by omega) (by omega)).mp c24
                    refine lv_aload_n hx hb dX4_digest_48 rfl (lv_at hl 3 rfl) ?_
                    refine q_get (v := .ref (m0 + 1)) hx hb hts hin4 hown hK hw.o rfl 1 (by decide) (hts (.fieldLink RX4 11 "PuddingstoneLineModel" "sets" "[[Z") (by decide +kernel)) (fun _ h9 => h9) rfl dX4_digest_49 ?_
                    refine lv_iload_n hx hb dX4_digest_52 rfl (lv_at hl 2 rfl) ?_
                    refine q_aald hx hb hK 4 rfl rfl hw.s i (rfl) (by omega) (by decide) (b := m0 + 2 + i) rfl dX4_digest_53 ?_
                    refine lv_iconst (v := nI 0) hx hb dX4_digest_54 (by decide) ?_
                    refine lv_iconst (v := nI 1) hx hb dX4_digest_55 (by decide) ?_
                    refine vp_callSi (va_runS (As := [.ref (m0 + 2 + i), .int (nI 0), .int (nI 1)]) (rest := []) ⟨hx, hb, hml, hown, hts⟩ (conX4_firstN l D T (m0 + 2 + i) (nI 0) (nI 1) 0 (by omega) (by decide)) (va_cwS 3 hts gX4_digest_X4_first rfl rfl rfl (by decide +kernel) ⟨Nat.le_of_ble_eq_true rfl, Nat.le_of_ble_eq_true rfl⟩) (preS hK ((hw.f i (by omega)))) rfl rfl hl.1 rfl (lv_room (Nat.le_of_ble_eq_true rfl)) dX4_digest_56 ⟨by show _ ≤ 89; omega, by show _ ≤ 16281; omega⟩).run (fun r2 hr2 => ?_)
                    rw [hr2]
                    refine lv_istore (lv' := [(4, .int (nI 201)), (1, .long (((((((((((((dMa i) * 31) + ((onM 0).toInt64)) * 31) + ((onM 1).toInt64)) * 31) + ((onM 2).toInt64)) * 31) + ((onM 3).toInt64)) * 31) + ((onM 4).toInt64)) * 31) + ((onM 5).toInt64))), (3, .int (nI i)), (0, .ref m0)]) hx hb dX4_digest_59 hl (by decide) rfl (fun ls hl => ?_)
                    refine lv_iload hx hb dX4_digest_61 (lv_at hl 0 rfl) ?_
                    refine lv_sipush (v := nI 201) hx hb dX4_digest_63 (by decide) ?_
                    refine lv_icmp_ge (tgt := 140) hx hb dX4_digest_66 (by decide) (fun c66 => ?_) (fun c66 => ?_)
                    · skip
                      have c66 : 201 ≤ 201 := (nc_le (a := 201) (b := 201) (by omega) (by omega)).mp c66
                      refine lv_iinc (v := nI (i + 1)) (lv' := [(3, .int (nI (i + 1))), (4, .int (nI 201)), (1, .long (((((((((((((dMa i) * 31) + ((onM 0).toInt64)) * 31) + ((onM 1).toInt64)) * 31) + ((onM 2).toInt64)) * 31) + ((onM 3).toInt64)) * 31) + ((onM 4).toInt64)) * 31) + ((onM 5).toInt64))), (0, .ref m0)]) hx hb dX4_digest_140 hl (k := 2) rfl (inc_1 _) (by decide) rfl (fun ls hl => ?_)
                      refine lv_goto (tgt := 11) hx hb dX4_digest_143 (by decide) ?_
                      have e3 : ((((((((((((dMa i) * 31) + ((onM 0).toInt64)) * 31) + ((onM 1).toInt64)) * 31) + ((onM 2).toInt64)) * 31) + ((onM 3).toInt64)) * 31) + ((onM 4).toInt64)) * 31) + ((onM 5).toInt64) = dMa (i + 1) := by exact (dMa_s i).symm
                      exact W.cs9 (by omega) (by omega) (hnext _ _ _ ⟨hS, lv_sub (lv_ex hl 2 rfl (congrArg Value.long e3)) [0, 2, 3] rfl, hw⟩)
                    · skip
                      have c66 : ¬ (201 ≤ 201) := fun q9 => c66 ((nc_le (a := 201) (b := 201) (by omega) (by omega)).mpr q9)
                      omega
                  · skip
                    have c24 : ¬ (6 ≤ 6) := fun q9 => c24 ((nc_le (a := 6) (b := 6) (by omega) (by omega)).mpr q9)
                    omega
  · skip
    intro H locs ls hin9
    obtain ⟨hS, hl, hw⟩ := hin9
    refine lv_iload_n hx hb dX4_digest_11 rfl (lv_at hl 0 rfl) ?_
    refine lv_bipush (v := nI 8) hx hb dX4_digest_12 (by decide) ?_
    refine lv_icmp_ge (tgt := 146) hx hb dX4_digest_14 (by decide) (fun c14 => ?_) (fun c14 => ?_)
    · skip
      have c14 : 8 ≤ 8 := (nc_le (a := 8) (b := 8) (by omega) (by omega)).mp c14
      refine lv_iconst (v := nI 0) hx hb dX4_digest_146 (by decide) ?_
      refine lv_istore_n (lv' := [(3, .int (nI 0)), (1, .long (dMa 8)), (0, .ref m0)]) hx hb dX4_digest_147 rfl hl (by decide) rfl (fun ls hl => ?_)
      refine q_forg (fun (i : Nat) (H : Heap) (locs : List Loc) (ls : Array Slot) => va_S A s.heap H locs ∧ lv_has ls 8 [(3, .int (nI i)), (1, .long (dMb i)), (0, .ref m0)] ∧ MF D T m0 (nI 0) H) 5 5 1005 ?_ ?_ ?_
      · skip
        have e4 : dMa 8 = dMb 0 := by exact dMb_0
        exact ⟨hS, lv_sub (lv_ex hl 1 rfl (congrArg Value.long e4)) [0, 1, 2] rfl, hw⟩
      · skip
        intro i H locs ls hi9 hin9 hnext
        obtain ⟨hS, hl, hw⟩ := hin9
        refine lv_iload_n hx hb dX4_digest_148 rfl (lv_at hl 0 rfl) ?_
        refine lv_iconst (v := nI 5) hx hb dX4_digest_149 (by decide) ?_
        refine lv_icmp_ge (tgt := 235) hx hb dX4_digest_150 (by decide) (fun c150 => ?_) (fun c150 => ?_)
        · skip
          have c150 : 5 ≤ i := (nc_le (a := 5) (b := i) (by omega) (by omega)).mp c150
          omega
        · skip
          have c150 : ¬ (5 ≤ i) := fun q9 => c150 ((nc_le (a := 5) (b := i) (by omega) (by omega)).mpr q9)
          refine lv_iconst (v := nI 0) hx hb dX4_digest_153 (by decide) ?_
          refine lv_istore (lv' := [(4, .int (nI 0)), (3, .int (nI i)), (1, .long (dMb i)), (0, .ref m0)]) hx hb dX4_digest_154 hl (by decide) rfl (fun ls hl => ?_)
          refine lv_iload hx hb dX4_digest_156 (lv_at hl 0 rfl) ?_
          refine lv_iconst (v := nI 5) hx hb dX4_digest_158 (by decide) ?_
          refine lv_icmp_ge (tgt := 183) hx hb dX4_digest_159 (by decide) (fun c159 => ?_) (fun c159 => ?_)
          · skip
            have c159 : 5 ≤ 0 := (nc_le (a := 5) (b := 0) (by omega) (by omega)).mp c159
            omega
          · skip
            have c159 : ¬ (5 ≤ 0) := fun q9 => c159 ((nc_le (a := 5) (b := 0) (by omega) (by omega)).mpr q9)
            refine lv_lload_n hx hb dX4_digest_162 rfl (lv_at hl 2 rfl) ?_
            refine lv_ldc2 hx hb hown (hts (.constantLong RX4 170 31) (by decide +kernel)) dX4_digest_163 ?_
            refine lv_lmul hx hb dX4_digest_166 ?_
            refine lv_aload_n hx hb dX4_digest_167 rfl (lv_at hl 3 rfl) ?_
            refine lv_iload_n hx hb dX4_digest_168 rfl (lv_at hl 1 rfl) ?_
            refine lv_iload hx hb dX4_digest_169 (lv_at hl 0 rfl) ?_
            obtain ⟨b1, hb1⟩ : ∃ z : Nat, z = H.size := ⟨_, rfl⟩
            have lw_b1 : m0 + 16 ≤ b1 := by have h8 := hw.lt; omega
            have ln_b1 : s.heap.size ≤ b1 := by have h8 := hS.1; omega
            refine va_calli (va_runV (As := [.int (nI i), .int (nI 0)]) (rest := [.long ((dMb i) * 31)]) ⟨hx, hb, hml, hown, hts⟩ (conX4_functionNow l D T b1 m0 (nI 0) i 0 (by omega) (by omega)) (cwV 2 hts gX4_digest_X4_functionNow rfl rfl rfl (by decide +kernel) ⟨Nat.le_of_ble_eq_true rfl, Nat.le_of_ble_eq_true rfl⟩) (preV hK hw.o rfl ⟨hb1.symm, hw⟩) rfl rfl hl.1 rfl (lv_room (Nat.le_of_ble_eq_true rfl)) dX4_digest_171 ⟨by show _ ≤ 89; omega, by show _ ≤ 16281; omega⟩) hS (fun q _ h9 => (hA q (by have h8 : b1 ≤ q := h9; omega))) (fun q h9 => (hA q (by have h8 : b1 ≤ q := h9; omega))) (fun r u t H1 locs1 ht hvm hw9 hB hz1 hk1 hS => ?_)
            try dsimp only at hB
            rw [ht] at hB
            rw [hw9]
            replace hw := hB
            refine lv_i2l (v := (fnM 0).toInt64) hx hb dX4_digest_174 rfl ?_
            refine lv_ladd hx hb dX4_digest_175 ?_
            refine lv_lstore_n (lv' := [(1, .long (((dMb i) * 31) + ((fnM 0).toInt64))), (4, .int (nI 0)), (3, .int (nI i)), (0, .ref m0)]) hx hb dX4_digest_176 rfl hl (by decide) rfl (fun ls hl => ?_)
            refine lv_iinc (v := nI 1) (lv' := [(4, .int (nI 1)), (1, .long (((dMb i) * 31) + ((fnM 0).toInt64))), (3, .int (nI i)), (0, .ref m0)]) hx hb dX4_digest_177 hl (k := 1) rfl (inc_1 _) (by decide) rfl (fun ls hl => ?_)
            refine lv_goto (tgt := 156) hx hb dX4_digest_180 (by decide) ?_
            refine lv_iload hx hb dX4_digest_156 (lv_at hl 0 rfl) ?_
            refine lv_iconst (v := nI 5) hx hb dX4_digest_158 (by decide) ?_
            refine lv_icmp_ge (tgt := 183) hx hb dX4_digest_159 (by decide) (fun c159 => ?_) (fun c159 => ?_)
            · skip
              have c159 : 5 ≤ 1 := (nc_le (a := 5) (b := 1) (by omega) (by omega)).mp c159
              omega
            · skip
              have c159 : ¬ (5 ≤ 1) := fun q9 => c159 ((nc_le (a := 5) (b := 1) (by omega) (by omega)).mpr q9)
              refine lv_lload_n hx hb dX4_digest_162 rfl (lv_at hl 1 rfl) ?_
              refine lv_ldc2 hx hb hown (hts (.constantLong RX4 170 31) (by decide +kernel)) dX4_digest_163 ?_
              refine lv_lmul hx hb dX4_digest_166 ?_
              refine lv_aload_n hx hb dX4_digest_167 rfl (lv_at hl 3 rfl) ?_
              refine lv_iload_n hx hb dX4_digest_168 rfl (lv_at hl 2 rfl) ?_
              refine lv_iload hx hb dX4_digest_169 (lv_at hl 0 rfl) ?_
              obtain ⟨b2, hb2⟩ : ∃ z : Nat, z = H1.size := ⟨_, rfl⟩
              have lw_b2 : m0 + 16 ≤ b2 := by have h8 := hw.lt; omega
              have ln_b2 : s.heap.size ≤ b2 := by have h8 := hS.1; omega
              refine va_calli (va_runV (As := [.int (nI i), .int (nI 1)]) (rest := [.long ((((dMb i) * 31) + ((fnM 0).toInt64)) * 31)]) ⟨hx, hb, hml, hown, hts⟩ (conX4_functionNow l D T b2 m0 (nI 0) i 1 (by omega) (by omega)) (cwV 2 hts gX4_digest_X4_functionNow rfl rfl rfl (by decide +kernel) ⟨Nat.le_of_ble_eq_true rfl, Nat.le_of_ble_eq_true rfl⟩) (preV hK hw.o rfl ⟨hb2.symm, hw⟩) rfl rfl hl.1 rfl (lv_room (Nat.le_of_ble_eq_true rfl)) dX4_digest_171 ⟨by show _ ≤ 89; omega, by show _ ≤ 16281; omega⟩) hS (fun q _ h9 => (hA q (by have h8 : b2 ≤ q := h9; omega))) (fun q h9 => (hA q (by have h8 : b2 ≤ q := h9; omega))) (fun r u t H1 locs1 ht hvm hw9 hB hz1 hk1 hS => ?_)
              try dsimp only at hB
              rw [ht] at hB
              rw [hw9]
              replace hw := hB
              refine lv_i2l (v := (fnM 1).toInt64) hx hb dX4_digest_174 rfl ?_
              refine lv_ladd hx hb dX4_digest_175 ?_
              refine lv_lstore_n (lv' := [(1, .long (((((dMb i) * 31) + ((fnM 0).toInt64)) * 31) + ((fnM 1).toInt64))), (4, .int (nI 1)), (3, .int (nI i)), (0, .ref m0)]) hx hb dX4_digest_176 rfl hl (by decide) rfl (fun ls hl => ?_)
              refine lv_iinc (v := nI 2) (lv' := [(4, .int (nI 2)), (1, .long (((((dMb i) * 31) + ((fnM 0).toInt64)) * 31) + ((fnM 1).toInt64))), (3, .int (nI i)), (0, .ref m0)]) hx hb dX4_digest_177 hl (k := 1) rfl (inc_1 _) (by decide) rfl (fun ls hl => ?_)
              refine lv_goto (tgt := 156) hx hb dX4_digest_180 (by decide) ?_
              refine lv_iload hx hb dX4_digest_156 (lv_at hl 0 rfl) ?_
              refine lv_iconst (v := nI 5) hx hb dX4_digest_158 (by decide) ?_
              refine lv_icmp_ge (tgt := 183) hx hb dX4_digest_159 (by decide) (fun c159 => ?_) (fun c159 => ?_)
              · skip
                have c159 : 5 ≤ 2 := (nc_le (a := 5) (b := 2) (by omega) (by omega)).mp c159
                omega
              · skip
                have c159 : ¬ (5 ≤ 2) := fun q9 => c159 ((nc_le (a := 5) (b := 2) (by omega) (by omega)).mpr q9)
                refine lv_lload_n hx hb dX4_digest_162 rfl (lv_at hl 1 rfl) ?_
                refine lv_ldc2 hx hb hown (hts (.constantLong RX4 170 31) (by decide +kernel)) dX4_digest_163 ?_
                refine lv_lmul hx hb dX4_digest_166 ?_
                refine lv_aload_n hx hb dX4_digest_167 rfl (lv_at hl 3 rfl) ?_
                refine lv_iload_n hx hb dX4_digest_168 rfl (lv_at hl 2 rfl) ?_
                refine lv_iload hx hb dX4_digest_169 (lv_at hl 0 rfl) ?_
                obtain ⟨b3, hb3⟩ : ∃ z : Nat, z = H1.size := ⟨_, rfl⟩
                have lw_b3 : m0 + 16 ≤ b3 := by have h8 := hw.lt; omega
                have ln_b3 : s.heap.size ≤ b3 := by have h8 := hS.1; omega
                refine va_calli (va_runV (As := [.int (nI i), .int (nI 2)]) (rest := [.long ((((((dMb i) * 31) + ((fnM 0).toInt64)) * 31) + ((fnM 1).toInt64)) * 31)]) ⟨hx, hb, hml, hown, hts⟩ (conX4_functionNow l D T b3 m0 (nI 0) i 2 (by omega) (by omega)) (cwV 2 hts gX4_digest_X4_functionNow rfl rfl rfl (by decide +kernel) ⟨Nat.le_of_ble_eq_true rfl, Nat.le_of_ble_eq_true rfl⟩) (preV hK hw.o rfl ⟨hb3.symm, hw⟩) rfl rfl hl.1 rfl (lv_room (Nat.le_of_ble_eq_true rfl)) dX4_digest_171 ⟨by show _ ≤ 89; omega, by show _ ≤ 16281; omega⟩) hS (fun q _ h9 => (hA q (by have h8 : b3 ≤ q := h9; omega))) (fun q h9 => (hA q (by have h8 : b3 ≤ q := h9; omega))) (fun r u t H1 locs1 ht hvm hw9 hB hz1 hk1 hS => ?_)
                try dsimp only at hB
                rw [ht] at hB
                rw [hw9]
                replace hw := hB
                refine lv_i2l (v := (fnM 2).toInt64) hx hb dX4_digest_174 rfl ?_
                refine lv_ladd hx hb dX4_digest_175 ?_
                refine lv_lstore_n (lv' := [(1, .long (((((((dMb i) * 31) + ((fnM 0).toInt64)) * 31) + ((fnM 1).toInt64)) * 31) + ((fnM 2).toInt64))), (4, .int (nI 2)), (3, .int (nI i)), (0, .ref m0)]) hx hb dX4_digest_176 rfl hl (by decide) rfl (fun ls hl => ?_)
                refine lv_iinc (v := nI 3) (lv' := [(4, .int (nI 3)), (1, .long (((((((dMb i) * 31) + ((fnM 0).toInt64)) * 31) + ((fnM 1).toInt64)) * 31) + ((fnM 2).toInt64))), (3, .int (nI i)), (0, .ref m0)]) hx hb dX4_digest_177 hl (k := 1) rfl (inc_1 _) (by decide) rfl (fun ls hl => ?_)
                refine lv_goto (tgt := 156) hx hb dX4_digest_180 (by decide) ?_
                refine lv_iload hx hb dX4_digest_156 (lv_at hl 0 rfl) ?_
                refine lv_iconst (v := nI 5) hx hb dX4_digest_158 (by decide) ?_
                refine lv_icmp_ge (tgt := 183) hx hb dX4_digest_159 (by decide) (fun c159 => ?_) (fun c159 => ?_)
                · skip
                  have c159 : 5 ≤ 3 := (nc_le (a := 5) (b := 3) (by omega) (by omega)).mp c159
                  omega
                · skip
                  have c159 : ¬ (5 ≤ 3) := fun q9 => c159 ((nc_le (a := 5) (b := 3) (by omega) (by omega)).mpr q9)
                  refine lv_lload_n hx hb dX4_digest_162 rfl (lv_at hl 1 rfl) ?_
                  refine lv_ldc2 hx hb hown (hts (.constantLong RX4 170 31) (by decide +kernel)) dX4_digest_163 ?_
                  refine lv_lmul hx hb dX4_digest_166 ?_
                  refine lv_aload_n hx hb dX4_digest_167 rfl (lv_at hl 3 rfl) ?_
                  refine lv_iload_n hx hb dX4_digest_168 rfl (lv_at hl 2 rfl) ?_
                  refine lv_iload hx hb dX4_digest_169 (lv_at hl 0 rfl) ?_
                  obtain ⟨b4, hb4⟩ : ∃ z : Nat, z = H1.size := ⟨_, rfl⟩
                  have lw_b4 : m0 + 16 ≤ b4 := by have h8 := hw.lt; omega
                  have ln_b4 : s.heap.size ≤ b4 := by have h8 := hS.1; omega
                  refine va_calli (va_runV (As := [.int (nI i), .int (nI 3)]) (rest := [.long ((((((((dMb i) * 31) + ((fnM 0).toInt64)) * 31) + ((fnM 1).toInt64)) * 31) + ((fnM 2).toInt64)) * 31)]) ⟨hx, hb, hml, hown, hts⟩ (conX4_functionNow l D T b4 m0 (nI 0) i 3 (by omega) (by omega)) (cwV 2 hts gX4_digest_X4_functionNow rfl rfl rfl (by decide +kernel) ⟨Nat.le_of_ble_eq_true rfl, Nat.le_of_ble_eq_true rfl⟩) (preV hK hw.o rfl ⟨hb4.symm, hw⟩) rfl rfl hl.1 rfl (lv_room (Nat.le_of_ble_eq_true rfl)) dX4_digest_171 ⟨by show _ ≤ 89; omega, by show _ ≤ 16281; omega⟩) hS (fun q _ h9 => (hA q (by have h8 : b4 ≤ q := h9; omega))) (fun q h9 => (hA q (by have h8 : b4 ≤ q := h9; omega))) (fun r u t H1 locs1 ht hvm hw9 hB hz1 hk1 hS => ?_)
                  try dsimp only at hB
                  rw [ht] at hB
                  rw [hw9]
                  replace hw := hB
                  refine lv_i2l (v := (fnM 3).toInt64) hx hb dX4_digest_174 rfl ?_
                  refine lv_ladd hx hb dX4_digest_175 ?_
                  refine lv_lstore_n (lv' := [(1, .long (((((((((dMb i) * 31) + ((fnM 0).toInt64)) * 31) + ((fnM 1).toInt64)) * 31) + ((fnM 2).toInt64)) * 31) + ((fnM 3).toInt64))), (4, .int (nI 3)), (3, .int (nI i)), (0, .ref m0)]) hx hb dX4_digest_176 rfl hl (by decide) rfl (fun ls hl => ?_)
                  refine lv_iinc (v := nI 4) (lv' := [(4, .int (nI 4)), (1, .long (((((((((dMb i) * 31) + ((fnM 0).toInt64)) * 31) + ((fnM 1).toInt64)) * 31) + ((fnM 2).toInt64)) * 31) + ((fnM 3).toInt64))), (3, .int (nI i)), (0, .ref m0)]) hx hb dX4_digest_177 hl (k := 1) rfl (inc_1 _) (by decide) rfl (fun ls hl => ?_)
                  refine lv_goto (tgt := 156) hx hb dX4_digest_180 (by decide) ?_
                  refine lv_iload hx hb dX4_digest_156 (lv_at hl 0 rfl) ?_
                  refine lv_iconst (v := nI 5) hx hb dX4_digest_158 (by decide) ?_
                  refine lv_icmp_ge (tgt := 183) hx hb dX4_digest_159 (by decide) (fun c159 => ?_) (fun c159 => ?_)
                  · skip
                    have c159 : 5 ≤ 4 := (nc_le (a := 5) (b := 4) (by omega) (by omega)).mp c159
                    omega
                  · skip
                    have c159 : ¬ (5 ≤ 4) := fun q9 => c159 ((nc_le (a := 5) (b := 4) (by omega) (by omega)).mpr q9)
                    refine lv_lload_n hx hb dX4_digest_162 rfl (lv_at hl 1 rfl) ?_
                    refine lv_ldc2 hx hb hown (hts (.constantLong RX4 170 31) (by decide +kernel)) dX4_digest_163 ?_
                    refine lv_lmul hx hb dX4_digest_166 ?_
                    refine lv_aload_n hx hb dX4_digest_167 rfl (lv_at hl 3 rfl) ?_
                    refine lv_iload_n hx hb dX4_digest_168 rfl (lv_at hl 2 rfl) ?_
                    refine lv_iload hx hb dX4_digest_169 (lv_at hl 0 rfl) ?_
                    obtain ⟨b5, hb5⟩ : ∃ z : Nat, z = H1.size := ⟨_, rfl⟩
                    have lw_b5 : m0 + 16 ≤ b5 := by have h8 := hw.lt; omega
                    have ln_b5 : s.heap.size ≤ b5 := by have h8 := hS.1; omega
                    refine va_calli (va_runV (As := [.int (nI i), .int (nI 4)]) (rest := [.long ((((((((((dMb i) * 31) + ((fnM 0).toInt64)) * 31) + ((fnM 1).toInt64)) * 31) + ((fnM 2).toInt64)) * 31) + ((fnM 3).toInt64)) * 31)]) ⟨hx, hb, hml, hown, hts⟩ (conX4_functionNow l D T b5 m0 (nI 0) i 4 (by omega) (by omega)) (cwV 2 hts gX4_digest_X4_functionNow rfl rfl rfl (by decide +kernel) ⟨Nat.le_of_ble_eq_true rfl, Nat.le_of_ble_eq_true rfl⟩) (preV hK hw.o rfl ⟨hb5.symm, hw⟩) rfl rfl hl.1 rfl (lv_room (Nat.le_of_ble_eq_true rfl)) dX4_digest_171 ⟨by show _ ≤ 89; omega, by show _ ≤ 16281; omega⟩) hS (fun q _ h9 => (hA q (by have h8 : b5 ≤ q := h9; omega))) (fun q h9 => (hA q (by have h8 : b5 ≤ q := h9; omega))) (fun r u t H1 locs1 ht hvm hw9 hB hz1 hk1 hS => ?_)
                    try dsimp only at hB
                    rw [ht] at hB
                    rw [hw9]
                    replace hw := hB
                    refine lv_i2l (v := (fnM 4).toInt64) hx hb dX4_digest_174 rfl ?_
                    refine lv_ladd hx hb dX4_digest_175 ?_
                    refine lv_lstore_n (lv' := [(1, .long (((((((((((dMb i) * 31) + ((fnM 0).toInt64)) * 31) + ((fnM 1).toInt64)) * 31) + ((fnM 2).toInt64)) * 31) + ((fnM 3).toInt64)) * 31) + ((fnM 4).toInt64))), (4, .int (nI 4)), (3, .int (nI i)), (0, .ref m0)]) hx hb dX4_digest_176 rfl hl (by decide) rfl (fun ls hl => ?_)
                    refine lv_iinc (v := nI 5) (lv' := [(4, .int (nI 5)), (1, .long (((((((((((dMb i) * 31) + ((fnM 0).toInt64)) * 31) + ((fnM 1).toInt64)) * 31) + ((fnM 2).toInt64)) * 31) + ((fnM 3).toInt64)) * 31) + ((fnM 4).toInt64))), (3, .int (nI i)), (0, .ref m0)]) hx hb dX4_digest_177 hl (k := 1) rfl (inc_1 _) (by decide) rfl (fun ls hl => ?_)
                    refine lv_goto (tgt := 156) hx hb dX4_digest_180 (by decide) ?_
                    refine lv_iload hx hb dX4_digest_156 (lv_at hl 0 rfl) ?_
                    refine lv_iconst (v := nI 5) hx hb dX4_digest_158 (by decide) ?_
                    refine lv_icmp_ge (tgt := 183) hx hb dX4_digest_159 (by decide) (fun c159 => ?_) (fun c159 => ?_)
                    · skip
                      have c159 : 5 ≤ 5 := (nc_le (a := 5) (b := 5) (by omega) (by omega)).mp c159
                      refine lv_aload_n hx hb dX4_digest_183 rfl (lv_at hl 3 rfl) ?_
                      refine q_get (v := .ref (m0 + 10)) hx hb hts hin4 hown hK hw.o rfl 2 (by decide) (hts (.fieldLink RX4 16 "PuddingstoneLineModel" "values" "[[I") (by decide +kernel)) (fun _ h9 => h9) rfl dX4_digest_184 ?_
                      refine lv_iload_n hx hb dX4_digest_187 rfl (lv_at hl 2 rfl) ?_
                      refine q_aald hx hb hK 5 rfl rfl hw.v i (rfl) (by omega) (by decide) (b := m0 + 11 + i) rfl dX4_digest_188 ?_
                      refine lv_astore (lv' := [(4, .ref (m0 + 11 + i)), (1, .long (((((((((((dMb i) * 31) + ((fnM 0).toInt64)) * 31) + ((fnM 1).toInt64)) * 31) + ((fnM 2).toInt64)) * 31) + ((fnM 3).toInt64)) * 31) + ((fnM 4).toInt64))), (3, .int (nI i)), (0, .ref m0)]) hx hb dX4_digest_189 hl (by decide) rfl (fun ls hl => ?_)
                      refine lv_aload hx hb dX4_digest_191 (lv_at hl 0 rfl) ?_
                      refine q_len hx hb hK 1 rfl (hw.g i (by omega)) dX4_digest_193 ?_
                      refine lv_istore (lv' := [(5, .int (nI 201)), (4, .ref (m0 + 11 + i)), (1, .long (((((((((((dMb i) * 31) + ((fnM 0).toInt64)) * 31) + ((fnM 1).toInt64)) * 31) + ((fnM 2).toInt64)) * 31) + ((fnM 3).toInt64)) * 31) + ((fnM 4).toInt64))), (3, .int (nI i)), (0, .ref m0)]) hx hb dX4_digest_194 hl (by decide) rfl (fun ls hl => ?_)
                      refine lv_iconst (v := nI 0) hx hb dX4_digest_196 (by decide) ?_
                      refine lv_istore (lv' := [(6, .int (nI 0)), (5, .int (nI 201)), (4, .ref (m0 + 11 + i)), (1, .long (((((((((((dMb i) * 31) + ((fnM 0).toInt64)) * 31) + ((fnM 1).toInt64)) * 31) + ((fnM 2).toInt64)) * 31) + ((fnM 3).toInt64)) * 31) + ((fnM 4).toInt64))), (3, .int (nI i)), (0, .ref m0)]) hx hb dX4_digest_197 hl (by decide) rfl (fun ls hl => ?_)
                      refine q_for (fun (j : Nat) (H : Heap) (locs : List Loc) (ls : Array Slot) => va_S A s.heap H locs ∧ lv_has ls 8 [(6, .int (nI j)), (5, .int (nI 201)), (4, .ref (m0 + 11 + i)), (1, .long (dgC ((((((dMb i * 31 + (fnM 0).toInt64) * 31 + (fnM 1).toInt64) * 31 + (fnM 2).toInt64) * 31 + (fnM 3).toInt64) * 31 + (fnM 4).toInt64)) j)), (3, .int (nI i)), (0, .ref m0)] ∧ MF D T m0 (nI 0) H) (N := 201) 0 (by omega) ?_ ?_ ?_
                      · skip
                        have e5 : ((((((((((dMb i) * 31) + ((fnM 0).toInt64)) * 31) + ((fnM 1).toInt64)) * 31) + ((fnM 2).toInt64)) * 31) + ((fnM 3).toInt64)) * 31) + ((fnM 4).toInt64) = dgC ((((((dMb i * 31 + (fnM 0).toInt64) * 31 + (fnM 1).toInt64) * 31 + (fnM 2).toInt64) * 31 + (fnM 3).toInt64) * 31 + (fnM 4).toInt64)) 0 := by exact (dgC_0 _).symm
                        exact ⟨hS, lv_sub (lv_ex hl 3 rfl (congrArg Value.long e5)) [0, 1, 2, 3, 4, 5] rfl, hw⟩
                      · skip
                        intro j H locs ls hi9_j hin9 hnext_j
                        obtain ⟨hS, hl, hw⟩ := hin9
                        refine lv_iload hx hb dX4_digest_199 (lv_at hl 0 rfl) ?_
                        refine lv_iload hx hb dX4_digest_201 (lv_at hl 1 rfl) ?_
                        refine lv_icmp_ge (tgt := 229) hx hb dX4_digest_203 (by decide) (fun c203 => ?_) (fun c203 => ?_)
                        · skip
                          have c203 : 201 ≤ j := (nc_le (a := 201) (b := j) (by omega) (by omega)).mp c203
                          omega
                        · skip
                          have c203 : ¬ (201 ≤ j) := fun q9 => c203 ((nc_le (a := 201) (b := j) (by omega) (by omega)).mpr q9)
                          refine lv_aload hx hb dX4_digest_206 (lv_at hl 2 rfl) ?_
                          refine lv_iload hx hb dX4_digest_208 (lv_at hl 0 rfl) ?_
                          refine q_iald hx hb hK (hw.g i (by omega)) j (rfl) (by omega) (by decide) dX4_digest_210 ?_
                          refine W.eq (g2 := F0 m 211 ls [.int (nI 0)]) rfl ?_
                          refine lv_istore (lv' := [(7, .int (nI 0)), (6, .int (nI j)), (5, .int (nI 201)), (4, .ref (m0 + 11 + i)), (1, .long (dgC ((((((dMb i * 31 + (fnM 0).toInt64) * 31 + (fnM 1).toInt64) * 31 + (fnM 2).toInt64) * 31 + (fnM 3).toInt64) * 31 + (fnM 4).toInt64)) j)), (3, .int (nI i)), (0, .ref m0)]) hx hb dX4_digest_211 hl (by decide) rfl (fun ls hl => ?_)
                          refine lv_lload_n hx hb dX4_digest_213 rfl (lv_at hl 4 rfl) ?_
                          refine lv_ldc2 hx hb hown (hts (.constantLong RX4 170 31) (by decide +kernel)) dX4_digest_214 ?_
                          refine lv_lmul hx hb dX4_digest_217 ?_
                          refine lv_iload hx hb dX4_digest_218 (lv_at hl 0 rfl) ?_
                          refine lv_i2l (v := (nI 0).toInt64) hx hb dX4_digest_220 rfl ?_
                          refine lv_ladd hx hb dX4_digest_221 ?_
                          refine lv_lstore_n (lv' := [(1, .long (((dgC ((((((dMb i * 31 + (fnM 0).toInt64) * 31 + (fnM 1).toInt64) * 31 + (fnM 2).toInt64) * 31 + (fnM 3).toInt64) * 31 + (fnM 4).toInt64)) j) * 31) + ((nI 0).toInt64))), (7, .int (nI 0)), (6, .int (nI j)), (5, .int (nI 201)), (4, .ref (m0 + 11 + i)), (3, .int (nI i)), (0, .ref m0)]) hx hb dX4_digest_222 rfl hl (by decide) rfl (fun ls hl => ?_)
                          refine lv_iinc (v := nI (j + 1)) (lv' := [(6, .int (nI (j + 1))), (1, .long (((dgC ((((((dMb i * 31 + (fnM 0).toInt64) * 31 + (fnM 1).toInt64) * 31 + (fnM 2).toInt64) * 31 + (fnM 3).toInt64) * 31 + (fnM 4).toInt64)) j) * 31) + ((nI 0).toInt64))), (7, .int (nI 0)), (5, .int (nI 201)), (4, .ref (m0 + 11 + i)), (3, .int (nI i)), (0, .ref m0)]) hx hb dX4_digest_223 hl (k := 2) rfl (inc_1 _) (by decide) rfl (fun ls hl => ?_)
                          refine lv_goto (tgt := 199) hx hb dX4_digest_226 (by decide) ?_
                          have e6 : ((dgC ((((((dMb i * 31 + (fnM 0).toInt64) * 31 + (fnM 1).toInt64) * 31 + (fnM 2).toInt64) * 31 + (fnM 3).toInt64) * 31 + (fnM 4).toInt64)) j) * 31) + ((nI 0).toInt64) = dgC ((((((dMb i * 31 + (fnM 0).toInt64) * 31 + (fnM 1).toInt64) * 31 + (fnM 2).toInt64) * 31 + (fnM 3).toInt64) * 31 + (fnM 4).toInt64)) (j + 1) := by exact (dgC_s _ j).symm
                          exact hnext_j _ _ _ ⟨hS, lv_sub (lv_ex hl 1 rfl (congrArg Value.long e6)) [0, 3, 4, 1, 5, 6] rfl, hw⟩
                      · skip
                        intro H locs ls hin9
                        obtain ⟨hS, hl, hw⟩ := hin9
                        refine lv_iload hx hb dX4_digest_199 (lv_at hl 0 rfl) ?_
                        refine lv_iload hx hb dX4_digest_201 (lv_at hl 1 rfl) ?_
                        refine lv_icmp_ge (tgt := 229) hx hb dX4_digest_203 (by decide) (fun c203 => ?_) (fun c203 => ?_)
                        · skip
                          have c203 : 201 ≤ 201 := (nc_le (a := 201) (b := 201) (by omega) (by omega)).mp c203
                          refine lv_iinc (v := nI (i + 1)) (lv' := [(3, .int (nI (i + 1))), (6, .int (nI 201)), (5, .int (nI 201)), (4, .ref (m0 + 11 + i)), (1, .long (dgC ((((((dMb i * 31 + (fnM 0).toInt64) * 31 + (fnM 1).toInt64) * 31 + (fnM 2).toInt64) * 31 + (fnM 3).toInt64) * 31 + (fnM 4).toInt64)) 201)), (0, .ref m0)]) hx hb dX4_digest_229 hl (k := 4) rfl (inc_1 _) (by decide) rfl (fun ls hl => ?_)
                          refine lv_goto (tgt := 148) hx hb dX4_digest_232 (by decide) ?_
                          have e7 : dgC ((((((dMb i * 31 + (fnM 0).toInt64) * 31 + (fnM 1).toInt64) * 31 + (fnM 2).toInt64) * 31 + (fnM 3).toInt64) * 31 + (fnM 4).toInt64)) 201 = dMb (i + 1) := by exact (dMb_s i).symm
                          exact W.cs9 (by omega) (by omega) (hnext _ _ _ ⟨hS, lv_sub (lv_ex hl 4 rfl (congrArg Value.long e7)) [0, 4, 5] rfl, hw⟩)
                        · skip
                          have c203 : ¬ (201 ≤ 201) := fun q9 => c203 ((nc_le (a := 201) (b := 201) (by omega) (by omega)).mpr q9)
                          omega
                    · skip
                      have c159 : ¬ (5 ≤ 5) := fun q9 => c159 ((nc_le (a := 5) (b := 5) (by omega) (by omega)).mpr q9)
                      omega
      · skip
        intro H locs ls hin9
        obtain ⟨hS, hl, hw⟩ := hin9
        refine lv_iload_n hx hb dX4_digest_148 rfl (lv_at hl 0 rfl) ?_
        refine lv_iconst (v := nI 5) hx hb dX4_digest_149 (by decide) ?_
        refine lv_icmp_ge (tgt := 235) hx hb dX4_digest_150 (by decide) (fun c150 => ?_) (fun c150 => ?_)
        · skip
          have c150 : 5 ≤ 5 := (nc_le (a := 5) (b := 5) (by omega) (by omega)).mp c150
          refine lv_lload_n hx hb dX4_digest_235 rfl (lv_at hl 1 rfl) ?_
          refine lv_ldc2 hx hb hown (hts (.constantLong RX4 170 31) (by decide +kernel)) dX4_digest_236 ?_
          refine lv_lmul hx hb dX4_digest_239 ?_
          refine lv_aload_n hx hb dX4_digest_240 rfl (lv_at hl 2 rfl) ?_
          refine lv_sipush (v := nI 255) hx hb dX4_digest_241 (by decide) ?_
          refine lv_iconst (v := nI 1) hx hb dX4_digest_244 (by decide) ?_
          refine vp_callSi (va_runV (As := [.int (nI 255), .int (nI 1)]) (rest := [.long ((dMb 5) * 31)]) ⟨hx, hb, hml, hown, hts⟩ (conX4_thickerNow l D T m0 (nI 0) (nI 255) (nI 1)) (cwV 2 hts gX4_digest_X4_thickerNow rfl rfl rfl (by decide +kernel) ⟨Nat.le_of_ble_eq_true rfl, Nat.le_of_ble_eq_true rfl⟩) (preV hK hw.o rfl hw) rfl rfl hl.1 rfl (lv_room (Nat.le_of_ble_eq_true rfl)) dX4_digest_245 ⟨Nat.le_of_ble_eq_true rfl, Nat.le_of_ble_eq_true rfl⟩).run (fun r8 hr8 => ?_)
          rw [hr8]
          rw [thkM_1]
          refine lv_i2l (v := (nI 0).toInt64) hx hb dX4_digest_248 rfl ?_
          refine lv_ladd hx hb dX4_digest_249 ?_
          refine lv_ldc2 hx hb hown (hts (.constantLong RX4 170 31) (by decide +kernel)) dX4_digest_250 ?_
          refine lv_lmul hx hb dX4_digest_253 ?_
          refine lv_aload_n hx hb dX4_digest_254 rfl (lv_at hl 2 rfl) ?_
          refine lv_sipush (v := nI 255) hx hb dX4_digest_255 (by decide) ?_
          refine lv_iconst (v := nI 2) hx hb dX4_digest_258 (by decide) ?_
          refine vp_callSi (va_runV (As := [.int (nI 255), .int (nI 2)]) (rest := [.long ((((dMb 5) * 31) + ((nI 0).toInt64)) * 31)]) ⟨hx, hb, hml, hown, hts⟩ (conX4_thickerNow l D T m0 (nI 0) (nI 255) (nI 2)) (cwV 2 hts gX4_digest_X4_thickerNow rfl rfl rfl (by decide +kernel) ⟨Nat.le_of_ble_eq_true rfl, Nat.le_of_ble_eq_true rfl⟩) (preV hK hw.o rfl hw) rfl rfl hl.1 rfl (lv_room (Nat.le_of_ble_eq_true rfl)) dX4_digest_259 ⟨Nat.le_of_ble_eq_true rfl, Nat.le_of_ble_eq_true rfl⟩).run (fun r9 hr9 => ?_)
          rw [hr9]
          rw [thkM_2]
          refine lv_i2l (v := (nI 0).toInt64) hx hb dX4_digest_262 rfl ?_
          refine lv_ladd hx hb dX4_digest_263 ?_
          refine lv_ldc2 hx hb hown (hts (.constantLong RX4 170 31) (by decide +kernel)) dX4_digest_264 ?_
          refine lv_lmul hx hb dX4_digest_267 ?_
          refine lv_aload_n hx hb dX4_digest_268 rfl (lv_at hl 2 rfl) ?_
          refine lv_sipush (v := nI 255) hx hb dX4_digest_269 (by decide) ?_
          refine vp_callSi (va_runV (As := [.int (nI 255)]) (rest := [.long ((((((dMb 5) * 31) + ((nI 0).toInt64)) * 31) + ((nI 0).toInt64)) * 31)]) ⟨hx, hb, hml, hown, hts⟩ (conX4_pinsNow l D T m0 (nI 0) (nI 255)) (cwV 1 hts gX4_digest_X4_pinsNow rfl rfl rfl (by decide +kernel) ⟨Nat.le_of_ble_eq_true rfl, Nat.le_of_ble_eq_true rfl⟩) (preV hK hw.o rfl hw) rfl rfl hl.1 rfl (lv_room (Nat.le_of_ble_eq_true rfl)) dX4_digest_272 ⟨Nat.le_of_ble_eq_true rfl, Nat.le_of_ble_eq_true rfl⟩).run (fun r10 hr10 => ?_)
          rw [hr10]
          refine lv_i2l (v := (nI 0).toInt64) hx hb dX4_digest_275 rfl ?_
          refine lv_ladd hx hb dX4_digest_276 ?_
          refine lv_ldc2 hx hb hown (hts (.constantLong RX4 170 31) (by decide +kernel)) dX4_digest_277 ?_
          refine lv_lmul hx hb dX4_digest_280 ?_
          refine lv_aload_n hx hb dX4_digest_281 rfl (lv_at hl 2 rfl) ?_
          refine lv_sipush (v := nI 255) hx hb dX4_digest_282 (by decide) ?_
          refine vp_callSi (va_runV (As := [.int (nI 255)]) (rest := [.long ((((((((dMb 5) * 31) + ((nI 0).toInt64)) * 31) + ((nI 0).toInt64)) * 31) + ((nI 0).toInt64)) * 31)]) ⟨hx, hb, hml, hown, hts⟩ (conX4_pinsNow l D T m0 (nI 0) (nI 255)) (cwV 1 hts gX4_digest_X4_pinsNow rfl rfl rfl (by decide +kernel) ⟨Nat.le_of_ble_eq_true rfl, Nat.le_of_ble_eq_true rfl⟩) (preV hK hw.o rfl hw) rfl rfl hl.1 rfl (lv_room (Nat.le_of_ble_eq_true rfl)) dX4_digest_285 ⟨Nat.le_of_ble_eq_true rfl, Nat.le_of_ble_eq_true rfl⟩).run (fun r11 hr11 => ?_)
          rw [hr11]
          refine lv_i2l (v := (nI 0).toInt64) hx hb dX4_digest_288 rfl ?_
          refine lv_ladd hx hb dX4_digest_289 ?_
          refine lv_lstore_n (lv' := [(1, .long (((((((((dMb 5) * 31) + ((nI 0).toInt64)) * 31) + ((nI 0).toInt64)) * 31) + ((nI 0).toInt64)) * 31) + ((nI 0).toInt64))), (3, .int (nI 5)), (0, .ref m0)]) hx hb dX4_digest_290 rfl hl (by decide) rfl (fun ls hl => ?_)
          refine lv_iconst (v := nI 0) hx hb dX4_digest_291 (by decide) ?_
          refine lv_istore_n (lv' := [(3, .int (nI 0)), (1, .long (((((((((dMb 5) * 31) + ((nI 0).toInt64)) * 31) + ((nI 0).toInt64)) * 31) + ((nI 0).toInt64)) * 31) + ((nI 0).toInt64))), (0, .ref m0)]) hx hb dX4_digest_292 rfl hl (by decide) rfl (fun ls hl => ?_)
          refine q_forg (fun (i : Nat) (H : Heap) (locs : List Loc) (ls : Array Slot) => va_S A s.heap H locs ∧ lv_has ls 8 [(3, .int (nI i)), (1, .long (dgC (dMt (dMb 5)) i)), (0, .ref m0)] ∧ MF D T m0 (nI 0) H) 8 2 201 ?_ ?_ ?_
          · skip
            have e12 : ((((((((dMb 5) * 31) + ((nI 0).toInt64)) * 31) + ((nI 0).toInt64)) * 31) + ((nI 0).toInt64)) * 31) + ((nI 0).toInt64) = dgC (dMt (dMb 5)) 0 := by exact (dMt_e _).trans (dgC_0 _).symm
            exact ⟨hS, lv_sub (lv_ex hl 1 rfl (congrArg Value.long e12)) [0, 1, 2] rfl, hw⟩
          · skip
            intro i H locs ls hi9 hin9 hnext
            obtain ⟨hS, hl, hw⟩ := hin9
            refine lv_iload_n hx hb dX4_digest_293 rfl (lv_at hl 0 rfl) ?_
            refine lv_bipush (v := nI 8) hx hb dX4_digest_294 (by decide) ?_
            refine lv_icmp_ge (tgt := 328) hx hb dX4_digest_296 (by decide) (fun c296 => ?_) (fun c296 => ?_)
            · skip
              have c296 : 8 ≤ i := (nc_le (a := 8) (b := i) (by omega) (by omega)).mp c296
              omega
            · skip
              have c296 : ¬ (8 ≤ i) := fun q9 => c296 ((nc_le (a := 8) (b := i) (by omega) (by omega)).mpr q9)
              refine lv_lload_n hx hb dX4_digest_299 rfl (lv_at hl 1 rfl) ?_
              refine lv_ldc2 hx hb hown (hts (.constantLong RX4 170 31) (by decide +kernel)) dX4_digest_300 ?_
              refine lv_lmul hx hb dX4_digest_303 ?_
              refine lv_aload_n hx hb dX4_digest_304 rfl (lv_at hl 2 rfl) ?_
              refine lv_sipush (v := nI 255) hx hb dX4_digest_305 (by decide) ?_
              refine lv_iconst (v := nI 1) hx hb dX4_digest_308 (by decide) ?_
              refine lv_iload_n hx hb dX4_digest_309 rfl (lv_at hl 0 rfl) ?_
              refine lv_ishl hx hb dX4_digest_310 ?_
              refine lv_isub hx hb dX4_digest_311 ?_
              refine lv_iload_n hx hb dX4_digest_312 rfl (lv_at hl 0 rfl) ?_
              obtain ⟨b1, hb1⟩ : ∃ z : Nat, z = H.size := ⟨_, rfl⟩
              have lw_b1 : m0 + 16 ≤ b1 := by have h8 := hw.lt; omega
              have ln_b1 : s.heap.size ≤ b1 := by have h8 := hS.1; omega
              refine va_callr (va_runV (As := [.int ((nI 255) - ((nI 1) <<< ((nI i) &&& 31))), .int (nI i)]) (rest := [.long ((dgC (dMt (dMb 5)) i) * 31)]) ⟨hx, hb, hml, hown, hts⟩ (conX4_coverNow l D T b1 m0 (nI 0) ((nI 255) - ((nI 1) <<< ((nI i) &&& 31))) i (by omega)) (cwV 2 hts gX4_digest_X4_coverNow rfl rfl rfl (by decide +kernel) ⟨Nat.le_of_ble_eq_true rfl, Nat.le_of_ble_eq_true rfl⟩) (preV hK hw.o rfl ⟨hb1.symm, hw⟩) rfl rfl hl.1 rfl (lv_room (Nat.le_of_ble_eq_true rfl)) dX4_digest_313 ⟨by show _ ≤ 89; omega, by show _ ≤ 16281; omega⟩) hS (fun q _ h9 => (hA q (by have h8 : b1 ≤ q := h9; omega))) (fun q h9 => (hA q (by have h8 : b1 ≤ q := h9; omega))) (fun u ra t H1 locs1 ht hvm hw9 hB hz1 hk1 hS => ?_)
              try dsimp only at hB
              rw [ht] at hB
              obtain ⟨a13, rfl⟩ : ∃ z, z = ra := ⟨_, rfl⟩
              obtain ⟨hz_a13, na13⟩ := hB
              replace hw := hw.kept hk1 (fun q h7 h8 (h9 : b1 ≤ q) => by omega)
              refine vp_callSi (va_runS (As := [.ref a13]) (rest := [.long ((dgC (dMt (dMb 5)) i) * 31)]) ⟨hx, hb, hml, hown, hts⟩ (conX4_size l D T a13) (va_cwS 1 hts gX4_digest_X4_size rfl rfl rfl (by decide +kernel) ⟨Nat.le_of_ble_eq_true rfl, Nat.le_of_ble_eq_true rfl⟩) (preS hK na13) rfl rfl hl.1 rfl (lv_room (Nat.le_of_ble_eq_true rfl)) dX4_digest_316 ⟨by show _ ≤ 89; omega, by show _ ≤ 16281; omega⟩).run (fun r14 hr14 => ?_)
              rw [hr14]
              refine lv_i2l (v := (nI 0).toInt64) hx hb dX4_digest_319 rfl ?_
              refine lv_ladd hx hb dX4_digest_320 ?_
              refine lv_lstore_n (lv' := [(1, .long (((dgC (dMt (dMb 5)) i) * 31) + ((nI 0).toInt64))), (3, .int (nI i)), (0, .ref m0)]) hx hb dX4_digest_321 rfl hl (by decide) rfl (fun ls hl => ?_)
              refine lv_iinc (v := nI (i + 1)) (lv' := [(3, .int (nI (i + 1))), (1, .long (((dgC (dMt (dMb 5)) i) * 31) + ((nI 0).toInt64))), (0, .ref m0)]) hx hb dX4_digest_322 hl (k := 1) rfl (inc_1 _) (by decide) rfl (fun ls hl => ?_)
              refine lv_goto (tgt := 293) hx hb dX4_digest_325 (by decide) ?_
              have e15 : ((dgC (dMt (dMb 5)) i) * 31) + ((nI 0).toInt64) = dgC (dMt (dMb 5)) (i + 1) := by exact (dgC_s _ i).symm
              exact W.cs9 (by omega) (by omega) (hnext _ _ _ ⟨hS, lv_sub (lv_ex hl 1 rfl (congrArg Value.long e15)) [0, 1, 2] rfl, hw⟩)
          · skip
            intro H locs ls hin9
            obtain ⟨hS, hl, hw⟩ := hin9
            refine lv_iload_n hx hb dX4_digest_293 rfl (lv_at hl 0 rfl) ?_
            refine lv_bipush (v := nI 8) hx hb dX4_digest_294 (by decide) ?_
            refine lv_icmp_ge (tgt := 328) hx hb dX4_digest_296 (by decide) (fun c296 => ?_) (fun c296 => ?_)
            · skip
              have c296 : 8 ≤ 8 := (nc_le (a := 8) (b := 8) (by omega) (by omega)).mp c296
              refine lv_lload_n hx hb dX4_digest_328 rfl (lv_at hl 1 rfl) ?_
              have ht9 : tw_digest  = nI 0 := by unfold tw_digest; rfl
              refine W.widen (k := 89) (n := 16281) (by first | omega | decide) (by first | omega | decide) ?_
              exact W.lret (v := dgC (dMt (dMb 5)) 8) hx hb hr (fun t ht _ => ⟨⟨dgC (dMt (dMb 5)) 8, (), rfl, by intro _; exact dMv_e, by dsimp only; rw [ht]; exact (by rw [ht9]; exact ⟨_, _, hw.o⟩)⟩, hS.F ht⟩) hS.2.2 dX4_digest_329
            · skip
              have c296 : ¬ (8 ≤ 8) := fun q9 => c296 ((nc_le (a := 8) (b := 8) (by omega) (by omega)).mpr q9)
              omega
        · skip
          have c150 : ¬ (5 ≤ 5) := fun q9 => c150 ((nc_le (a := 5) (b := 5) (by omega) (by omega)).mpr q9)
          omega
    · skip
      have c14 : ¬ (8 ≤ 8) := fun q9 => c14 ((nc_le (a := 8) (b := 8) (by omega) (by omega)).mpr q9)
      omega
