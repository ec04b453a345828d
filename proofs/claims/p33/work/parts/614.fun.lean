/-! THE LAW: the functions -/
theorem mea_ok {v : Nat → Int32} (hv : ∀ g : Nat, g < 201 → inL (v g)) {f : Nat → Int32} {len : Nat} (hl : 0 < len) (hl2 : len ≤ 100) (q1 : ¬ nI len * facFv v 2 < aroV v f 100) : Op.cmpValue (FP.dcmp (meaV (aroV v f 100) (nI len)) (FP.i2d (facFv v 2))) .l ≤ 0 := by
  obtain ⟨g1, go, g2, g3⟩ := grt_ok hv
  have hg : inL (facFv v 2) := by rw [of2, g3]; exact hv go g2
  have h1 := Int32.not_lt.mp q1
  rw [Int32.le_iff_toInt_le, mul_t hl2 hg] at h1
  exact Int32.not_lt.mp (mea_le hl hl2 h1)
set_option maxHeartbeats 40000000 in
set_option maxRecDepth 100000 in
theorem seg_fn {p : Program} {l : Launch} {e : Env} {s : State} {m : MethodId} {args : Array Value} {below : List Frame} {meth : Method} {c : Code} {Q : State → Prop} {D : va_G} {T : Nat → ClassId} {A : Nat → Prop} {H : Heap} {locs : List Loc} {cells slots : Nat} {ls : Array Slot} (hc : LCx p s m args c D T) {ad : Nat → Nat} {o sc N : Nat} {sf : Nat → Int32} (hN : N < 2 ^ 30) (hA : ∀ z : Nat, o ≤ z → A z) (hcm : cells ≤ 600086) (hsm : slots ≤ 7301442) (hS : va_S A s.heap H locs) {d : Nat} {F V : Nat → Nat → Int32} {L : Nat → SL} {U : Nat → Nat → Int32} {b ti st : Nat} {d0 : Int64} (hd : d + 100 < 2 ^ 29) (hcs : CS D T ad o sc N sf d F V L U H) (hV : ∀ i g : Nat, i < 5 → g < 201 → inL (V i g)) (hl : lv_has ls 17 [(5, .long d0), (4, .int (nI st)), (3, .ref (ad 0)), (2, .ref o), (1, .int (nI ti)), (0, .ref b)]) (kk971 : ∀ (H1 : Heap) (locs1 : List Loc) (ls1 : Array Slot), va_S A s.heap H1 locs1 → lv_has ls1 17 [(5, .long d0), (4, .int (nI st)), (3, .ref (ad 0)), (2, .ref o), (1, .int (nI ti)), (0, .ref b)] → CS D T ad o sc N sf (d + 5) F V L U H1 → W p l e room_1 s m args below meth c H1 locs1 cells slots Q (F0 m 971 ls1 [])) : W p l e room_1 s m args below meth c H locs cells slots Q (F0 m 757 ls []) := by
  obtain ⟨hx, hb, hml, hown, hts, hK⟩ := hc
  refine lv_iconst (v := nI 0) hx hb dL_law_757 (by decide) ?_
  refine lv_istore (lv' := [(9, .int (nI 0)), (5, .long d0), (4, .int (nI st)), (3, .ref (ad 0)), (2, .ref o), (1, .int (nI ti)), (0, .ref b)]) hx hb dL_law_758 hl (by decide) rfl (fun ls hl => ?_)
  refine q_for (fun (i : Nat) (H : Heap) (locs : List Loc) (ls : Array Slot) => va_S A s.heap H locs ∧ lv_has ls 17 [(9, .int (nI i)), (5, .long d0), (4, .int (nI st)), (3, .ref (ad 0)), (2, .ref o), (1, .int (nI ti)), (0, .ref b)] ∧ CS D T ad o sc N sf (d + i) F V L U H) (N := 5) 0 (by omega) ?_ ?_ ?_
  · skip
    exact ⟨hS, lv_sub hl [0, 1, 2, 3, 4, 5, 6] rfl, (by exact hcs)⟩
  · skip
    intro i H locs ls hi9 hin9 hnext
    obtain ⟨hS, hl, hcs⟩ := hin9
    refine lv_iload hx hb dL_law_760 (lv_at hl 0 rfl) ?_
    refine lv_iconst (v := nI 5) hx hb dL_law_762 (by decide) ?_
    refine lv_icmp_ge (tgt := 971) hx hb dL_law_763 (by decide) (fun c763 => ?_) (fun c763 => ?_)
    · skip
      have c763 : 5 ≤ i := (nc_le (a := 5) (b := i) (by omega) (by omega)).mp c763
      omega
    · skip
      have c763 : ¬ (5 ≤ i) := fun q9 => c763 ((nc_le (a := 5) (b := i) (by omega) (by omega)).mpr q9)
      refine lv_aload_n hx hb dL_law_766 rfl (lv_at hl 4 rfl) ?_
      refine lv_bipush (v := nI 8) hx hb dL_law_767 (by decide) ?_
      have hcs8 := hcs
      obtain ⟨dr, sr, C, la, vv, hdr, ho9, hsn, hw⟩ := hcs8
      refine va_calli (va_runV (As := [.int (nI 8)]) (rest := []) ⟨hx, hb, hml, hown, hts⟩ (conX4_draw l D T ad o sc N sf dr F V sr C L U la vv (by omega) (by omega) 8 (by omega) (by omega)) (cwV 1 hts gL_law_X4_draw rfl rfl rfl (by decide +kernel) ⟨Nat.le_of_ble_eq_true rfl, Nat.le_of_ble_eq_true rfl⟩) (preV hK hw.ob rfl hw) rfl rfl hl.1 rfl (lv_room (Nat.le_of_ble_eq_true rfl)) dL_law_769 ⟨by show _ ≤ 600086; omega, by show _ ≤ 7301442; omega⟩) hS (fun q _ h9 => (by have h8 : q = o := h9; rw [h8]; exact hA o (Nat.le_refl _))) (fun q h9 => (by have h8 : q = o := h9; rw [h8]; exact hA o (Nat.le_refl _))) (fun r u t H1 locs1 ht hvm hw9 hB hz1 hk1 hS => ?_)
      try dsimp only at hB
      rw [ht] at hB
      obtain ⟨k1, hk1, rfl⟩ := hw9
      replace hcs : CS D T ad o sc N sf (d + i + 1) F V L U H1 := ⟨dr + 1, sr, C, la, vv, by omega, by omega, hsn, hB⟩
      refine lv_istore (lv' := [(10, .int (nI k1)), (9, .int (nI i)), (5, .long d0), (4, .int (nI st)), (3, .ref (ad 0)), (2, .ref o), (1, .int (nI ti)), (0, .ref b)]) hx hb dL_law_772 hl (by decide) rfl (fun ls hl => ?_)
      have hv9 : ∀ g : Nat, g < 201 → inL (V i g) := fun g hg => hV i g (by omega) hg
      obtain ⟨c0, hc0, ec0⟩ := of0 (V i)
      obtain ⟨j3, hj3, ej3, ev3⟩ := of3_ok hv9
      obtain ⟨len9, hl9, e9, q1, q2, q3, q4⟩ := are_ok hv9 (F k1)
      refine lv_aload_n hx hb dL_law_774 rfl (lv_at hl 4 rfl) ?_
      refine lv_iload hx hb dL_law_775 (lv_at hl 1 rfl) ?_
      refine lv_iconst (v := nI 4) hx hb dL_law_777 (by decide) ?_
      have hcs8 := hcs
      obtain ⟨dr, sr, C, la, vv, hdr, ho9, hsn, hw⟩ := hcs8
      refine vp_callSi (va_runV (As := [.int (nI i), .int (nI 4)]) (rest := []) ⟨hx, hb, hml, hown, hts⟩ (conX3_ofFunction l D T ad F V sr C i (by omega) 4 (by omega)) (cwV 2 hts gL_law_X3_ofFunction rfl rfl rfl (by decide +kernel) ⟨Nat.le_of_ble_eq_true rfl, Nat.le_of_ble_eq_true rfl⟩) (preV hK hw.pl.o rfl hw.pl) rfl rfl hl.1 rfl (lv_room (Nat.le_of_ble_eq_true rfl)) dL_law_778 ⟨by show _ ≤ 600086; omega, by show _ ≤ 7301442; omega⟩).run (fun r1 hr1 => ?_)
      rw [hr1]
      refine lv_istore (lv' := [(11, .int (facFv (V i) 4)), (10, .int (nI k1)), (9, .int (nI i)), (5, .long d0), (4, .int (nI st)), (3, .ref (ad 0)), (2, .ref o), (1, .int (nI ti)), (0, .ref b)]) hx hb dL_law_781 hl (by decide) rfl (fun ls hl => ?_)
      refine lv_aload_n hx hb dL_law_783 rfl (lv_at hl 5 rfl) ?_
      refine lv_iload hx hb dL_law_784 (lv_at hl 2 rfl) ?_
      refine lv_iload hx hb dL_law_786 (lv_at hl 1 rfl) ?_
      have hcs8 := hcs
      obtain ⟨dr, sr, C, la, vv, hdr, ho9, hsn, hw⟩ := hcs8
      refine vp_callSi (va_runV (As := [.int (nI i), .int (nI k1)]) (rest := []) ⟨hx, hb, hml, hown, hts⟩ (conX3_area l D T ad F V sr C i (by omega) k1 (by omega)) (cwV 2 hts gL_law_X3_area rfl rfl rfl (by decide +kernel) ⟨Nat.le_of_ble_eq_true rfl, Nat.le_of_ble_eq_true rfl⟩) (preV hK hw.pl.o rfl hw.pl) rfl rfl hl.1 rfl (lv_room (Nat.le_of_ble_eq_true rfl)) dL_law_788 ⟨by show _ ≤ 600086; omega, by show _ ≤ 7301442; omega⟩).run (fun r2 hr2 => ?_)
      rw [hr2]
      refine lv_istore (lv' := [(12, .int (aroV (V i) (F k1) 100)), (11, .int (facFv (V i) 4)), (10, .int (nI k1)), (9, .int (nI i)), (5, .long d0), (4, .int (nI st)), (3, .ref (ad 0)), (2, .ref o), (1, .int (nI ti)), (0, .ref b)]) hx hb dL_law_791 hl (by decide) rfl (fun ls hl => ?_)
      refine lv_aload_n hx hb dL_law_793 rfl (lv_at hl 6 rfl) ?_
      refine lv_iload hx hb dL_law_794 (lv_at hl 2 rfl) ?_
      refine lv_iconst (v := nI 2) hx hb dL_law_796 (by decide) ?_
      have hcs8 := hcs
      obtain ⟨dr, sr, C, la, vv, hdr, ho9, hsn, hw⟩ := hcs8
      refine va_calli (va_runV (As := [.int (nI k1), .int (nI 2)]) (rest := []) ⟨hx, hb, hml, hown, hts⟩ (conX3_ofSet l D T ad F V sr C k1 2 (by omega) (by omega) hsn) (cwV 2 hts gL_law_X3_ofSet rfl rfl rfl (by decide +kernel) ⟨Nat.le_of_ble_eq_true rfl, Nat.le_of_ble_eq_true rfl⟩) (preV hK hw.pl.o rfl hw.pl) rfl rfl hl.1 rfl (lv_room (Nat.le_of_ble_eq_true rfl)) dL_law_797 ⟨by show _ ≤ 600086; omega, by show _ ≤ 7301442; omega⟩) hS (fun q _ h9 => (by obtain ⟨i9, h8, rfl⟩ := h9; exact hA _ (by have := hw.1 i9 h8; omega))) (fun q h9 => (by obtain ⟨i9, h8, rfl⟩ := h9; exact hA _ (by have := hw.1 i9 h8; omega))) (fun r u t H1 locs1 ht hvm hw9 hB hz1 hk1 hS => ?_)
      try dsimp only at hB
      rw [ht] at hB
      rw [hw9]
      replace hcs : CS D T ad o sc N sf (d + i + 1) F V L U H1 := ⟨dr, (facSr (F k1) 2 sr), _, la, vv, by omega, by omega, (facSr_le hsn), hw.setP hB (fun q h1 h2 => hk1 q h1 h2)⟩
      rw [os2, ← e9]
      refine lv_istore (lv' := [(13, .int (nI len9)), (12, .int (aroV (V i) (F k1) 100)), (11, .int (facFv (V i) 4)), (10, .int (nI k1)), (9, .int (nI i)), (5, .long d0), (4, .int (nI st)), (3, .ref (ad 0)), (2, .ref o), (1, .int (nI ti)), (0, .ref b)]) hx hb dL_law_800 hl (by decide) rfl (fun ls hl => ?_)
      refine lv_aload_n hx hb dL_law_802 rfl (lv_at hl 7 rfl) ?_
      refine lv_iload hx hb dL_law_803 (lv_at hl 4 rfl) ?_
      refine lv_iconst (v := nI 0) hx hb dL_law_805 (by decide) ?_
      have hcs8 := hcs
      obtain ⟨dr, sr, C, la, vv, hdr, ho9, hsn, hw⟩ := hcs8
      refine vp_callSi (va_runV (As := [.int (nI i), .int (nI 0)]) (rest := []) ⟨hx, hb, hml, hown, hts⟩ (conX3_ofFunction l D T ad F V sr C i (by omega) 0 (by omega)) (cwV 2 hts gL_law_X3_ofFunction rfl rfl rfl (by decide +kernel) ⟨Nat.le_of_ble_eq_true rfl, Nat.le_of_ble_eq_true rfl⟩) (preV hK hw.pl.o rfl hw.pl) rfl rfl hl.1 rfl (lv_room (Nat.le_of_ble_eq_true rfl)) dL_law_806 ⟨by show _ ≤ 600086; omega, by show _ ≤ 7301442; omega⟩).run (fun r3 hr3 => ?_)
      rw [hr3]
      rw [ec0]
      refine lv_sipush (v := nI 201) hx hb dL_law_809 (by decide) ?_
      refine lv_icmp_gt (tgt := 963) hx hb dL_law_812 (by decide) (fun c812 => ?_) (fun c812 => ?_)
      · skip
        have c812 : 201 < c0 := (nc_lt (a := 201) (b := c0) (by omega) (by omega)).mp c812
        omega
      · skip
        have c812 : ¬ (201 < c0) := fun q9 => c812 ((nc_lt (a := 201) (b := c0) (by omega) (by omega)).mpr q9)
        refine lv_aload_n hx hb dL_law_815 rfl (lv_at hl 7 rfl) ?_
        refine lv_iload hx hb dL_law_816 (lv_at hl 4 rfl) ?_
        refine lv_iconst (v := nI 1) hx hb dL_law_818 (by decide) ?_
        have hcs8 := hcs
        obtain ⟨dr, sr, C, la, vv, hdr, ho9, hsn, hw⟩ := hcs8
        refine vp_callSi (va_runV (As := [.int (nI i), .int (nI 1)]) (rest := []) ⟨hx, hb, hml, hown, hts⟩ (conX3_ofFunction l D T ad F V sr C i (by omega) 1 (by omega)) (cwV 2 hts gL_law_X3_ofFunction rfl rfl rfl (by decide +kernel) ⟨Nat.le_of_ble_eq_true rfl, Nat.le_of_ble_eq_true rfl⟩) (preV hK hw.pl.o rfl hw.pl) rfl rfl hl.1 rfl (lv_room (Nat.le_of_ble_eq_true rfl)) dL_law_819 ⟨by show _ ≤ 600086; omega, by show _ ≤ 7301442; omega⟩).run (fun r4 hr4 => ?_)
        rw [hr4]
        refine lv_aload_n hx hb dL_law_822 rfl (lv_at hl 7 rfl) ?_
        refine lv_iload hx hb dL_law_823 (lv_at hl 4 rfl) ?_
        refine lv_iconst (v := nI 2) hx hb dL_law_825 (by decide) ?_
        have hcs8 := hcs
        obtain ⟨dr, sr, C, la, vv, hdr, ho9, hsn, hw⟩ := hcs8
        refine vp_callSi (va_runV (As := [.int (nI i), .int (nI 2)]) (rest := [.int (facFv (V i) 1)]) ⟨hx, hb, hml, hown, hts⟩ (conX3_ofFunction l D T ad F V sr C i (by omega) 2 (by omega)) (cwV 2 hts gL_law_X3_ofFunction rfl rfl rfl (by decide +kernel) ⟨Nat.le_of_ble_eq_true rfl, Nat.le_of_ble_eq_true rfl⟩) (preV hK hw.pl.o rfl hw.pl) rfl rfl hl.1 rfl (lv_room (Nat.le_of_ble_eq_true rfl)) dL_law_826 ⟨by show _ ≤ 600086; omega, by show _ ≤ 7301442; omega⟩).run (fun r5 hr5 => ?_)
        rw [hr5]
        refine lv_icmp_gt (tgt := 963) hx hb dL_law_829 (by decide) (fun c829 => ?_) (fun c829 => ?_)
        · skip
          exact absurd c829 (of12 hv9)
        · skip
          refine lv_aload_n hx hb dL_law_832 rfl (lv_at hl 7 rfl) ?_
          refine lv_iload hx hb dL_law_833 (lv_at hl 4 rfl) ?_
          refine lv_aload_n hx hb dL_law_835 rfl (lv_at hl 7 rfl) ?_
          refine lv_iload hx hb dL_law_836 (lv_at hl 4 rfl) ?_
          refine lv_iconst (v := nI 3) hx hb dL_law_838 (by decide) ?_
          have hcs8 := hcs
          obtain ⟨dr, sr, C, la, vv, hdr, ho9, hsn, hw⟩ := hcs8
          refine vp_callSi (va_runV (As := [.int (nI i), .int (nI 3)]) (rest := [.int (nI i), .ref (ad 0)]) ⟨hx, hb, hml, hown, hts⟩ (conX3_ofFunction l D T ad F V sr C i (by omega) 3 (by omega)) (cwV 2 hts gL_law_X3_ofFunction rfl rfl rfl (by decide +kernel) ⟨Nat.le_of_ble_eq_true rfl, Nat.le_of_ble_eq_true rfl⟩) (preV hK hw.pl.o rfl hw.pl) rfl rfl hl.1 rfl (lv_room (Nat.le_of_ble_eq_true rfl)) dL_law_839 ⟨by show _ ≤ 600086; omega, by show _ ≤ 7301442; omega⟩).run (fun r6 hr6 => ?_)
          rw [hr6]
          rw [ej3]
          have hcs8 := hcs
          obtain ⟨dr, sr, C, la, vv, hdr, ho9, hsn, hw⟩ := hcs8
          refine vp_callSi (va_runV (As := [.int (nI i), .int (nI j3)]) (rest := []) ⟨hx, hb, hml, hown, hts⟩ (conX3_value l D T ad F V sr C i (by omega) j3 (by omega)) (cwV 2 hts gL_law_X3_value rfl rfl rfl (by decide +kernel) ⟨Nat.le_of_ble_eq_true rfl, Nat.le_of_ble_eq_true rfl⟩) (preV hK hw.pl.o rfl hw.pl) rfl rfl hl.1 rfl (lv_room (Nat.le_of_ble_eq_true rfl)) dL_law_842 ⟨by show _ ≤ 600086; omega, by show _ ≤ 7301442; omega⟩).run (fun r7 hr7 => ?_)
          rw [hr7]
          rw [ev3]
          refine lv_aload_n hx hb dL_law_845 rfl (lv_at hl 7 rfl) ?_
          refine lv_iload hx hb dL_law_846 (lv_at hl 4 rfl) ?_
          refine lv_iconst (v := nI 2) hx hb dL_law_848 (by decide) ?_
          have hcs8 := hcs
          obtain ⟨dr, sr, C, la, vv, hdr, ho9, hsn, hw⟩ := hcs8
          refine vp_callSi (va_runV (As := [.int (nI i), .int (nI 2)]) (rest := [.int (facFv (V i) 2)]) ⟨hx, hb, hml, hown, hts⟩ (conX3_ofFunction l D T ad F V sr C i (by omega) 2 (by omega)) (cwV 2 hts gL_law_X3_ofFunction rfl rfl rfl (by decide +kernel) ⟨Nat.le_of_ble_eq_true rfl, Nat.le_of_ble_eq_true rfl⟩) (preV hK hw.pl.o rfl hw.pl) rfl rfl hl.1 rfl (lv_room (Nat.le_of_ble_eq_true rfl)) dL_law_849 ⟨by show _ ≤ 600086; omega, by show _ ≤ 7301442; omega⟩).run (fun r8 hr8 => ?_)
          rw [hr8]
          refine lv_icmp_ne (tgt := 963) hx hb dL_law_852 (by decide) (fun c852 => ?_) (fun c852 => ?_)
          · skip
            exact absurd rfl c852
          · skip
            refine lv_iload hx hb dL_law_855 (lv_at hl 1 rfl) ?_
            refine lv_iload hx hb dL_law_857 (lv_at hl 0 rfl) ?_
            refine lv_aload_n hx hb dL_law_859 rfl (lv_at hl 7 rfl) ?_
            refine lv_iload hx hb dL_law_860 (lv_at hl 4 rfl) ?_
            refine lv_iconst (v := nI 2) hx hb dL_law_862 (by decide) ?_
            have hcs8 := hcs
            obtain ⟨dr, sr, C, la, vv, hdr, ho9, hsn, hw⟩ := hcs8
            refine vp_callSi (va_runV (As := [.int (nI i), .int (nI 2)]) (rest := [.int (nI len9), .int (aroV (V i) (F k1) 100)]) ⟨hx, hb, hml, hown, hts⟩ (conX3_ofFunction l D T ad F V sr C i (by omega) 2 (by omega)) (cwV 2 hts gL_law_X3_ofFunction rfl rfl rfl (by decide +kernel) ⟨Nat.le_of_ble_eq_true rfl, Nat.le_of_ble_eq_true rfl⟩) (preV hK hw.pl.o rfl hw.pl) rfl rfl hl.1 rfl (lv_room (Nat.le_of_ble_eq_true rfl)) dL_law_863 ⟨by show _ ≤ 600086; omega, by show _ ≤ 7301442; omega⟩).run (fun r9 hr9 => ?_)
            rw [hr9]
            refine lv_imul hx hb dL_law_866 ?_
            refine lv_icmp_gt (tgt := 963) hx hb dL_law_867 (by decide) (fun c867 => ?_) (fun c867 => ?_)
            · skip
              exact absurd c867 q1
            · skip
              refine lv_iload hx hb dL_law_870 (lv_at hl 1 rfl) ?_
              refine lv_iload hx hb dL_law_872 (lv_at hl 0 rfl) ?_
              refine lv_aload_n hx hb dL_law_874 rfl (lv_at hl 7 rfl) ?_
              refine lv_iload hx hb dL_law_875 (lv_at hl 4 rfl) ?_
              refine lv_iconst (v := nI 1) hx hb dL_law_877 (by decide) ?_
              have hcs8 := hcs
              obtain ⟨dr, sr, C, la, vv, hdr, ho9, hsn, hw⟩ := hcs8
              refine vp_callSi (va_runV (As := [.int (nI i), .int (nI 1)]) (rest := [.int (nI len9), .int (aroV (V i) (F k1) 100)]) ⟨hx, hb, hml, hown, hts⟩ (conX3_ofFunction l D T ad F V sr C i (by omega) 1 (by omega)) (cwV 2 hts gL_law_X3_ofFunction rfl rfl rfl (by decide +kernel) ⟨Nat.le_of_ble_eq_true rfl, Nat.le_of_ble_eq_true rfl⟩) (preV hK hw.pl.o rfl hw.pl) rfl rfl hl.1 rfl (lv_room (Nat.le_of_ble_eq_true rfl)) dL_law_878 ⟨by show _ ≤ 600086; omega, by show _ ≤ 7301442; omega⟩).run (fun r10 hr10 => ?_)
              rw [hr10]
              refine lv_imul hx hb dL_law_881 ?_
              refine lv_icmp_lt (tgt := 963) hx hb dL_law_882 (by decide) (fun c882 => ?_) (fun c882 => ?_)
              · skip
                exact absurd c882 q2
              · skip
                refine lv_iload hx hb dL_law_885 (lv_at hl 2 rfl) ?_
                refine lv_iload hx hb dL_law_887 (lv_at hl 1 rfl) ?_
                refine lv_isub hx hb dL_law_889 ?_
                refine lv_bipush (v := nI 100) hx hb dL_law_890 (by decide) ?_
                refine lv_iload hx hb dL_law_892 (lv_at hl 0 rfl) ?_
                refine lv_isub hx hb dL_law_894 ?_
                refine lv_aload_n hx hb dL_law_895 rfl (lv_at hl 7 rfl) ?_
                refine lv_iload hx hb dL_law_896 (lv_at hl 4 rfl) ?_
                refine lv_iconst (v := nI 2) hx hb dL_law_898 (by decide) ?_
                have hcs8 := hcs
                obtain ⟨dr, sr, C, la, vv, hdr, ho9, hsn, hw⟩ := hcs8
                refine vp_callSi (va_runV (As := [.int (nI i), .int (nI 2)]) (rest := [.int ((nI 100) - (nI len9)), .int ((facFv (V i) 4) - (aroV (V i) (F k1) 100))]) ⟨hx, hb, hml, hown, hts⟩ (conX3_ofFunction l D T ad F V sr C i (by omega) 2 (by omega)) (cwV 2 hts gL_law_X3_ofFunction rfl rfl rfl (by decide +kernel) ⟨Nat.le_of_ble_eq_true rfl, Nat.le_of_ble_eq_true rfl⟩) (preV hK hw.pl.o rfl hw.pl) rfl rfl hl.1 rfl (lv_room (Nat.le_of_ble_eq_true rfl)) dL_law_899 ⟨by show _ ≤ 600086; omega, by show _ ≤ 7301442; omega⟩).run (fun r11 hr11 => ?_)
                rw [hr11]
                refine lv_imul hx hb dL_law_902 ?_
                refine lv_icmp_gt (tgt := 963) hx hb dL_law_903 (by decide) (fun c903 => ?_) (fun c903 => ?_)
                · skip
                  exact absurd c903 q3
                · skip
                  refine lv_iload hx hb dL_law_906 (lv_at hl 2 rfl) ?_
                  refine lv_iload hx hb dL_law_908 (lv_at hl 1 rfl) ?_
                  refine lv_isub hx hb dL_law_910 ?_
                  refine lv_bipush (v := nI 100) hx hb dL_law_911 (by decide) ?_
                  refine lv_iload hx hb dL_law_913 (lv_at hl 0 rfl) ?_
                  refine lv_isub hx hb dL_law_915 ?_
                  refine lv_aload_n hx hb dL_law_916 rfl (lv_at hl 7 rfl) ?_
                  refine lv_iload hx hb dL_law_917 (lv_at hl 4 rfl) ?_
                  refine lv_iconst (v := nI 1) hx hb dL_law_919 (by decide) ?_
                  have hcs8 := hcs
                  obtain ⟨dr, sr, C, la, vv, hdr, ho9, hsn, hw⟩ := hcs8
                  refine vp_callSi (va_runV (As := [.int (nI i), .int (nI 1)]) (rest := [.int ((nI 100) - (nI len9)), .int ((facFv (V i) 4) - (aroV (V i) (F k1) 100))]) ⟨hx, hb, hml, hown, hts⟩ (conX3_ofFunction l D T ad F V sr C i (by omega) 1 (by omega)) (cwV 2 hts gL_law_X3_ofFunction rfl rfl rfl (by decide +kernel) ⟨Nat.le_of_ble_eq_true rfl, Nat.le_of_ble_eq_true rfl⟩) (preV hK hw.pl.o rfl hw.pl) rfl rfl hl.1 rfl (lv_room (Nat.le_of_ble_eq_true rfl)) dL_law_920 ⟨by show _ ≤ 600086; omega, by show _ ≤ 7301442; omega⟩).run (fun r12 hr12 => ?_)
                  rw [hr12]
                  refine lv_imul hx hb dL_law_923 ?_
                  refine lv_icmp_lt (tgt := 963) hx hb dL_law_924 (by decide) (fun c924 => ?_) (fun c924 => ?_)
                  · skip
                    exact absurd c924 q4
                  · skip
                    refine lv_aload_n hx hb dL_law_927 rfl (lv_at hl 7 rfl) ?_
                    refine lv_iload hx hb dL_law_928 (lv_at hl 4 rfl) ?_
                    refine lv_iload hx hb dL_law_930 (lv_at hl 3 rfl) ?_
                    have hcs8 := hcs
                    obtain ⟨dr, sr, C, la, vv, hdr, ho9, hsn, hw⟩ := hcs8
                    refine vp_callSd (va_runV (As := [.int (nI i), .int (nI k1)]) (rest := []) ⟨hx, hb, hml, hown, hts⟩ (conX3_mean l D T ad F V sr C i (by omega) k1 (by omega)) (cwV 2 hts gL_law_X3_mean rfl rfl rfl (by decide +kernel) ⟨Nat.le_of_ble_eq_true rfl, Nat.le_of_ble_eq_true rfl⟩) (preV hK hw.pl.o rfl hw.pl) rfl rfl hl.1 rfl (lv_room (Nat.le_of_ble_eq_true rfl)) dL_law_932 ⟨by show _ ≤ 600086; omega, by show _ ≤ 7301442; omega⟩).run (fun r13 hr13 => ?_)
                    rw [hr13]
                    rw [lenZ_n, show oddB (pB (F k1)) (2 * 100 + 1) = len9 from e9.symm]
                    refine lv_aload_n hx hb dL_law_935 rfl (lv_at hl 7 rfl) ?_
                    refine lv_iload hx hb dL_law_936 (lv_at hl 4 rfl) ?_
                    refine lv_iconst (v := nI 2) hx hb dL_law_938 (by decide) ?_
                    have hcs8 := hcs
                    obtain ⟨dr, sr, C, la, vv, hdr, ho9, hsn, hw⟩ := hcs8
                    refine vp_callSi (va_runV (As := [.int (nI i), .int (nI 2)]) (rest := [.double (meaV (aroV (V i) (F k1) 100) (nI len9))]) ⟨hx, hb, hml, hown, hts⟩ (conX3_ofFunction l D T ad F V sr C i (by omega) 2 (by omega)) (cwV 2 hts gL_law_X3_ofFunction rfl rfl rfl (by decide +kernel) ⟨Nat.le_of_ble_eq_true rfl, Nat.le_of_ble_eq_true rfl⟩) (preV hK hw.pl.o rfl hw.pl) rfl rfl hl.1 rfl (lv_room (Nat.le_of_ble_eq_true rfl)) dL_law_939 ⟨by show _ ≤ 600086; omega, by show _ ≤ 7301442; omega⟩).run (fun r14 hr14 => ?_)
                    rw [hr14]
                    refine lv_i2d hx hb dL_law_942 ?_
                    refine lv_dcmp hx hb dL_law_943 ?_
                    rcases Nat.eq_zero_or_pos len9 with hz9 | hz9
                    · skip
                      refine lv_if_le (tgt := 952) hx hb dL_law_944 (by decide) (fun c944 => ?_) (fun c944 => ?_)
                      · skip
                        refine lv_aload_n hx hb dL_law_952 rfl (lv_at hl 7 rfl) ?_
                        refine lv_iload hx hb dL_law_953 (lv_at hl 4 rfl) ?_
                        refine lv_bipush (v := nI 100) hx hb dL_law_955 (by decide) ?_
                        have hcs8 := hcs
                        obtain ⟨dr, sr, C, la, vv, hdr, ho9, hsn, hw⟩ := hcs8
                        refine vp_callSi (va_runV (As := [.int (nI i), .int (nI 100)]) (rest := []) ⟨hx, hb, hml, hown, hts⟩ (conX3_best l D T ad F V sr C i (by omega) 100 (by omega) (by omega)) (cwV 2 hts gL_law_X3_best rfl rfl rfl (by decide +kernel) ⟨Nat.le_of_ble_eq_true rfl, Nat.le_of_ble_eq_true rfl⟩) (preV hK hw.pl.o rfl hw.pl) rfl rfl hl.1 rfl (lv_room (Nat.le_of_ble_eq_true rfl)) dL_law_957 ⟨by show _ ≤ 600086; omega, by show _ ≤ 7301442; omega⟩).run (fun r15 hr15 => ?_)
                        rw [hr15]
                        rw [bst_0]
                        refine lv_if_eq (tgt := 965) hx hb dL_law_960 (by decide) (fun c960 => ?_) (fun c960 => ?_)
                        · skip
                          have c960 : 0 = 0 := (nc_eq (a := 0) (b := 0) (by omega) (by omega)).mp c960
                          refine lv_iinc (v := nI (i + 1)) (lv' := [(9, .int (nI (i + 1))), (13, .int (nI len9)), (12, .int (aroV (V i) (F k1) 100)), (11, .int (facFv (V i) 4)), (10, .int (nI k1)), (5, .long d0), (4, .int (nI st)), (3, .ref (ad 0)), (2, .ref o), (1, .int (nI ti)), (0, .ref b)]) hx hb dL_law_965 hl (k := 4) rfl (inc_1 _) (by decide) rfl (fun ls hl => ?_)
                          refine lv_goto (tgt := 760) hx hb dL_law_968 (by decide) ?_
                          exact hnext _ _ _ ⟨hS, lv_sub hl [0, 5, 6, 7, 8, 9, 10] rfl, (by exact hcs)⟩
                        · skip
                          have c960 : ¬ (0 = 0) := fun q9 => c960 ((nc_eq (a := 0) (b := 0) (by omega) (by omega)).mpr q9)
                          omega
                      · skip
                        refine lv_iload hx hb dL_law_947 (lv_at hl 0 rfl) ?_
                        refine lv_if_gt (tgt := 963) hx hb dL_law_949 (by decide) (fun c949 => ?_) (fun c949 => ?_)
                        · skip
                          have c949 : 0 < len9 := (nc_lt (a := 0) (b := len9) (by omega) (by omega)).mp c949
                          omega
                        · skip
                          have c949 : ¬ (0 < len9) := fun q9 => c949 ((nc_lt (a := 0) (b := len9) (by omega) (by omega)).mpr q9)
                          refine lv_aload_n hx hb dL_law_952 rfl (lv_at hl 7 rfl) ?_
                          refine lv_iload hx hb dL_law_953 (lv_at hl 4 rfl) ?_
                          refine lv_bipush (v := nI 100) hx hb dL_law_955 (by decide) ?_
                          have hcs8 := hcs
                          obtain ⟨dr, sr, C, la, vv, hdr, ho9, hsn, hw⟩ := hcs8
                          refine vp_callSi (va_runV (As := [.int (nI i), .int (nI 100)]) (rest := []) ⟨hx, hb, hml, hown, hts⟩ (conX3_best l D T ad F V sr C i (by omega) 100 (by omega) (by omega)) (cwV 2 hts gL_law_X3_best rfl rfl rfl (by decide +kernel) ⟨Nat.le_of_ble_eq_true rfl, Nat.le_of_ble_eq_true rfl⟩) (preV hK hw.pl.o rfl hw.pl) rfl rfl hl.1 rfl (lv_room (Nat.le_of_ble_eq_true rfl)) dL_law_957 ⟨by show _ ≤ 600086; omega, by show _ ≤ 7301442; omega⟩).run (fun r16 hr16 => ?_)
                          rw [hr16]
                          rw [bst_0]
                          refine lv_if_eq (tgt := 965) hx hb dL_law_960 (by decide) (fun c960 => ?_) (fun c960 => ?_)
                          · skip
                            have c960 : 0 = 0 := (nc_eq (a := 0) (b := 0) (by omega) (by omega)).mp c960
                            refine lv_iinc (v := nI (i + 1)) (lv' := [(9, .int (nI (i + 1))), (13, .int (nI len9)), (12, .int (aroV (V i) (F k1) 100)), (11, .int (facFv (V i) 4)), (10, .int (nI k1)), (5, .long d0), (4, .int (nI st)), (3, .ref (ad 0)), (2, .ref o), (1, .int (nI ti)), (0, .ref b)]) hx hb dL_law_965 hl (k := 4) rfl (inc_1 _) (by decide) rfl (fun ls hl => ?_)
                            refine lv_goto (tgt := 760) hx hb dL_law_968 (by decide) ?_
                            exact hnext _ _ _ ⟨hS, lv_sub hl [0, 5, 6, 7, 8, 9, 10] rfl, (by exact hcs)⟩
                          · skip
                            have c960 : ¬ (0 = 0) := fun q9 => c960 ((nc_eq (a := 0) (b := 0) (by omega) (by omega)).mpr q9)
                            omega
                    · skip
                      refine lv_if_le (tgt := 952) hx hb dL_law_944 (by decide) (fun c944 => ?_) (fun c944 => ?_)
                      · skip
                        refine lv_aload_n hx hb dL_law_952 rfl (lv_at hl 7 rfl) ?_
                        refine lv_iload hx hb dL_law_953 (lv_at hl 4 rfl) ?_
                        refine lv_bipush (v := nI 100) hx hb dL_law_955 (by decide) ?_
                        have hcs8 := hcs
                        obtain ⟨dr, sr, C, la, vv, hdr, ho9, hsn, hw⟩ := hcs8
                        refine vp_callSi (va_runV (As := [.int (nI i), .int (nI 100)]) (rest := []) ⟨hx, hb, hml, hown, hts⟩ (conX3_best l D T ad F V sr C i (by omega) 100 (by omega) (by omega)) (cwV 2 hts gL_law_X3_best rfl rfl rfl (by decide +kernel) ⟨Nat.le_of_ble_eq_true rfl, Nat.le_of_ble_eq_true rfl⟩) (preV hK hw.pl.o rfl hw.pl) rfl rfl hl.1 rfl (lv_room (Nat.le_of_ble_eq_true rfl)) dL_law_957 ⟨by show _ ≤ 600086; omega, by show _ ≤ 7301442; omega⟩).run (fun r17 hr17 => ?_)
                        rw [hr17]
                        rw [bst_0]
                        refine lv_if_eq (tgt := 965) hx hb dL_law_960 (by decide) (fun c960 => ?_) (fun c960 => ?_)
                        · skip
                          have c960 : 0 = 0 := (nc_eq (a := 0) (b := 0) (by omega) (by omega)).mp c960
                          refine lv_iinc (v := nI (i + 1)) (lv' := [(9, .int (nI (i + 1))), (13, .int (nI len9)), (12, .int (aroV (V i) (F k1) 100)), (11, .int (facFv (V i) 4)), (10, .int (nI k1)), (5, .long d0), (4, .int (nI st)), (3, .ref (ad 0)), (2, .ref o), (1, .int (nI ti)), (0, .ref b)]) hx hb dL_law_965 hl (k := 4) rfl (inc_1 _) (by decide) rfl (fun ls hl => ?_)
                          refine lv_goto (tgt := 760) hx hb dL_law_968 (by decide) ?_
                          exact hnext _ _ _ ⟨hS, lv_sub hl [0, 5, 6, 7, 8, 9, 10] rfl, (by exact hcs)⟩
                        · skip
                          have c960 : ¬ (0 = 0) := fun q9 => c960 ((nc_eq (a := 0) (b := 0) (by omega) (by omega)).mpr q9)
                          omega
                      · skip
                        exact absurd (mea_ok hv9 hz9 hl9 q1) c944
  · skip
    intro H locs ls hin9
    obtain ⟨hS, hl, hcs⟩ := hin9
    refine lv_iload hx hb dL_law_760 (lv_at hl 0 rfl) ?_
    refine lv_iconst (v := nI 5) hx hb dL_law_762 (by decide) ?_
    refine lv_icmp_ge (tgt := 971) hx hb dL_law_763 (by decide) (fun c763 => ?_) (fun c763 => ?_)
    · skip
      have c763 : 5 ≤ 5 := (nc_le (a := 5) (b := 5) (by omega) (by omega)).mp c763
      exact kk971 H locs ls hS (lv_sub hl [1, 2, 3, 4, 5, 6] rfl) hcs
    · skip
      have c763 : ¬ (5 ≤ 5) := fun q9 => c763 ((nc_le (a := 5) (b := 5) (by omega) (by omega)).mpr q9)
      omega
