/-! THE LAW'S WRAPPERS ON A FRESH OBJECT -/
theorem far_0 {r g : Int32} {h : Nat → Int32} (q : (r = -1 ∧ ∀ j : Nat, j < 201 → holdZ zr0 (g - nI j) = 0 ∧ holdZ zr0 (h j) = 0) ∨ ∃ j : Nat, j < 201 ∧ r = nI j ∧ (¬ holdZ zr0 (g - nI j) = 0 ∨ ¬ holdZ zr0 (h j) = 0) ∧ ∀ i : Nat, i < j → holdZ zr0 (g - nI i) = 0 ∧ holdZ zr0 (h i) = 0) : r = -1 := by
  rcases q with ⟨q, -⟩ | ⟨j, -, -, q, -⟩
  · exact q
  · exact absurd q (fun q => q.elim (fun z => z (hz1 _)) (fun z => z (hz1 _)))
theorem clr_0 {r : Int32} (q : (r = nI 1000 ∧ ∀ i : Nat, i < 101 → ¬ lieA zr0 zr0 (nI 2 * -nI i) ∧ ¬ lieA zr0 zr0 (nI 2 * nI i)) ∨ (∃ n : Nat, n < 101 ∧ (∀ i : Nat, i < n → ¬ lieA zr0 zr0 (nI 2 * -nI i) ∧ ¬ lieA zr0 zr0 (nI 2 * nI i)) ∧ ((r = -nI n ∧ lieA zr0 zr0 (nI 2 * -nI n)) ∨ (r = nI n ∧ ¬ lieA zr0 zr0 (nI 2 * -nI n) ∧ lieA zr0 zr0 (nI 2 * nI n))))) : r = nI 0 := by
  rcases q with ⟨-, q⟩ | ⟨n, -, q, z⟩
  · exact absurd (lie_0 _) (q 0 (by decide)).1
  · cases n with
    | zero =>
      rcases z with ⟨z, -⟩ | ⟨z, -⟩
      · rw [z]; rfl
      · exact z
    | succ n => exact absurd (lie_0 _) (q 0 (by omega)).1
theorem bst_1 (n k : Nat) : (bstV zr0 n k).1 = nI 0 := by rw [bst_0]
set_option maxHeartbeats 4000000 in
set_option maxRecDepth 100000 in
theorem wr_span (l : Launch) (hlt : l.stackTraces = false) (D : va_G) (T : Nat → ClassId) (N0 sz o : Nat) (ad : Nat → Nat) (f : Nat → Int64) (x1 x2 x3 x4 x5 : Int32) (hv : vp_nar .boolean x5 = x5) (hN : ∀ i : Nat, i < 37 → N0 ≤ ad i) (hNs : N0 ≤ sz) (hoa : ∀ i : Nat, i < 37 → o ≠ ad i) : Met l yL_span wsL_span ({ frames := 9, cells := 1, slots := 6, locals := 151 }) (cW D T N0 [.ref (ad 0), .int x1, .int x2, .int x3, .int x4, .int x5, .ref o] (fun H => H.size = sz ∧ PLW D T ad zz2 zz2 sr0 zr0 H ∧ pAt D H o (eL (T 6) 1 f))) (va_Qi (fun (r : Int32) (_ : Unit) => r = tw_span x1 x2 x3 x4 x5) (fun _ t => LO D T o (tw_span x1 x2 x3 x4 x5) ((spV x2 x3 x4 x5).toInt64) t.heap) (WA ad o sz)) 1 6 (WA ad o sz) := by
  refine q_ofWH (cc := cL_span) (maxL := 8) (ret := (some .int)) (hh := [(0, 16, 19, 13), (0, 16, 23, 15)]) (by decide) rfl ?_
  intro p e s m args below meth c s₁ B hml hv9
  obtain ⟨⟨rfl, hK, ⟨hsz, hw, ho9⟩, hKX⟩, hNc⟩ := hv9
  have hx := B.exec
  have hb := B.bytes
  have hr := B.returns
  have hts := atoms_spec (ws := wsL_span) B.pre
  have hown : s.vm.findClass RL = some m.cls := findClass_of_methodNamed B.named
  have hlocks := B.notSynchronized
  have htab := vx_table (x := yL_span) B (hts _ List.mem_cons_self)
  generalize hAe : WA ad o sz = A
  have hAs : ∀ q : Nat, SA ad s.heap.size q → A q := fun q h9 => by subst hAe; exact h9.elim Or.inl (fun h8 => Or.inr (Or.inr (by omega)))
  have hAn : ∀ q : Nat, s.heap.size ≤ q → A q := fun q h9 => hAs q (Or.inr h9)
  have hAp : ∀ q : Nat, PLA ad q → A q := fun q h9 => hAs q (Or.inl h9)
  have hAo : A o := by subst hAe; exact Or.inr (Or.inl rfl)
  have hno : ¬ s.heap.size ≤ o := by have h8 := ho9.lt; omega
  have hnq : ¬ PLA ad o := fun ⟨i, hi, h8⟩ => hoa i hi h8
  have hnp : ¬ SA ad s.heap.size o := fun h9 => h9.elim hnq hno
  have hS : va_S A s.heap s.heap [] := va_S.rf
  have hl := lv_entry ([.ref (ad 0), .int x1, .int x2, .int x3, .int x4, .int x5, .ref o]) (n := 8) (Nat.le_of_ble_eq_true rfl)
  rw [lg_entry_eq]
  generalize (lg_sl ([.ref (ad 0), .int x1, .int x2, .int x3, .int x4, .int x5, .ref o]) ++ List.replicate (8 - (lg_sl ([.ref (ad 0), .int x1, .int x2, .int x3, .int x4, .int x5, .ref o])).length) Slot.unset).toArray = ls at hl ⊢
  have hl : lv_has ls 8 [(0, .ref (ad 0)), (1, .int x1), (2, .int x2), (3, .int x3), (4, .int x4), (5, .int x5), (6, .ref o)] := hl
  by_cases c1 : inM x1 (nI 0) (nI 7) = 0
  · skip
    refine lv_aload hx hb dL_span_0 (lv_at hl 6 rfl) ?_
    refine lv_iconst (v := nI 0) hx hb dL_span_2 (by decide) ?_
    refine lv_aload_n hx hb dL_span_3 rfl (lv_at hl 0 rfl) ?_
    refine lv_iload_n hx hb dL_span_4 rfl (lv_at hl 1 rfl) ?_
    refine lv_iload_n hx hb dL_span_5 rfl (lv_at hl 2 rfl) ?_
    refine lv_iload_n hx hb dL_span_6 rfl (lv_at hl 3 rfl) ?_
    refine lv_iload hx hb dL_span_7 (lv_at hl 4 rfl) ?_
    refine lv_iload hx hb dL_span_9 (lv_at hl 5 rfl) ?_
    exact vx_callv (vx_runV (As := [.int x1, .int x2, .int x3, .int x4, .int x5]) (rest := [.int (nI 0), .ref o]) ⟨hx, hb, hml, hown, hts⟩ (thX3_span_1 l hlt D T s.heap.size ad zz2 zz2 sr0 zr0 x1 x2 x3 x4 x5 (bad1 (by decide) c1)) (cwV 5 hts gL_span_X3_span rfl rfl rfl (by decide +kernel) ⟨Nat.le_of_ble_eq_true rfl, Nat.le_of_ble_eq_true rfl⟩) (preXV hK (hKX.up (by omega)) rfl hw.o rfl hw) rfl rfl hl.1 rfl (lv_room (Nat.le_of_ble_eq_true rfl)) dL_span_11 ⟨Nat.le_of_ble_eq_true rfl, Nat.le_of_ble_eq_true rfl⟩) hS (fun q _ h9 => hAn q h9) (fun q h9 => hAn q h9) (fun q _ h9 => hAn q h9) (fun E ce q9 u t H1 locs1 ht hvm _ hE hz hk hS hce hcv hcl => by
      subst hE
      refine vx_catch (own := RL) (name := IOB) hown [] ⟨0, 16, 19, 13⟩ [⟨0, 16, 23, 15⟩] htab (fun z hz => absurd hz List.not_mem_nil) (by decide) (by decide) (hts (.classLink RL 13 IOB) (by decide +kernel)) (va_Nw.use rfl hKX.1.2.1.2) hce hcv hcl ?_
      refine lv_astore (lv' := [(7, .ref q9), (0, .ref (ad 0)), (1, .int x1), (2, .int x2), (3, .int x3), (4, .int x4), (5, .int x5), (6, .ref o)]) hx hb dL_span_19 hl (by decide) rfl (fun ls hl => ?_)
      refine lv_iconst (v := nI 1) hx hb dL_span_21 (by decide) ?_
      refine W.widen (k := 1) (n := 6) (by first | omega | decide) (by first | omega | decide) ?_
      have ho9 := ho9.kept (hk _ ho9.lt (fun h9 => hno h9))
      have ht9 : tw_span x1 x2 x3 x4 x5 = nI 1 := by unfold tw_span; rw [if_pos c1]
      exact W.iret (v := nI 1) hx hb hr (fun t ht _ => ⟨⟨nI 1, (), rfl, ht9.symm, by dsimp only; rw [ht]; exact ⟨f, ho9, fun h9 => absurd (ht9.symm.trans h9) (by decide)⟩⟩, by subst hAe; exact hS.F ht⟩) (by subst hAe; exact hS.2.2) dL_span_22
      ) (fun u t H1 locs1 ht hvm hf => hf.elim)
  obtain ⟨k1, hk1, rfl⟩ := inM_ok (n := 7) (by decide) c1
  by_cases c2 : spanM x2 x3 x4 = 0
  · skip
    refine lv_aload hx hb dL_span_0 (lv_at hl 6 rfl) ?_
    refine lv_iconst (v := nI 0) hx hb dL_span_2 (by decide) ?_
    refine lv_aload_n hx hb dL_span_3 rfl (lv_at hl 0 rfl) ?_
    refine lv_iload_n hx hb dL_span_4 rfl (lv_at hl 1 rfl) ?_
    refine lv_iload_n hx hb dL_span_5 rfl (lv_at hl 2 rfl) ?_
    refine lv_iload_n hx hb dL_span_6 rfl (lv_at hl 3 rfl) ?_
    refine lv_iload hx hb dL_span_7 (lv_at hl 4 rfl) ?_
    refine lv_iload hx hb dL_span_9 (lv_at hl 5 rfl) ?_
    exact vx_callv (vx_runV (As := [.int (nI k1), .int x2, .int x3, .int x4, .int x5]) (rest := [.int (nI 0), .ref o]) ⟨hx, hb, hml, hown, hts⟩ (thX3_span_2 l hlt D T s.heap.size ad zz2 zz2 sr0 zr0 k1 x2 x3 x4 x5 (by omega) (badS c2)) (cwV 5 hts gL_span_X3_span rfl rfl rfl (by decide +kernel) ⟨Nat.le_of_ble_eq_true rfl, Nat.le_of_ble_eq_true rfl⟩) (preXV hK (hKX.up (by omega)) rfl hw.o rfl hw) rfl rfl hl.1 rfl (lv_room (Nat.le_of_ble_eq_true rfl)) dL_span_11 ⟨Nat.le_of_ble_eq_true rfl, Nat.le_of_ble_eq_true rfl⟩) hS (fun q _ h9 => hAn q h9) (fun q h9 => hAn q h9) (fun q _ h9 => hAn q h9) (fun E ce q9 u t H1 locs1 ht hvm _ hE hz hk hS hce hcv hcl => by
      subst hE
      refine vx_catch (own := RL) (name := IAE) hown [⟨0, 16, 19, 13⟩] ⟨0, 16, 23, 15⟩ [] htab (fun z hz => by rcases List.mem_cons.mp hz with h8 | h8; rw [h8]; exact Or.inr ⟨by decide, IOB, hts (.classLink RL 13 IOB) (by decide +kernel), hNc⟩; exact absurd h8 List.not_mem_nil) (by decide) (by decide) (hts (.classLink RL 15 IAE) (by decide +kernel)) (va_Nw.use rfl hKX.1.2.1.1) hce hcv hcl ?_
      refine lv_astore (lv' := [(7, .ref q9), (0, .ref (ad 0)), (1, .int (nI k1)), (2, .int x2), (3, .int x3), (4, .int x4), (5, .int x5), (6, .ref o)]) hx hb dL_span_23 hl (by decide) rfl (fun ls hl => ?_)
      refine lv_iconst (v := nI 2) hx hb dL_span_25 (by decide) ?_
      refine W.widen (k := 1) (n := 6) (by first | omega | decide) (by first | omega | decide) ?_
      have ho9 := ho9.kept (hk _ ho9.lt (fun h9 => hno h9))
      have ht9 : tw_span (nI k1) x2 x3 x4 x5 = nI 2 := by unfold tw_span; rw [if_neg c1, if_pos c2]
      exact W.iret (v := nI 2) hx hb hr (fun t ht _ => ⟨⟨nI 2, (), rfl, ht9.symm, by dsimp only; rw [ht]; exact ⟨f, ho9, fun h9 => absurd (ht9.symm.trans h9) (by decide)⟩⟩, by subst hAe; exact hS.F ht⟩) (by subst hAe; exact hS.2.2) dL_span_26
      ) (fun u t H1 locs1 ht hvm hf => hf.elim)
  obtain ⟨a, b, ee, hab, hb9, he, rfl, rfl, rfl⟩ := spanM_ok c2
  refine lv_aload hx hb dL_span_0 (lv_at hl 6 rfl) ?_
  refine lv_iconst (v := nI 0) hx hb dL_span_2 (by decide) ?_
  refine lv_aload_n hx hb dL_span_3 rfl (lv_at hl 0 rfl) ?_
  refine lv_iload_n hx hb dL_span_4 rfl (lv_at hl 1 rfl) ?_
  refine lv_iload_n hx hb dL_span_5 rfl (lv_at hl 2 rfl) ?_
  refine lv_iload_n hx hb dL_span_6 rfl (lv_at hl 3 rfl) ?_
  refine lv_iload hx hb dL_span_7 (lv_at hl 4 rfl) ?_
  refine lv_iload hx hb dL_span_9 (lv_at hl 5 rfl) ?_
  refine va_calli (va_runV (As := [.int (nI k1), .int (nI a), .int (nI b), .int (nI ee), .int x5]) (rest := [.int (nI 0), .ref o]) ⟨hx, hb, hml, hown, hts⟩ (conX3_span l D T ad zz2 zz2 sr0 zr0 k1 a b ee x5 (by omega) hab hb9 he hv) (cwV 5 hts gL_span_X3_span rfl rfl rfl (by decide +kernel) ⟨Nat.le_of_ble_eq_true rfl, Nat.le_of_ble_eq_true rfl⟩) (preV hK hw.o rfl hw) rfl rfl hl.1 rfl (lv_room (Nat.le_of_ble_eq_true rfl)) dL_span_11 ⟨Nat.le_of_ble_eq_true rfl, Nat.le_of_ble_eq_true rfl⟩) hS (fun q _ h9 => hAp q h9) (fun q h9 => hAp q h9) (fun r u t H1 locs1 ht hvm hr9 hB hz1 hk1 hS => ?_)
  replace ho9 := ho9.kept (hk1 _ ho9.lt hnq)
  have hq9 : r = spV (nI a) (nI b) (nI ee) x5 := hr9.trans (v_span hab hb9 he)
  subst hq9
  refine lv_i2l (v := (spV (nI a) (nI b) (nI ee) x5).toInt64) hx hb dL_span_14 rfl ?_
  refine q_last hx hb hK ho9 0 rfl (by decide) (by decide) hS hAo dL_span_15 (fun H1 locs1 ho9 hz oq hS => ?_)
  refine lv_goto (tgt := 27) hx hb dL_span_16 (by decide) ?_
  refine lv_iconst (v := nI 0) hx hb dL_span_27 (by decide) ?_
  refine W.widen (k := 1) (n := 6) (by first | omega | decide) (by first | omega | decide) ?_
  have ht9 : tw_span (nI k1) (nI a) (nI b) (nI ee) x5 = nI 0 := by unfold tw_span; rw [if_neg c1, if_neg c2]
  exact W.iret (v := nI 0) hx hb hr (fun t ht _ => ⟨⟨nI 0, (), rfl, ht9.symm, by dsimp only; rw [ht]; exact ⟨_, ho9, fun _ => by dsimp only [vp_updL, vf_upd]; rfl⟩⟩, by subst hAe; exact hS.F ht⟩) (by subst hAe; exact hS.2.2) dL_span_28

set_option maxHeartbeats 4000000 in
set_option maxRecDepth 100000 in
theorem wr_join (l : Launch) (hlt : l.stackTraces = false) (D : va_G) (T : Nat → ClassId) (N0 sz o : Nat) (ad : Nat → Nat) (f : Nat → Int64) (x1 x2 x3 x4 : Int32) (hN : ∀ i : Nat, i < 37 → N0 ≤ ad i) (hNs : N0 ≤ sz) (hoa : ∀ i : Nat, i < 37 → o ≠ ad i) : Met l yL_join wsL_join ({ frames := 8, cells := 1, slots := 6, locals := 132 }) (cW D T N0 [.ref (ad 0), .int x1, .int x2, .int x3, .int x4, .ref o] (fun H => H.size = sz ∧ PLW D T ad zz2 zz2 sr0 zr0 H ∧ pAt D H o (eL (T 6) 1 f))) (va_Qi (fun (r : Int32) (_ : Unit) => r = tw_join x1 x2 x3 x4) (fun _ t => LO D T o (tw_join x1 x2 x3 x4) ((nI 0).toInt64) t.heap) (WA ad o sz)) 1 6 (WA ad o sz) := by
  refine q_ofWH (cc := cL_join) (maxL := 7) (ret := (some .int)) (hh := [(0, 14, 17, 13), (0, 14, 21, 15)]) (by decide) rfl ?_
  intro p e s m args below meth c s₁ B hml hv9
  obtain ⟨⟨rfl, hK, ⟨hsz, hw, ho9⟩, hKX⟩, hNc⟩ := hv9
  have hx := B.exec
  have hb := B.bytes
  have hr := B.returns
  have hts := atoms_spec (ws := wsL_join) B.pre
  have hown : s.vm.findClass RL = some m.cls := findClass_of_methodNamed B.named
  have hlocks := B.notSynchronized
  have htab := vx_table (x := yL_join) B (hts _ List.mem_cons_self)
  generalize hAe : WA ad o sz = A
  have hAs : ∀ q : Nat, SA ad s.heap.size q → A q := fun q h9 => by subst hAe; exact h9.elim Or.inl (fun h8 => Or.inr (Or.inr (by omega)))
  have hAn : ∀ q : Nat, s.heap.size ≤ q → A q := fun q h9 => hAs q (Or.inr h9)
  have hAp : ∀ q : Nat, PLA ad q → A q := fun q h9 => hAs q (Or.inl h9)
  have hAo : A o := by subst hAe; exact Or.inr (Or.inl rfl)
  have hno : ¬ s.heap.size ≤ o := by have h8 := ho9.lt; omega
  have hnq : ¬ PLA ad o := fun ⟨i, hi, h8⟩ => hoa i hi h8
  have hnp : ¬ SA ad s.heap.size o := fun h9 => h9.elim hnq hno
  have hS : va_S A s.heap s.heap [] := va_S.rf
  have hl := lv_entry ([.ref (ad 0), .int x1, .int x2, .int x3, .int x4, .ref o]) (n := 7) (Nat.le_of_ble_eq_true rfl)
  rw [lg_entry_eq]
  generalize (lg_sl ([.ref (ad 0), .int x1, .int x2, .int x3, .int x4, .ref o]) ++ List.replicate (7 - (lg_sl ([.ref (ad 0), .int x1, .int x2, .int x3, .int x4, .ref o])).length) Slot.unset).toArray = ls at hl ⊢
  have hl : lv_has ls 7 [(0, .ref (ad 0)), (1, .int x1), (2, .int x2), (3, .int x3), (4, .int x4), (5, .ref o)] := hl
  by_cases c1 : inM x1 (nI 0) (nI 7) = 0
  · skip
    refine lv_aload hx hb dL_join_0 (lv_at hl 5 rfl) ?_
    refine lv_iconst (v := nI 0) hx hb dL_join_2 (by decide) ?_
    refine lv_aload_n hx hb dL_join_3 rfl (lv_at hl 0 rfl) ?_
    refine lv_iload_n hx hb dL_join_4 rfl (lv_at hl 1 rfl) ?_
    refine lv_iload_n hx hb dL_join_5 rfl (lv_at hl 2 rfl) ?_
    refine lv_iload_n hx hb dL_join_6 rfl (lv_at hl 3 rfl) ?_
    refine lv_iload hx hb dL_join_7 (lv_at hl 4 rfl) ?_
    exact vx_callv (vx_runV (As := [.int x1, .int x2, .int x3, .int x4]) (rest := [.int (nI 0), .ref o]) ⟨hx, hb, hml, hown, hts⟩ (thX3_join_1 l hlt D T s.heap.size ad zz2 zz2 sr0 zr0 x1 x2 x3 x4 (bad1 (by decide) c1)) (cwV 4 hts gL_join_X3_join rfl rfl rfl (by decide +kernel) ⟨Nat.le_of_ble_eq_true rfl, Nat.le_of_ble_eq_true rfl⟩) (preXV hK (hKX.up (by omega)) rfl hw.o rfl hw) rfl rfl hl.1 rfl (lv_room (Nat.le_of_ble_eq_true rfl)) dL_join_9 ⟨Nat.le_of_ble_eq_true rfl, Nat.le_of_ble_eq_true rfl⟩) hS (fun q _ h9 => hAn q h9) (fun q h9 => hAn q h9) (fun q _ h9 => hAn q h9) (fun E ce q9 u t H1 locs1 ht hvm _ hE hz hk hS hce hcv hcl => by
      subst hE
      refine vx_catch (own := RL) (name := IOB) hown [] ⟨0, 14, 17, 13⟩ [⟨0, 14, 21, 15⟩] htab (fun z hz => absurd hz List.not_mem_nil) (by decide) (by decide) (hts (.classLink RL 13 IOB) (by decide +kernel)) (va_Nw.use rfl hKX.1.2.1.2) hce hcv hcl ?_
      refine lv_astore (lv' := [(6, .ref q9), (0, .ref (ad 0)), (1, .int x1), (2, .int x2), (3, .int x3), (4, .int x4), (5, .ref o)]) hx hb dL_join_17 hl (by decide) rfl (fun ls hl => ?_)
      refine lv_iconst (v := nI 1) hx hb dL_join_19 (by decide) ?_
      refine W.widen (k := 1) (n := 6) (by first | omega | decide) (by first | omega | decide) ?_
      have ho9 := ho9.kept (hk _ ho9.lt (fun h9 => hno h9))
      have ht9 : tw_join x1 x2 x3 x4 = nI 1 := by unfold tw_join; rw [if_pos c1]
      exact W.iret (v := nI 1) hx hb hr (fun t ht _ => ⟨⟨nI 1, (), rfl, ht9.symm, by dsimp only; rw [ht]; exact ⟨f, ho9, fun h9 => absurd (ht9.symm.trans h9) (by decide)⟩⟩, by subst hAe; exact hS.F ht⟩) (by subst hAe; exact hS.2.2) dL_join_20
      ) (fun u t H1 locs1 ht hvm hf => hf.elim)
  obtain ⟨k1, hk1, rfl⟩ := inM_ok (n := 7) (by decide) c1
  by_cases c2 : inM x2 (nI 0) (nI 7) = 0
  · skip
    refine lv_aload hx hb dL_join_0 (lv_at hl 5 rfl) ?_
    refine lv_iconst (v := nI 0) hx hb dL_join_2 (by decide) ?_
    refine lv_aload_n hx hb dL_join_3 rfl (lv_at hl 0 rfl) ?_
    refine lv_iload_n hx hb dL_join_4 rfl (lv_at hl 1 rfl) ?_
    refine lv_iload_n hx hb dL_join_5 rfl (lv_at hl 2 rfl) ?_
    refine lv_iload_n hx hb dL_join_6 rfl (lv_at hl 3 rfl) ?_
    refine lv_iload hx hb dL_join_7 (lv_at hl 4 rfl) ?_
    exact vx_callv (vx_runV (As := [.int (nI k1), .int x2, .int x3, .int x4]) (rest := [.int (nI 0), .ref o]) ⟨hx, hb, hml, hown, hts⟩ (thX3_join_2 l hlt D T s.heap.size ad zz2 zz2 sr0 zr0 k1 x2 x3 x4 (by omega) (bad1 (by decide) c2)) (cwV 4 hts gL_join_X3_join rfl rfl rfl (by decide +kernel) ⟨Nat.le_of_ble_eq_true rfl, Nat.le_of_ble_eq_true rfl⟩) (preXV hK (hKX.up (by omega)) rfl hw.o rfl hw) rfl rfl hl.1 rfl (lv_room (Nat.le_of_ble_eq_true rfl)) dL_join_9 ⟨Nat.le_of_ble_eq_true rfl, Nat.le_of_ble_eq_true rfl⟩) hS (fun q _ h9 => hAn q h9) (fun q h9 => hAn q h9) (fun q _ h9 => hAn q h9) (fun E ce q9 u t H1 locs1 ht hvm _ hE hz hk hS hce hcv hcl => by
      subst hE
      refine vx_catch (own := RL) (name := IOB) hown [] ⟨0, 14, 17, 13⟩ [⟨0, 14, 21, 15⟩] htab (fun z hz => absurd hz List.not_mem_nil) (by decide) (by decide) (hts (.classLink RL 13 IOB) (by decide +kernel)) (va_Nw.use rfl hKX.1.2.1.2) hce hcv hcl ?_
      refine lv_astore (lv' := [(6, .ref q9), (0, .ref (ad 0)), (1, .int (nI k1)), (2, .int x2), (3, .int x3), (4, .int x4), (5, .ref o)]) hx hb dL_join_17 hl (by decide) rfl (fun ls hl => ?_)
      refine lv_iconst (v := nI 1) hx hb dL_join_19 (by decide) ?_
      refine W.widen (k := 1) (n := 6) (by first | omega | decide) (by first | omega | decide) ?_
      have ho9 := ho9.kept (hk _ ho9.lt (fun h9 => hno h9))
      have ht9 : tw_join (nI k1) x2 x3 x4 = nI 1 := by unfold tw_join; rw [if_neg c1, if_pos c2]
      exact W.iret (v := nI 1) hx hb hr (fun t ht _ => ⟨⟨nI 1, (), rfl, ht9.symm, by dsimp only; rw [ht]; exact ⟨f, ho9, fun h9 => absurd (ht9.symm.trans h9) (by decide)⟩⟩, by subst hAe; exact hS.F ht⟩) (by subst hAe; exact hS.2.2) dL_join_20
      ) (fun u t H1 locs1 ht hvm hf => hf.elim)
  obtain ⟨k2, hk2, rfl⟩ := inM_ok (n := 7) (by decide) c2
  by_cases c3 : inM x3 (nI 0) (nI 7) = 0
  · skip
    refine lv_aload hx hb dL_join_0 (lv_at hl 5 rfl) ?_
    refine lv_iconst (v := nI 0) hx hb dL_join_2 (by decide) ?_
    refine lv_aload_n hx hb dL_join_3 rfl (lv_at hl 0 rfl) ?_
    refine lv_iload_n hx hb dL_join_4 rfl (lv_at hl 1 rfl) ?_
    refine lv_iload_n hx hb dL_join_5 rfl (lv_at hl 2 rfl) ?_
    refine lv_iload_n hx hb dL_join_6 rfl (lv_at hl 3 rfl) ?_
    refine lv_iload hx hb dL_join_7 (lv_at hl 4 rfl) ?_
    exact vx_callv (vx_runV (As := [.int (nI k1), .int (nI k2), .int x3, .int x4]) (rest := [.int (nI 0), .ref o]) ⟨hx, hb, hml, hown, hts⟩ (thX3_join_3 l hlt D T s.heap.size ad zz2 zz2 sr0 zr0 k1 k2 x3 x4 (by omega) (by omega) (bad1 (by decide) c3)) (cwV 4 hts gL_join_X3_join rfl rfl rfl (by decide +kernel) ⟨Nat.le_of_ble_eq_true rfl, Nat.le_of_ble_eq_true rfl⟩) (preXV hK (hKX.up (by omega)) rfl hw.o rfl hw) rfl rfl hl.1 rfl (lv_room (Nat.le_of_ble_eq_true rfl)) dL_join_9 ⟨Nat.le_of_ble_eq_true rfl, Nat.le_of_ble_eq_true rfl⟩) hS (fun q _ h9 => hAn q h9) (fun q h9 => hAn q h9) (fun q _ h9 => hAn q h9) (fun E ce q9 u t H1 locs1 ht hvm _ hE hz hk hS hce hcv hcl => by
      subst hE
      refine vx_catch (own := RL) (name := IOB) hown [] ⟨0, 14, 17, 13⟩ [⟨0, 14, 21, 15⟩] htab (fun z hz => absurd hz List.not_mem_nil) (by decide) (by decide) (hts (.classLink RL 13 IOB) (by decide +kernel)) (va_Nw.use rfl hKX.1.2.1.2) hce hcv hcl ?_
      refine lv_astore (lv' := [(6, .ref q9), (0, .ref (ad 0)), (1, .int (nI k1)), (2, .int (nI k2)), (3, .int x3), (4, .int x4), (5, .ref o)]) hx hb dL_join_17 hl (by decide) rfl (fun ls hl => ?_)
      refine lv_iconst (v := nI 1) hx hb dL_join_19 (by decide) ?_
      refine W.widen (k := 1) (n := 6) (by first | omega | decide) (by first | omega | decide) ?_
      have ho9 := ho9.kept (hk _ ho9.lt (fun h9 => hno h9))
      have ht9 : tw_join (nI k1) (nI k2) x3 x4 = nI 1 := by unfold tw_join; rw [if_neg c1, if_neg c2, if_pos c3]
      exact W.iret (v := nI 1) hx hb hr (fun t ht _ => ⟨⟨nI 1, (), rfl, ht9.symm, by dsimp only; rw [ht]; exact ⟨f, ho9, fun h9 => absurd (ht9.symm.trans h9) (by decide)⟩⟩, by subst hAe; exact hS.F ht⟩) (by subst hAe; exact hS.2.2) dL_join_20
      ) (fun u t H1 locs1 ht hvm hf => hf.elim)
  obtain ⟨k3, hk3, rfl⟩ := inM_ok (n := 7) (by decide) c3
  by_cases c4 : inM x4 (nI 0) (nI 3) = 0
  · skip
    refine lv_aload hx hb dL_join_0 (lv_at hl 5 rfl) ?_
    refine lv_iconst (v := nI 0) hx hb dL_join_2 (by decide) ?_
    refine lv_aload_n hx hb dL_join_3 rfl (lv_at hl 0 rfl) ?_
    refine lv_iload_n hx hb dL_join_4 rfl (lv_at hl 1 rfl) ?_
    refine lv_iload_n hx hb dL_join_5 rfl (lv_at hl 2 rfl) ?_
    refine lv_iload_n hx hb dL_join_6 rfl (lv_at hl 3 rfl) ?_
    refine lv_iload hx hb dL_join_7 (lv_at hl 4 rfl) ?_
    exact vx_callv (vx_runV (As := [.int (nI k1), .int (nI k2), .int (nI k3), .int x4]) (rest := [.int (nI 0), .ref o]) ⟨hx, hb, hml, hown, hts⟩ (thX3_join_4 l hlt D T s.heap.size ad zz2 zz2 sr0 zr0 k1 k2 k3 x4 (by omega) (by omega) (by omega) (bad3 c4)) (cwV 4 hts gL_join_X3_join rfl rfl rfl (by decide +kernel) ⟨Nat.le_of_ble_eq_true rfl, Nat.le_of_ble_eq_true rfl⟩) (preXV hK (hKX.up (by omega)) rfl hw.o rfl hw) rfl rfl hl.1 rfl (lv_room (Nat.le_of_ble_eq_true rfl)) dL_join_9 ⟨Nat.le_of_ble_eq_true rfl, Nat.le_of_ble_eq_true rfl⟩) hS (fun q _ h9 => hAn q h9) (fun q h9 => hAn q h9) (fun q _ h9 => hAn q h9) (fun E ce q9 u t H1 locs1 ht hvm _ hE hz hk hS hce hcv hcl => by
      subst hE
      refine vx_catch (own := RL) (name := IAE) hown [⟨0, 14, 17, 13⟩] ⟨0, 14, 21, 15⟩ [] htab (fun z hz => by rcases List.mem_cons.mp hz with h8 | h8; rw [h8]; exact Or.inr ⟨by decide, IOB, hts (.classLink RL 13 IOB) (by decide +kernel), hNc⟩; exact absurd h8 List.not_mem_nil) (by decide) (by decide) (hts (.classLink RL 15 IAE) (by decide +kernel)) (va_Nw.use rfl hKX.1.2.1.1) hce hcv hcl ?_
      refine lv_astore (lv' := [(6, .ref q9), (0, .ref (ad 0)), (1, .int (nI k1)), (2, .int (nI k2)), (3, .int (nI k3)), (4, .int x4), (5, .ref o)]) hx hb dL_join_21 hl (by decide) rfl (fun ls hl => ?_)
      refine lv_iconst (v := nI 2) hx hb dL_join_23 (by decide) ?_
      refine W.widen (k := 1) (n := 6) (by first | omega | decide) (by first | omega | decide) ?_
      have ho9 := ho9.kept (hk _ ho9.lt (fun h9 => hno h9))
      have ht9 : tw_join (nI k1) (nI k2) (nI k3) x4 = nI 2 := by unfold tw_join; rw [if_neg c1, if_neg c2, if_neg c3, if_pos c4]
      exact W.iret (v := nI 2) hx hb hr (fun t ht _ => ⟨⟨nI 2, (), rfl, ht9.symm, by dsimp only; rw [ht]; exact ⟨f, ho9, fun h9 => absurd (ht9.symm.trans h9) (by decide)⟩⟩, by subst hAe; exact hS.F ht⟩) (by subst hAe; exact hS.2.2) dL_join_24
      ) (fun u t H1 locs1 ht hvm hf => hf.elim)
  obtain ⟨k4, hk4, rfl⟩ := inM_ok (n := 3) (by decide) c4
  refine lv_aload hx hb dL_join_0 (lv_at hl 5 rfl) ?_
  refine lv_iconst (v := nI 0) hx hb dL_join_2 (by decide) ?_
  refine lv_aload_n hx hb dL_join_3 rfl (lv_at hl 0 rfl) ?_
  refine lv_iload_n hx hb dL_join_4 rfl (lv_at hl 1 rfl) ?_
  refine lv_iload_n hx hb dL_join_5 rfl (lv_at hl 2 rfl) ?_
  refine lv_iload_n hx hb dL_join_6 rfl (lv_at hl 3 rfl) ?_
  refine lv_iload hx hb dL_join_7 (lv_at hl 4 rfl) ?_
  refine va_calli (va_runV (As := [.int (nI k1), .int (nI k2), .int (nI k3), .int (nI k4)]) (rest := [.int (nI 0), .ref o]) ⟨hx, hb, hml, hown, hts⟩ (conX3_join l D T ad zz2 zz2 sr0 zr0 k1 k2 k3 k4 (by omega) (by omega) (by omega) (by omega)) (cwV 4 hts gL_join_X3_join rfl rfl rfl (by decide +kernel) ⟨Nat.le_of_ble_eq_true rfl, Nat.le_of_ble_eq_true rfl⟩) (preV hK hw.o rfl hw) rfl rfl hl.1 rfl (lv_room (Nat.le_of_ble_eq_true rfl)) dL_join_9 ⟨Nat.le_of_ble_eq_true rfl, Nat.le_of_ble_eq_true rfl⟩) hS (fun q _ h9 => hAp q h9) (fun q h9 => hAp q h9) (fun r u t H1 locs1 ht hvm hr9 hB hz1 hk1 hS => ?_)
  replace ho9 := ho9.kept (hk1 _ ho9.lt hnq)
  have hq9 : r = nI 0 := hr9.trans (v_join k1 k2 k3 k4)
  subst hq9
  refine lv_i2l (v := (nI 0).toInt64) hx hb dL_join_12 rfl ?_
  refine q_last hx hb hK ho9 0 rfl (by decide) (by decide) hS hAo dL_join_13 (fun H1 locs1 ho9 hz oq hS => ?_)
  refine lv_goto (tgt := 25) hx hb dL_join_14 (by decide) ?_
  refine lv_iconst (v := nI 0) hx hb dL_join_25 (by decide) ?_
  refine W.widen (k := 1) (n := 6) (by first | omega | decide) (by first | omega | decide) ?_
  have ht9 : tw_join (nI k1) (nI k2) (nI k3) (nI k4) = nI 0 := by unfold tw_join; rw [if_neg c1, if_neg c2, if_neg c3, if_neg c4]
  exact W.iret (v := nI 0) hx hb hr (fun t ht _ => ⟨⟨nI 0, (), rfl, ht9.symm, by dsimp only; rw [ht]; exact ⟨_, ho9, fun _ => by dsimp only [vp_updL, vf_upd]; rfl⟩⟩, by subst hAe; exact hS.F ht⟩) (by subst hAe; exact hS.2.2) dL_join_26

set_option maxHeartbeats 4000000 in
set_option maxRecDepth 100000 in
theorem wr_change (l : Launch) (hlt : l.stackTraces = false) (D : va_G) (T : Nat → ClassId) (N0 sz o : Nat) (ad : Nat → Nat) (f : Nat → Int64) (x1 x2 : Int32) (hN : ∀ i : Nat, i < 37 → N0 ≤ ad i) (hNs : N0 ≤ sz) (hoa : ∀ i : Nat, i < 37 → o ≠ ad i) : Met l yL_change wsL_change ({ frames := 8, cells := 1, slots := 6, locals := 153 }) (cW D T N0 [.ref (ad 0), .int x1, .int x2, .ref o] (fun H => H.size = sz ∧ PLW D T ad zz2 zz2 sr0 zr0 H ∧ pAt D H o (eL (T 6) 1 f))) (va_Qi (fun (r : Int32) (_ : Unit) => r = tw_change x1 x2) (fun _ t => LO D T o (tw_change x1 x2) ((chV x2).toInt64) t.heap) (WA ad o sz)) 1 6 (WA ad o sz) := by
  refine q_ofWH (cc := cL_change) (maxL := 5) (ret := (some .int)) (hh := [(0, 10, 13, 13), (0, 10, 17, 15)]) (by decide) rfl ?_
  intro p e s m args below meth c s₁ B hml hv9
  obtain ⟨⟨rfl, hK, ⟨hsz, hw, ho9⟩, hKX⟩, hNc⟩ := hv9
  have hx := B.exec
  have hb := B.bytes
  have hr := B.returns
  have hts := atoms_spec (ws := wsL_change) B.pre
  have hown : s.vm.findClass RL = some m.cls := findClass_of_methodNamed B.named
  have hlocks := B.notSynchronized
  have htab := vx_table (x := yL_change) B (hts _ List.mem_cons_self)
  generalize hAe : WA ad o sz = A
  have hAs : ∀ q : Nat, SA ad s.heap.size q → A q := fun q h9 => by subst hAe; exact h9.elim Or.inl (fun h8 => Or.inr (Or.inr (by omega)))
  have hAn : ∀ q : Nat, s.heap.size ≤ q → A q := fun q h9 => hAs q (Or.inr h9)
  have hAp : ∀ q : Nat, PLA ad q → A q := fun q h9 => hAs q (Or.inl h9)
  have hAo : A o := by subst hAe; exact Or.inr (Or.inl rfl)
  have hno : ¬ s.heap.size ≤ o := by have h8 := ho9.lt; omega
  have hnq : ¬ PLA ad o := fun ⟨i, hi, h8⟩ => hoa i hi h8
  have hnp : ¬ SA ad s.heap.size o := fun h9 => h9.elim hnq hno
  have hS : va_S A s.heap s.heap [] := va_S.rf
  have hl := lv_entry ([.ref (ad 0), .int x1, .int x2, .ref o]) (n := 5) (Nat.le_of_ble_eq_true rfl)
  rw [lg_entry_eq]
  generalize (lg_sl ([.ref (ad 0), .int x1, .int x2, .ref o]) ++ List.replicate (5 - (lg_sl ([.ref (ad 0), .int x1, .int x2, .ref o])).length) Slot.unset).toArray = ls at hl ⊢
  have hl : lv_has ls 5 [(0, .ref (ad 0)), (1, .int x1), (2, .int x2), (3, .ref o)] := hl
  by_cases c1 : inM x1 (nI 0) (nI 7) = 0
  · skip
    refine lv_aload_n hx hb dL_change_0 rfl (lv_at hl 3 rfl) ?_
    refine lv_iconst (v := nI 0) hx hb dL_change_1 (by decide) ?_
    refine lv_aload_n hx hb dL_change_2 rfl (lv_at hl 0 rfl) ?_
    refine lv_iload_n hx hb dL_change_3 rfl (lv_at hl 1 rfl) ?_
    refine lv_iload_n hx hb dL_change_4 rfl (lv_at hl 2 rfl) ?_
    exact vx_callv (vx_runV (As := [.int x1, .int x2]) (rest := [.int (nI 0), .ref o]) ⟨hx, hb, hml, hown, hts⟩ (thX3_change_1 l hlt D T s.heap.size ad zz2 zz2 sr0 zr0 x1 x2 (bad1 (by decide) c1)) (cwV 2 hts gL_change_X3_change rfl rfl rfl (by decide +kernel) ⟨Nat.le_of_ble_eq_true rfl, Nat.le_of_ble_eq_true rfl⟩) (preXV hK (hKX.up (by omega)) rfl hw.o rfl hw) rfl rfl hl.1 rfl (lv_room (Nat.le_of_ble_eq_true rfl)) dL_change_5 ⟨Nat.le_of_ble_eq_true rfl, Nat.le_of_ble_eq_true rfl⟩) hS (fun q _ h9 => hAn q h9) (fun q h9 => hAn q h9) (fun q _ h9 => hAn q h9) (fun E ce q9 u t H1 locs1 ht hvm _ hE hz hk hS hce hcv hcl => by
      subst hE
      refine vx_catch (own := RL) (name := IOB) hown [] ⟨0, 10, 13, 13⟩ [⟨0, 10, 17, 15⟩] htab (fun z hz => absurd hz List.not_mem_nil) (by decide) (by decide) (hts (.classLink RL 13 IOB) (by decide +kernel)) (va_Nw.use rfl hKX.1.2.1.2) hce hcv hcl ?_
      refine lv_astore (lv' := [(4, .ref q9), (0, .ref (ad 0)), (1, .int x1), (2, .int x2), (3, .ref o)]) hx hb dL_change_13 hl (by decide) rfl (fun ls hl => ?_)
      refine lv_iconst (v := nI 1) hx hb dL_change_15 (by decide) ?_
      refine W.widen (k := 1) (n := 6) (by first | omega | decide) (by first | omega | decide) ?_
      have ho9 := ho9.kept (hk _ ho9.lt (fun h9 => hno h9))
      have ht9 : tw_change x1 x2 = nI 1 := by unfold tw_change; rw [if_pos c1]
      exact W.iret (v := nI 1) hx hb hr (fun t ht _ => ⟨⟨nI 1, (), rfl, ht9.symm, by dsimp only; rw [ht]; exact ⟨f, ho9, fun h9 => absurd (ht9.symm.trans h9) (by decide)⟩⟩, by subst hAe; exact hS.F ht⟩) (by subst hAe; exact hS.2.2) dL_change_16
      ) (fun u t H1 locs1 ht hvm hf => hf.elim)
  obtain ⟨k1, hk1, rfl⟩ := inM_ok (n := 7) (by decide) c1
  by_cases c2 : inM x2 (nI 0) (nI 7) = 0
  · skip
    refine lv_aload_n hx hb dL_change_0 rfl (lv_at hl 3 rfl) ?_
    refine lv_iconst (v := nI 0) hx hb dL_change_1 (by decide) ?_
    refine lv_aload_n hx hb dL_change_2 rfl (lv_at hl 0 rfl) ?_
    refine lv_iload_n hx hb dL_change_3 rfl (lv_at hl 1 rfl) ?_
    refine lv_iload_n hx hb dL_change_4 rfl (lv_at hl 2 rfl) ?_
    exact vx_callv (vx_runV (As := [.int (nI k1), .int x2]) (rest := [.int (nI 0), .ref o]) ⟨hx, hb, hml, hown, hts⟩ (thX3_change_2 l hlt D T s.heap.size ad zz2 zz2 sr0 zr0 k1 x2 (by omega) (bad3 c2)) (cwV 2 hts gL_change_X3_change rfl rfl rfl (by decide +kernel) ⟨Nat.le_of_ble_eq_true rfl, Nat.le_of_ble_eq_true rfl⟩) (preXV hK (hKX.up (by omega)) rfl hw.o rfl hw) rfl rfl hl.1 rfl (lv_room (Nat.le_of_ble_eq_true rfl)) dL_change_5 ⟨Nat.le_of_ble_eq_true rfl, Nat.le_of_ble_eq_true rfl⟩) hS (fun q _ h9 => hAn q h9) (fun q h9 => hAn q h9) (fun q _ h9 => hAn q h9) (fun E ce q9 u t H1 locs1 ht hvm _ hE hz hk hS hce hcv hcl => by
      subst hE
      refine vx_catch (own := RL) (name := IAE) hown [⟨0, 10, 13, 13⟩] ⟨0, 10, 17, 15⟩ [] htab (fun z hz => by rcases List.mem_cons.mp hz with h8 | h8; rw [h8]; exact Or.inr ⟨by decide, IOB, hts (.classLink RL 13 IOB) (by decide +kernel), hNc⟩; exact absurd h8 List.not_mem_nil) (by decide) (by decide) (hts (.classLink RL 15 IAE) (by decide +kernel)) (va_Nw.use rfl hKX.1.2.1.1) hce hcv hcl ?_
      refine lv_astore (lv' := [(4, .ref q9), (0, .ref (ad 0)), (1, .int (nI k1)), (2, .int x2), (3, .ref o)]) hx hb dL_change_17 hl (by decide) rfl (fun ls hl => ?_)
      refine lv_iconst (v := nI 2) hx hb dL_change_19 (by decide) ?_
      refine W.widen (k := 1) (n := 6) (by first | omega | decide) (by first | omega | decide) ?_
      have ho9 := ho9.kept (hk _ ho9.lt (fun h9 => hno h9))
      have ht9 : tw_change (nI k1) x2 = nI 2 := by unfold tw_change; rw [if_neg c1, if_pos c2]
      exact W.iret (v := nI 2) hx hb hr (fun t ht _ => ⟨⟨nI 2, (), rfl, ht9.symm, by dsimp only; rw [ht]; exact ⟨f, ho9, fun h9 => absurd (ht9.symm.trans h9) (by decide)⟩⟩, by subst hAe; exact hS.F ht⟩) (by subst hAe; exact hS.2.2) dL_change_20
      ) (fun u t H1 locs1 ht hvm hf => hf.elim)
  obtain ⟨k2, hk2, rfl⟩ := inM_ok (n := 7) (by decide) c2
  refine lv_aload_n hx hb dL_change_0 rfl (lv_at hl 3 rfl) ?_
  refine lv_iconst (v := nI 0) hx hb dL_change_1 (by decide) ?_
  refine lv_aload_n hx hb dL_change_2 rfl (lv_at hl 0 rfl) ?_
  refine lv_iload_n hx hb dL_change_3 rfl (lv_at hl 1 rfl) ?_
  refine lv_iload_n hx hb dL_change_4 rfl (lv_at hl 2 rfl) ?_
  refine va_calli (va_runV (As := [.int (nI k1), .int (nI k2)]) (rest := [.int (nI 0), .ref o]) ⟨hx, hb, hml, hown, hts⟩ (conX3_change l D T ad zz2 zz2 sr0 zr0 k1 k2 (by omega) (by omega) (Nat.zero_le _) hem0) (cwV 2 hts gL_change_X3_change rfl rfl rfl (by decide +kernel) ⟨Nat.le_of_ble_eq_true rfl, Nat.le_of_ble_eq_true rfl⟩) (preV hK hw.o rfl hw) rfl rfl hl.1 rfl (lv_room (Nat.le_of_ble_eq_true rfl)) dL_change_5 ⟨Nat.le_of_ble_eq_true rfl, Nat.le_of_ble_eq_true rfl⟩) hS (fun q _ h9 => hAp q h9) (fun q h9 => hAp q h9) (fun r u t H1 locs1 ht hvm hr9 hB hz1 hk1 hS => ?_)
  replace ho9 := ho9.kept (hk1 _ ho9.lt hnq)
  have hq9 : r = chV (nI k2) := hr9.trans (v_change (by omega))
  subst hq9
  refine lv_i2l (v := (chV (nI k2)).toInt64) hx hb dL_change_8 rfl ?_
  refine q_last hx hb hK ho9 0 rfl (by decide) (by decide) hS hAo dL_change_9 (fun H1 locs1 ho9 hz oq hS => ?_)
  refine lv_goto (tgt := 21) hx hb dL_change_10 (by decide) ?_
  refine lv_iconst (v := nI 0) hx hb dL_change_21 (by decide) ?_
  refine W.widen (k := 1) (n := 6) (by first | omega | decide) (by first | omega | decide) ?_
  have ht9 : tw_change (nI k1) (nI k2) = nI 0 := by unfold tw_change; rw [if_neg c1, if_neg c2]
  exact W.iret (v := nI 0) hx hb hr (fun t ht _ => ⟨⟨nI 0, (), rfl, ht9.symm, by dsimp only; rw [ht]; exact ⟨_, ho9, fun _ => by dsimp only [vp_updL, vf_upd]; rfl⟩⟩, by subst hAe; exact hS.F ht⟩) (by subst hAe; exact hS.2.2) dL_change_22

set_option maxHeartbeats 4000000 in
set_option maxRecDepth 100000 in
theorem wr_move (l : Launch) (hlt : l.stackTraces = false) (D : va_G) (T : Nat → ClassId) (N0 sz o : Nat) (ad : Nat → Nat) (f : Nat → Int64) (x1 x2 : Int32) (hN : ∀ i : Nat, i < 37 → N0 ≤ ad i) (hNs : N0 ≤ sz) (hoa : ∀ i : Nat, i < 37 → o ≠ ad i) : Met l yL_move wsL_move ({ frames := 8, cells := 1, slots := 6, locals := 128 }) (cW D T N0 [.ref (ad 0), .int x1, .int x2, .ref o] (fun H => H.size = sz ∧ PLW D T ad zz2 zz2 sr0 zr0 H ∧ pAt D H o (eL (T 6) 1 f))) (va_Qi (fun (r : Int32) (_ : Unit) => r = tw_move x1 x2) (fun _ t => LO D T o (tw_move x1 x2) ((nI 0).toInt64) t.heap) (WA ad o sz)) 1 6 (WA ad o sz) := by
  refine q_ofWH (cc := cL_move) (maxL := 5) (ret := (some .int)) (hh := [(0, 10, 13, 13), (0, 10, 17, 15)]) (by decide) rfl ?_
  intro p e s m args below meth c s₁ B hml hv9
  obtain ⟨⟨rfl, hK, ⟨hsz, hw, ho9⟩, hKX⟩, hNc⟩ := hv9
  have hx := B.exec
  have hb := B.bytes
  have hr := B.returns
  have hts := atoms_spec (ws := wsL_move) B.pre
  have hown : s.vm.findClass RL = some m.cls := findClass_of_methodNamed B.named
  have hlocks := B.notSynchronized
  have htab := vx_table (x := yL_move) B (hts _ List.mem_cons_self)
  generalize hAe : WA ad o sz = A
  have hAs : ∀ q : Nat, SA ad s.heap.size q → A q := fun q h9 => by subst hAe; exact h9.elim Or.inl (fun h8 => Or.inr (Or.inr (by omega)))
  have hAn : ∀ q : Nat, s.heap.size ≤ q → A q := fun q h9 => hAs q (Or.inr h9)
  have hAp : ∀ q : Nat, PLA ad q → A q := fun q h9 => hAs q (Or.inl h9)
  have hAo : A o := by subst hAe; exact Or.inr (Or.inl rfl)
  have hno : ¬ s.heap.size ≤ o := by have h8 := ho9.lt; omega
  have hnq : ¬ PLA ad o := fun ⟨i, hi, h8⟩ => hoa i hi h8
  have hnp : ¬ SA ad s.heap.size o := fun h9 => h9.elim hnq hno
  have hS : va_S A s.heap s.heap [] := va_S.rf
  have hl := lv_entry ([.ref (ad 0), .int x1, .int x2, .ref o]) (n := 5) (Nat.le_of_ble_eq_true rfl)
  rw [lg_entry_eq]
  generalize (lg_sl ([.ref (ad 0), .int x1, .int x2, .ref o]) ++ List.replicate (5 - (lg_sl ([.ref (ad 0), .int x1, .int x2, .ref o])).length) Slot.unset).toArray = ls at hl ⊢
  have hl : lv_has ls 5 [(0, .ref (ad 0)), (1, .int x1), (2, .int x2), (3, .ref o)] := hl
  by_cases c1 : inM x1 (nI 0) (nI 7) = 0
  · skip
    refine lv_aload_n hx hb dL_move_0 rfl (lv_at hl 3 rfl) ?_
    refine lv_iconst (v := nI 0) hx hb dL_move_1 (by decide) ?_
    refine lv_aload_n hx hb dL_move_2 rfl (lv_at hl 0 rfl) ?_
    refine lv_iload_n hx hb dL_move_3 rfl (lv_at hl 1 rfl) ?_
    refine lv_iload_n hx hb dL_move_4 rfl (lv_at hl 2 rfl) ?_
    exact vx_callv (vx_runV (As := [.int x1, .int x2]) (rest := [.int (nI 0), .ref o]) ⟨hx, hb, hml, hown, hts⟩ (thX3_move_1 l hlt D T s.heap.size ad zz2 zz2 sr0 zr0 x1 x2 (bad1 (by decide) c1)) (cwV 2 hts gL_move_X3_move rfl rfl rfl (by decide +kernel) ⟨Nat.le_of_ble_eq_true rfl, Nat.le_of_ble_eq_true rfl⟩) (preXV hK (hKX.up (by omega)) rfl hw.o rfl hw) rfl rfl hl.1 rfl (lv_room (Nat.le_of_ble_eq_true rfl)) dL_move_5 ⟨Nat.le_of_ble_eq_true rfl, Nat.le_of_ble_eq_true rfl⟩) hS (fun q _ h9 => hAn q h9) (fun q h9 => hAn q h9) (fun q _ h9 => hAn q h9) (fun E ce q9 u t H1 locs1 ht hvm _ hE hz hk hS hce hcv hcl => by
      subst hE
      refine vx_catch (own := RL) (name := IOB) hown [] ⟨0, 10, 13, 13⟩ [⟨0, 10, 17, 15⟩] htab (fun z hz => absurd hz List.not_mem_nil) (by decide) (by decide) (hts (.classLink RL 13 IOB) (by decide +kernel)) (va_Nw.use rfl hKX.1.2.1.2) hce hcv hcl ?_
      refine lv_astore (lv' := [(4, .ref q9), (0, .ref (ad 0)), (1, .int x1), (2, .int x2), (3, .ref o)]) hx hb dL_move_13 hl (by decide) rfl (fun ls hl => ?_)
      refine lv_iconst (v := nI 1) hx hb dL_move_15 (by decide) ?_
      refine W.widen (k := 1) (n := 6) (by first | omega | decide) (by first | omega | decide) ?_
      have ho9 := ho9.kept (hk _ ho9.lt (fun h9 => hno h9))
      have ht9 : tw_move x1 x2 = nI 1 := by unfold tw_move; rw [if_pos c1]
      exact W.iret (v := nI 1) hx hb hr (fun t ht _ => ⟨⟨nI 1, (), rfl, ht9.symm, by dsimp only; rw [ht]; exact ⟨f, ho9, fun h9 => absurd (ht9.symm.trans h9) (by decide)⟩⟩, by subst hAe; exact hS.F ht⟩) (by subst hAe; exact hS.2.2) dL_move_16
      ) (fun u t H1 locs1 ht hvm hf => hf.elim)
  obtain ⟨k1, hk1, rfl⟩ := inM_ok (n := 7) (by decide) c1
  by_cases c2 : inM x2 (-100) (nI 100) = 0
  · skip
    refine lv_aload_n hx hb dL_move_0 rfl (lv_at hl 3 rfl) ?_
    refine lv_iconst (v := nI 0) hx hb dL_move_1 (by decide) ?_
    refine lv_aload_n hx hb dL_move_2 rfl (lv_at hl 0 rfl) ?_
    refine lv_iload_n hx hb dL_move_3 rfl (lv_at hl 1 rfl) ?_
    refine lv_iload_n hx hb dL_move_4 rfl (lv_at hl 2 rfl) ?_
    exact vx_callv (vx_runV (As := [.int (nI k1), .int x2]) (rest := [.int (nI 0), .ref o]) ⟨hx, hb, hml, hown, hts⟩ (thX3_move_2 l hlt D T s.heap.size ad zz2 zz2 sr0 zr0 k1 x2 (by omega) (bad3 c2)) (cwV 2 hts gL_move_X3_move rfl rfl rfl (by decide +kernel) ⟨Nat.le_of_ble_eq_true rfl, Nat.le_of_ble_eq_true rfl⟩) (preXV hK (hKX.up (by omega)) rfl hw.o rfl hw) rfl rfl hl.1 rfl (lv_room (Nat.le_of_ble_eq_true rfl)) dL_move_5 ⟨Nat.le_of_ble_eq_true rfl, Nat.le_of_ble_eq_true rfl⟩) hS (fun q _ h9 => hAn q h9) (fun q h9 => hAn q h9) (fun q _ h9 => hAn q h9) (fun E ce q9 u t H1 locs1 ht hvm _ hE hz hk hS hce hcv hcl => by
      subst hE
      refine vx_catch (own := RL) (name := IAE) hown [⟨0, 10, 13, 13⟩] ⟨0, 10, 17, 15⟩ [] htab (fun z hz => by rcases List.mem_cons.mp hz with h8 | h8; rw [h8]; exact Or.inr ⟨by decide, IOB, hts (.classLink RL 13 IOB) (by decide +kernel), hNc⟩; exact absurd h8 List.not_mem_nil) (by decide) (by decide) (hts (.classLink RL 15 IAE) (by decide +kernel)) (va_Nw.use rfl hKX.1.2.1.1) hce hcv hcl ?_
      refine lv_astore (lv' := [(4, .ref q9), (0, .ref (ad 0)), (1, .int (nI k1)), (2, .int x2), (3, .ref o)]) hx hb dL_move_17 hl (by decide) rfl (fun ls hl => ?_)
      refine lv_iconst (v := nI 2) hx hb dL_move_19 (by decide) ?_
      refine W.widen (k := 1) (n := 6) (by first | omega | decide) (by first | omega | decide) ?_
      have ho9 := ho9.kept (hk _ ho9.lt (fun h9 => hno h9))
      have ht9 : tw_move (nI k1) x2 = nI 2 := by unfold tw_move; rw [if_neg c1, if_pos c2]
      exact W.iret (v := nI 2) hx hb hr (fun t ht _ => ⟨⟨nI 2, (), rfl, ht9.symm, by dsimp only; rw [ht]; exact ⟨f, ho9, fun h9 => absurd (ht9.symm.trans h9) (by decide)⟩⟩, by subst hAe; exact hS.F ht⟩) (by subst hAe; exact hS.2.2) dL_move_20
      ) (fun u t H1 locs1 ht hvm hf => hf.elim)
  refine lv_aload_n hx hb dL_move_0 rfl (lv_at hl 3 rfl) ?_
  refine lv_iconst (v := nI 0) hx hb dL_move_1 (by decide) ?_
  refine lv_aload_n hx hb dL_move_2 rfl (lv_at hl 0 rfl) ?_
  refine lv_iload_n hx hb dL_move_3 rfl (lv_at hl 1 rfl) ?_
  refine lv_iload_n hx hb dL_move_4 rfl (lv_at hl 2 rfl) ?_
  refine va_calli (va_runV (As := [.int (nI k1), .int x2]) (rest := [.int (nI 0), .ref o]) ⟨hx, hb, hml, hown, hts⟩ (conX3_move l D T ad zz2 zz2 sr0 zr0 k1 x2 (by omega) (inM_in c2).1 (inM_in c2).2) (cwV 2 hts gL_move_X3_move rfl rfl rfl (by decide +kernel) ⟨Nat.le_of_ble_eq_true rfl, Nat.le_of_ble_eq_true rfl⟩) (preV hK hw.o rfl hw) rfl rfl hl.1 rfl (lv_room (Nat.le_of_ble_eq_true rfl)) dL_move_5 ⟨Nat.le_of_ble_eq_true rfl, Nat.le_of_ble_eq_true rfl⟩) hS (fun q _ h9 => hAp q h9) (fun q h9 => hAp q h9) (fun r u t H1 locs1 ht hvm hr9 hB hz1 hk1 hS => ?_)
  replace ho9 := ho9.kept (hk1 _ ho9.lt hnq)
  have hq9 : r = nI 0 := hr9.trans (v_move k1 _)
  subst hq9
  refine lv_i2l (v := (nI 0).toInt64) hx hb dL_move_8 rfl ?_
  refine q_last hx hb hK ho9 0 rfl (by decide) (by decide) hS hAo dL_move_9 (fun H1 locs1 ho9 hz oq hS => ?_)
  refine lv_goto (tgt := 21) hx hb dL_move_10 (by decide) ?_
  refine lv_iconst (v := nI 0) hx hb dL_move_21 (by decide) ?_
  refine W.widen (k := 1) (n := 6) (by first | omega | decide) (by first | omega | decide) ?_
  have ht9 : tw_move (nI k1) x2 = nI 0 := by unfold tw_move; rw [if_neg c1, if_neg c2]
  exact W.iret (v := nI 0) hx hb hr (fun t ht _ => ⟨⟨nI 0, (), rfl, ht9.symm, by dsimp only; rw [ht]; exact ⟨_, ho9, fun _ => by dsimp only [vp_updL, vf_upd]; rfl⟩⟩, by subst hAe; exact hS.F ht⟩) (by subst hAe; exact hS.2.2) dL_move_22

set_option maxHeartbeats 4000000 in
set_option maxRecDepth 100000 in
theorem wr_stretch (l : Launch) (hlt : l.stackTraces = false) (D : va_G) (T : Nat → ClassId) (N0 sz o : Nat) (ad : Nat → Nat) (f : Nat → Int64) (x1 x2 : Int32) (hN : ∀ i : Nat, i < 37 → N0 ≤ ad i) (hNs : N0 ≤ sz) (hoa : ∀ i : Nat, i < 37 → o ≠ ad i) : Met l yL_stretch wsL_stretch ({ frames := 8, cells := 1, slots := 6, locals := 128 }) (cW D T N0 [.ref (ad 0), .int x1, .int x2, .ref o] (fun H => H.size = sz ∧ PLW D T ad zz2 zz2 sr0 zr0 H ∧ pAt D H o (eL (T 6) 1 f))) (va_Qi (fun (r : Int32) (_ : Unit) => r = tw_stretch x1 x2) (fun _ t => LO D T o (tw_stretch x1 x2) ((nI 0).toInt64) t.heap) (WA ad o sz)) 1 6 (WA ad o sz) := by
  refine q_ofWH (cc := cL_stretch) (maxL := 5) (ret := (some .int)) (hh := [(0, 10, 13, 13), (0, 10, 17, 15)]) (by decide) rfl ?_
  intro p e s m args below meth c s₁ B hml hv9
  obtain ⟨⟨rfl, hK, ⟨hsz, hw, ho9⟩, hKX⟩, hNc⟩ := hv9
  have hx := B.exec
  have hb := B.bytes
  have hr := B.returns
  have hts := atoms_spec (ws := wsL_stretch) B.pre
  have hown : s.vm.findClass RL = some m.cls := findClass_of_methodNamed B.named
  have hlocks := B.notSynchronized
  have htab := vx_table (x := yL_stretch) B (hts _ List.mem_cons_self)
  generalize hAe : WA ad o sz = A
  have hAs : ∀ q : Nat, SA ad s.heap.size q → A q := fun q h9 => by subst hAe; exact h9.elim Or.inl (fun h8 => Or.inr (Or.inr (by omega)))
  have hAn : ∀ q : Nat, s.heap.size ≤ q → A q := fun q h9 => hAs q (Or.inr h9)
  have hAp : ∀ q : Nat, PLA ad q → A q := fun q h9 => hAs q (Or.inl h9)
  have hAo : A o := by subst hAe; exact Or.inr (Or.inl rfl)
  have hno : ¬ s.heap.size ≤ o := by have h8 := ho9.lt; omega
  have hnq : ¬ PLA ad o := fun ⟨i, hi, h8⟩ => hoa i hi h8
  have hnp : ¬ SA ad s.heap.size o := fun h9 => h9.elim hnq hno
  have hS : va_S A s.heap s.heap [] := va_S.rf
  have hl := lv_entry ([.ref (ad 0), .int x1, .int x2, .ref o]) (n := 5) (Nat.le_of_ble_eq_true rfl)
  rw [lg_entry_eq]
  generalize (lg_sl ([.ref (ad 0), .int x1, .int x2, .ref o]) ++ List.replicate (5 - (lg_sl ([.ref (ad 0), .int x1, .int x2, .ref o])).length) Slot.unset).toArray = ls at hl ⊢
  have hl : lv_has ls 5 [(0, .ref (ad 0)), (1, .int x1), (2, .int x2), (3, .ref o)] := hl
  by_cases c1 : inM x1 (nI 0) (nI 7) = 0
  · skip
    refine lv_aload_n hx hb dL_stretch_0 rfl (lv_at hl 3 rfl) ?_
    refine lv_iconst (v := nI 0) hx hb dL_stretch_1 (by decide) ?_
    refine lv_aload_n hx hb dL_stretch_2 rfl (lv_at hl 0 rfl) ?_
    refine lv_iload_n hx hb dL_stretch_3 rfl (lv_at hl 1 rfl) ?_
    refine lv_iload_n hx hb dL_stretch_4 rfl (lv_at hl 2 rfl) ?_
    exact vx_callv (vx_runV (As := [.int x1, .int x2]) (rest := [.int (nI 0), .ref o]) ⟨hx, hb, hml, hown, hts⟩ (thX3_stretch_1 l hlt D T s.heap.size ad zz2 zz2 sr0 zr0 x1 x2 (bad1 (by decide) c1)) (cwV 2 hts gL_stretch_X3_stretch rfl rfl rfl (by decide +kernel) ⟨Nat.le_of_ble_eq_true rfl, Nat.le_of_ble_eq_true rfl⟩) (preXV hK (hKX.up (by omega)) rfl hw.o rfl hw) rfl rfl hl.1 rfl (lv_room (Nat.le_of_ble_eq_true rfl)) dL_stretch_5 ⟨Nat.le_of_ble_eq_true rfl, Nat.le_of_ble_eq_true rfl⟩) hS (fun q _ h9 => hAn q h9) (fun q h9 => hAn q h9) (fun q _ h9 => hAn q h9) (fun E ce q9 u t H1 locs1 ht hvm _ hE hz hk hS hce hcv hcl => by
      subst hE
      refine vx_catch (own := RL) (name := IOB) hown [] ⟨0, 10, 13, 13⟩ [⟨0, 10, 17, 15⟩] htab (fun z hz => absurd hz List.not_mem_nil) (by decide) (by decide) (hts (.classLink RL 13 IOB) (by decide +kernel)) (va_Nw.use rfl hKX.1.2.1.2) hce hcv hcl ?_
      refine lv_astore (lv' := [(4, .ref q9), (0, .ref (ad 0)), (1, .int x1), (2, .int x2), (3, .ref o)]) hx hb dL_stretch_13 hl (by decide) rfl (fun ls hl => ?_)
      refine lv_iconst (v := nI 1) hx hb dL_stretch_15 (by decide) ?_
      refine W.widen (k := 1) (n := 6) (by first | omega | decide) (by first | omega | decide) ?_
      have ho9 := ho9.kept (hk _ ho9.lt (fun h9 => hno h9))
      have ht9 : tw_stretch x1 x2 = nI 1 := by unfold tw_stretch; rw [if_pos c1]
      exact W.iret (v := nI 1) hx hb hr (fun t ht _ => ⟨⟨nI 1, (), rfl, ht9.symm, by dsimp only; rw [ht]; exact ⟨f, ho9, fun h9 => absurd (ht9.symm.trans h9) (by decide)⟩⟩, by subst hAe; exact hS.F ht⟩) (by subst hAe; exact hS.2.2) dL_stretch_16
      ) (fun u t H1 locs1 ht hvm hf => hf.elim)
  obtain ⟨k1, hk1, rfl⟩ := inM_ok (n := 7) (by decide) c1
  by_cases c2 : inM x2 (nI 2) (nI 10) = 0
  · skip
    refine lv_aload_n hx hb dL_stretch_0 rfl (lv_at hl 3 rfl) ?_
    refine lv_iconst (v := nI 0) hx hb dL_stretch_1 (by decide) ?_
    refine lv_aload_n hx hb dL_stretch_2 rfl (lv_at hl 0 rfl) ?_
    refine lv_iload_n hx hb dL_stretch_3 rfl (lv_at hl 1 rfl) ?_
    refine lv_iload_n hx hb dL_stretch_4 rfl (lv_at hl 2 rfl) ?_
    exact vx_callv (vx_runV (As := [.int (nI k1), .int x2]) (rest := [.int (nI 0), .ref o]) ⟨hx, hb, hml, hown, hts⟩ (thX3_stretch_2 l hlt D T s.heap.size ad zz2 zz2 sr0 zr0 k1 x2 (by omega) (bad3 c2)) (cwV 2 hts gL_stretch_X3_stretch rfl rfl rfl (by decide +kernel) ⟨Nat.le_of_ble_eq_true rfl, Nat.le_of_ble_eq_true rfl⟩) (preXV hK (hKX.up (by omega)) rfl hw.o rfl hw) rfl rfl hl.1 rfl (lv_room (Nat.le_of_ble_eq_true rfl)) dL_stretch_5 ⟨Nat.le_of_ble_eq_true rfl, Nat.le_of_ble_eq_true rfl⟩) hS (fun q _ h9 => hAn q h9) (fun q h9 => hAn q h9) (fun q _ h9 => hAn q h9) (fun E ce q9 u t H1 locs1 ht hvm _ hE hz hk hS hce hcv hcl => by
      subst hE
      refine vx_catch (own := RL) (name := IAE) hown [⟨0, 10, 13, 13⟩] ⟨0, 10, 17, 15⟩ [] htab (fun z hz => by rcases List.mem_cons.mp hz with h8 | h8; rw [h8]; exact Or.inr ⟨by decide, IOB, hts (.classLink RL 13 IOB) (by decide +kernel), hNc⟩; exact absurd h8 List.not_mem_nil) (by decide) (by decide) (hts (.classLink RL 15 IAE) (by decide +kernel)) (va_Nw.use rfl hKX.1.2.1.1) hce hcv hcl ?_
      refine lv_astore (lv' := [(4, .ref q9), (0, .ref (ad 0)), (1, .int (nI k1)), (2, .int x2), (3, .ref o)]) hx hb dL_stretch_17 hl (by decide) rfl (fun ls hl => ?_)
      refine lv_iconst (v := nI 2) hx hb dL_stretch_19 (by decide) ?_
      refine W.widen (k := 1) (n := 6) (by first | omega | decide) (by first | omega | decide) ?_
      have ho9 := ho9.kept (hk _ ho9.lt (fun h9 => hno h9))
      have ht9 : tw_stretch (nI k1) x2 = nI 2 := by unfold tw_stretch; rw [if_neg c1, if_pos c2]
      exact W.iret (v := nI 2) hx hb hr (fun t ht _ => ⟨⟨nI 2, (), rfl, ht9.symm, by dsimp only; rw [ht]; exact ⟨f, ho9, fun h9 => absurd (ht9.symm.trans h9) (by decide)⟩⟩, by subst hAe; exact hS.F ht⟩) (by subst hAe; exact hS.2.2) dL_stretch_20
      ) (fun u t H1 locs1 ht hvm hf => hf.elim)
  obtain ⟨k2, hj2, hk2, rfl⟩ := inM_okL (m := 2) (n := 10) (by decide) (by decide) c2
  refine lv_aload_n hx hb dL_stretch_0 rfl (lv_at hl 3 rfl) ?_
  refine lv_iconst (v := nI 0) hx hb dL_stretch_1 (by decide) ?_
  refine lv_aload_n hx hb dL_stretch_2 rfl (lv_at hl 0 rfl) ?_
  refine lv_iload_n hx hb dL_stretch_3 rfl (lv_at hl 1 rfl) ?_
  refine lv_iload_n hx hb dL_stretch_4 rfl (lv_at hl 2 rfl) ?_
  refine va_calli (va_runV (As := [.int (nI k1), .int (nI k2)]) (rest := [.int (nI 0), .ref o]) ⟨hx, hb, hml, hown, hts⟩ (conX3_stretch l D T ad zz2 zz2 sr0 zr0 k1 k2 (by omega) (by omega) (by omega) hem0) (cwV 2 hts gL_stretch_X3_stretch rfl rfl rfl (by decide +kernel) ⟨Nat.le_of_ble_eq_true rfl, Nat.le_of_ble_eq_true rfl⟩) (preV hK hw.o rfl hw) rfl rfl hl.1 rfl (lv_room (Nat.le_of_ble_eq_true rfl)) dL_stretch_5 ⟨Nat.le_of_ble_eq_true rfl, Nat.le_of_ble_eq_true rfl⟩) hS (fun q _ h9 => hAp q h9) (fun q h9 => hAp q h9) (fun r u t H1 locs1 ht hvm hr9 hB hz1 hk1 hS => ?_)
  replace ho9 := ho9.kept (hk1 _ ho9.lt hnq)
  have hq9 : r = nI 0 := hr9.trans (v_stretch k1)
  subst hq9
  refine lv_i2l (v := (nI 0).toInt64) hx hb dL_stretch_8 rfl ?_
  refine q_last hx hb hK ho9 0 rfl (by decide) (by decide) hS hAo dL_stretch_9 (fun H1 locs1 ho9 hz oq hS => ?_)
  refine lv_goto (tgt := 21) hx hb dL_stretch_10 (by decide) ?_
  refine lv_iconst (v := nI 0) hx hb dL_stretch_21 (by decide) ?_
  refine W.widen (k := 1) (n := 6) (by first | omega | decide) (by first | omega | decide) ?_
  have ht9 : tw_stretch (nI k1) (nI k2) = nI 0 := by unfold tw_stretch; rw [if_neg c1, if_neg c2]
  exact W.iret (v := nI 0) hx hb hr (fun t ht _ => ⟨⟨nI 0, (), rfl, ht9.symm, by dsimp only; rw [ht]; exact ⟨_, ho9, fun _ => by dsimp only [vp_updL, vf_upd]; rfl⟩⟩, by subst hAe; exact hS.F ht⟩) (by subst hAe; exact hS.2.2) dL_stretch_22

set_option maxHeartbeats 4000000 in
set_option maxRecDepth 100000 in
theorem wr_ofSet (l : Launch) (hlt : l.stackTraces = false) (D : va_G) (T : Nat → ClassId) (N0 sz o : Nat) (ad : Nat → Nat) (f : Nat → Int64) (x1 x2 : Int32) (hN : ∀ i : Nat, i < 37 → N0 ≤ ad i) (hNs : N0 ≤ sz) (hoa : ∀ i : Nat, i < 37 → o ≠ ad i) : Met l yL_ofSet wsL_ofSet ({ frames := 8, cells := 1, slots := 6, locals := 131 }) (cW D T N0 [.ref (ad 0), .int x1, .int x2, .ref o] (fun H => H.size = sz ∧ PLW D T ad zz2 zz2 sr0 zr0 H ∧ pAt D H o (eL (T 6) 1 f))) (va_Qi (fun (r : Int32) (_ : Unit) => r = tw_ofSet x1 x2) (fun _ t => LO D T o (tw_ofSet x1 x2) ((onM x2.toNatClampNeg).toInt64) t.heap) (WA ad o sz)) 1 6 (WA ad o sz) := by
  refine q_ofWH (cc := cL_ofSet) (maxL := 5) (ret := (some .int)) (hh := [(0, 10, 13, 13), (0, 10, 17, 15)]) (by decide) rfl ?_
  intro p e s m args below meth c s₁ B hml hv9
  obtain ⟨⟨rfl, hK, ⟨hsz, hw, ho9⟩, hKX⟩, hNc⟩ := hv9
  have hx := B.exec
  have hb := B.bytes
  have hr := B.returns
  have hts := atoms_spec (ws := wsL_ofSet) B.pre
  have hown : s.vm.findClass RL = some m.cls := findClass_of_methodNamed B.named
  have hlocks := B.notSynchronized
  have htab := vx_table (x := yL_ofSet) B (hts _ List.mem_cons_self)
  generalize hAe : WA ad o sz = A
  have hAs : ∀ q : Nat, SA ad s.heap.size q → A q := fun q h9 => by subst hAe; exact h9.elim Or.inl (fun h8 => Or.inr (Or.inr (by omega)))
  have hAn : ∀ q : Nat, s.heap.size ≤ q → A q := fun q h9 => hAs q (Or.inr h9)
  have hAp : ∀ q : Nat, PLA ad q → A q := fun q h9 => hAs q (Or.inl h9)
  have hAo : A o := by subst hAe; exact Or.inr (Or.inl rfl)
  have hno : ¬ s.heap.size ≤ o := by have h8 := ho9.lt; omega
  have hnq : ¬ PLA ad o := fun ⟨i, hi, h8⟩ => hoa i hi h8
  have hnp : ¬ SA ad s.heap.size o := fun h9 => h9.elim hnq hno
  have hS : va_S A s.heap s.heap [] := va_S.rf
  have hl := lv_entry ([.ref (ad 0), .int x1, .int x2, .ref o]) (n := 5) (Nat.le_of_ble_eq_true rfl)
  rw [lg_entry_eq]
  generalize (lg_sl ([.ref (ad 0), .int x1, .int x2, .ref o]) ++ List.replicate (5 - (lg_sl ([.ref (ad 0), .int x1, .int x2, .ref o])).length) Slot.unset).toArray = ls at hl ⊢
  have hl : lv_has ls 5 [(0, .ref (ad 0)), (1, .int x1), (2, .int x2), (3, .ref o)] := hl
  by_cases c1 : inM x1 (nI 0) (nI 7) = 0
  · skip
    refine lv_aload_n hx hb dL_ofSet_0 rfl (lv_at hl 3 rfl) ?_
    refine lv_iconst (v := nI 0) hx hb dL_ofSet_1 (by decide) ?_
    refine lv_aload_n hx hb dL_ofSet_2 rfl (lv_at hl 0 rfl) ?_
    refine lv_iload_n hx hb dL_ofSet_3 rfl (lv_at hl 1 rfl) ?_
    refine lv_iload_n hx hb dL_ofSet_4 rfl (lv_at hl 2 rfl) ?_
    exact vx_callv (vx_runV (As := [.int x1, .int x2]) (rest := [.int (nI 0), .ref o]) ⟨hx, hb, hml, hown, hts⟩ (thX3_ofSet_1 l hlt D T s.heap.size ad zz2 zz2 sr0 zr0 x1 x2 (bad1 (by decide) c1)) (cwV 2 hts gL_ofSet_X3_ofSet rfl rfl rfl (by decide +kernel) ⟨Nat.le_of_ble_eq_true rfl, Nat.le_of_ble_eq_true rfl⟩) (preXV hK (hKX.up (by omega)) rfl hw.o rfl hw) rfl rfl hl.1 rfl (lv_room (Nat.le_of_ble_eq_true rfl)) dL_ofSet_5 ⟨Nat.le_of_ble_eq_true rfl, Nat.le_of_ble_eq_true rfl⟩) hS (fun q _ h9 => hAn q h9) (fun q h9 => hAn q h9) (fun q _ h9 => hAn q h9) (fun E ce q9 u t H1 locs1 ht hvm _ hE hz hk hS hce hcv hcl => by
      subst hE
      refine vx_catch (own := RL) (name := IOB) hown [] ⟨0, 10, 13, 13⟩ [⟨0, 10, 17, 15⟩] htab (fun z hz => absurd hz List.not_mem_nil) (by decide) (by decide) (hts (.classLink RL 13 IOB) (by decide +kernel)) (va_Nw.use rfl hKX.1.2.1.2) hce hcv hcl ?_
      refine lv_astore (lv' := [(4, .ref q9), (0, .ref (ad 0)), (1, .int x1), (2, .int x2), (3, .ref o)]) hx hb dL_ofSet_13 hl (by decide) rfl (fun ls hl => ?_)
      refine lv_iconst (v := nI 1) hx hb dL_ofSet_15 (by decide) ?_
      refine W.widen (k := 1) (n := 6) (by first | omega | decide) (by first | omega | decide) ?_
      have ho9 := ho9.kept (hk _ ho9.lt (fun h9 => hno h9))
      have ht9 : tw_ofSet x1 x2 = nI 1 := by unfold tw_ofSet; rw [if_pos c1]
      exact W.iret (v := nI 1) hx hb hr (fun t ht _ => ⟨⟨nI 1, (), rfl, ht9.symm, by dsimp only; rw [ht]; exact ⟨f, ho9, fun h9 => absurd (ht9.symm.trans h9) (by decide)⟩⟩, by subst hAe; exact hS.F ht⟩) (by subst hAe; exact hS.2.2) dL_ofSet_16
      ) (fun u t H1 locs1 ht hvm hf => hf.elim)
  obtain ⟨k1, hk1, rfl⟩ := inM_ok (n := 7) (by decide) c1
  by_cases c2 : inM x2 (nI 0) (nI 5) = 0
  · skip
    refine lv_aload_n hx hb dL_ofSet_0 rfl (lv_at hl 3 rfl) ?_
    refine lv_iconst (v := nI 0) hx hb dL_ofSet_1 (by decide) ?_
    refine lv_aload_n hx hb dL_ofSet_2 rfl (lv_at hl 0 rfl) ?_
    refine lv_iload_n hx hb dL_ofSet_3 rfl (lv_at hl 1 rfl) ?_
    refine lv_iload_n hx hb dL_ofSet_4 rfl (lv_at hl 2 rfl) ?_
    exact vx_callv (vx_runV (As := [.int (nI k1), .int x2]) (rest := [.int (nI 0), .ref o]) ⟨hx, hb, hml, hown, hts⟩ (thX3_ofSet_2 l hlt D T s.heap.size ad zz2 zz2 sr0 zr0 k1 x2 (by omega) (bad3 c2)) (cwV 2 hts gL_ofSet_X3_ofSet rfl rfl rfl (by decide +kernel) ⟨Nat.le_of_ble_eq_true rfl, Nat.le_of_ble_eq_true rfl⟩) (preXV hK (hKX.up (by omega)) rfl hw.o rfl hw) rfl rfl hl.1 rfl (lv_room (Nat.le_of_ble_eq_true rfl)) dL_ofSet_5 ⟨Nat.le_of_ble_eq_true rfl, Nat.le_of_ble_eq_true rfl⟩) hS (fun q _ h9 => hAn q h9) (fun q h9 => hAn q h9) (fun q _ h9 => hAn q h9) (fun E ce q9 u t H1 locs1 ht hvm _ hE hz hk hS hce hcv hcl => by
      subst hE
      refine vx_catch (own := RL) (name := IAE) hown [⟨0, 10, 13, 13⟩] ⟨0, 10, 17, 15⟩ [] htab (fun z hz => by rcases List.mem_cons.mp hz with h8 | h8; rw [h8]; exact Or.inr ⟨by decide, IOB, hts (.classLink RL 13 IOB) (by decide +kernel), hNc⟩; exact absurd h8 List.not_mem_nil) (by decide) (by decide) (hts (.classLink RL 15 IAE) (by decide +kernel)) (va_Nw.use rfl hKX.1.2.1.1) hce hcv hcl ?_
      refine lv_astore (lv' := [(4, .ref q9), (0, .ref (ad 0)), (1, .int (nI k1)), (2, .int x2), (3, .ref o)]) hx hb dL_ofSet_17 hl (by decide) rfl (fun ls hl => ?_)
      refine lv_iconst (v := nI 2) hx hb dL_ofSet_19 (by decide) ?_
      refine W.widen (k := 1) (n := 6) (by first | omega | decide) (by first | omega | decide) ?_
      have ho9 := ho9.kept (hk _ ho9.lt (fun h9 => hno h9))
      have ht9 : tw_ofSet (nI k1) x2 = nI 2 := by unfold tw_ofSet; rw [if_neg c1, if_pos c2]
      exact W.iret (v := nI 2) hx hb hr (fun t ht _ => ⟨⟨nI 2, (), rfl, ht9.symm, by dsimp only; rw [ht]; exact ⟨f, ho9, fun h9 => absurd (ht9.symm.trans h9) (by decide)⟩⟩, by subst hAe; exact hS.F ht⟩) (by subst hAe; exact hS.2.2) dL_ofSet_20
      ) (fun u t H1 locs1 ht hvm hf => hf.elim)
  obtain ⟨k2, hk2, rfl⟩ := inM_ok (n := 5) (by decide) c2
  refine lv_aload_n hx hb dL_ofSet_0 rfl (lv_at hl 3 rfl) ?_
  refine lv_iconst (v := nI 0) hx hb dL_ofSet_1 (by decide) ?_
  refine lv_aload_n hx hb dL_ofSet_2 rfl (lv_at hl 0 rfl) ?_
  refine lv_iload_n hx hb dL_ofSet_3 rfl (lv_at hl 1 rfl) ?_
  refine lv_iload_n hx hb dL_ofSet_4 rfl (lv_at hl 2 rfl) ?_
  refine va_calli (va_runV (As := [.int (nI k1), .int (nI k2)]) (rest := [.int (nI 0), .ref o]) ⟨hx, hb, hml, hown, hts⟩ (conX3_ofSet l D T ad zz2 zz2 sr0 zr0 k1 k2 (by omega) (by omega) (Nat.zero_le _)) (cwV 2 hts gL_ofSet_X3_ofSet rfl rfl rfl (by decide +kernel) ⟨Nat.le_of_ble_eq_true rfl, Nat.le_of_ble_eq_true rfl⟩) (preV hK hw.o rfl hw) rfl rfl hl.1 rfl (lv_room (Nat.le_of_ble_eq_true rfl)) dL_ofSet_5 ⟨Nat.le_of_ble_eq_true rfl, Nat.le_of_ble_eq_true rfl⟩) hS (fun q _ h9 => hAp q h9) (fun q h9 => hAp q h9) (fun r u t H1 locs1 ht hvm hr9 hB hz1 hk1 hS => ?_)
  replace ho9 := ho9.kept (hk1 _ ho9.lt hnq)
  have hq9 : r = onM k2 := hr9.trans (v_ofSet _ (by omega))
  subst hq9
  refine lv_i2l (v := (onM k2).toInt64) hx hb dL_ofSet_8 rfl ?_
  refine q_last hx hb hK ho9 0 rfl (by decide) (by decide) hS hAo dL_ofSet_9 (fun H1 locs1 ho9 hz oq hS => ?_)
  refine lv_goto (tgt := 21) hx hb dL_ofSet_10 (by decide) ?_
  refine lv_iconst (v := nI 0) hx hb dL_ofSet_21 (by decide) ?_
  refine W.widen (k := 1) (n := 6) (by first | omega | decide) (by first | omega | decide) ?_
  have ht9 : tw_ofSet (nI k1) (nI k2) = nI 0 := by unfold tw_ofSet; rw [if_neg c1, if_neg c2]
  exact W.iret (v := nI 0) hx hb hr (fun t ht _ => ⟨⟨nI 0, (), rfl, ht9.symm, by dsimp only; rw [ht]; exact ⟨_, ho9, fun _ => by dsimp only [vp_updL, vf_upd]; rw [if_pos rfl]; rw [nI_clamp (by omega)]⟩⟩, by subst hAe; exact hS.F ht⟩) (by subst hAe; exact hS.2.2) dL_ofSet_22

set_option maxHeartbeats 4000000 in
set_option maxRecDepth 100000 in
theorem wr_ofSpan (l : Launch) (hlt : l.stackTraces = false) (D : va_G) (T : Nat → ClassId) (N0 sz o : Nat) (ad : Nat → Nat) (f : Nat → Int64) (x1 x2 x3 : Int32) (hN : ∀ i : Nat, i < 37 → N0 ≤ ad i) (hNs : N0 ≤ sz) (hoa : ∀ i : Nat, i < 37 → o ≠ ad i) : Met l yL_ofSpan wsL_ofSpan ({ frames := 8, cells := 1, slots := 6, locals := 127 }) (cW D T N0 [.ref (ad 0), .int x1, .int x2, .int x3, .ref o] (fun H => H.size = sz ∧ PLW D T ad zz2 zz2 sr0 zr0 H ∧ pAt D H o (eL (T 6) 1 f))) (va_Qi (fun (r : Int32) (_ : Unit) => r = tw_ofSpan x1 x2 x3) (fun _ t => LO D T o (tw_ofSpan x1 x2 x3) ((nI 0).toInt64) t.heap) (WA ad o sz)) 1 6 (WA ad o sz) := by
  refine q_ofWH (cc := cL_ofSpan) (maxL := 6) (ret := (some .int)) (hh := [(0, 12, 15, 13), (0, 12, 19, 15)]) (by decide) rfl ?_
  intro p e s m args below meth c s₁ B hml hv9
  obtain ⟨⟨rfl, hK, ⟨hsz, hw, ho9⟩, hKX⟩, hNc⟩ := hv9
  have hx := B.exec
  have hb := B.bytes
  have hr := B.returns
  have hts := atoms_spec (ws := wsL_ofSpan) B.pre
  have hown : s.vm.findClass RL = some m.cls := findClass_of_methodNamed B.named
  have hlocks := B.notSynchronized
  have htab := vx_table (x := yL_ofSpan) B (hts _ List.mem_cons_self)
  generalize hAe : WA ad o sz = A
  have hAs : ∀ q : Nat, SA ad s.heap.size q → A q := fun q h9 => by subst hAe; exact h9.elim Or.inl (fun h8 => Or.inr (Or.inr (by omega)))
  have hAn : ∀ q : Nat, s.heap.size ≤ q → A q := fun q h9 => hAs q (Or.inr h9)
  have hAp : ∀ q : Nat, PLA ad q → A q := fun q h9 => hAs q (Or.inl h9)
  have hAo : A o := by subst hAe; exact Or.inr (Or.inl rfl)
  have hno : ¬ s.heap.size ≤ o := by have h8 := ho9.lt; omega
  have hnq : ¬ PLA ad o := fun ⟨i, hi, h8⟩ => hoa i hi h8
  have hnp : ¬ SA ad s.heap.size o := fun h9 => h9.elim hnq hno
  have hS : va_S A s.heap s.heap [] := va_S.rf
  have hl := lv_entry ([.ref (ad 0), .int x1, .int x2, .int x3, .ref o]) (n := 6) (Nat.le_of_ble_eq_true rfl)
  rw [lg_entry_eq]
  generalize (lg_sl ([.ref (ad 0), .int x1, .int x2, .int x3, .ref o]) ++ List.replicate (6 - (lg_sl ([.ref (ad 0), .int x1, .int x2, .int x3, .ref o])).length) Slot.unset).toArray = ls at hl ⊢
  have hl : lv_has ls 6 [(0, .ref (ad 0)), (1, .int x1), (2, .int x2), (3, .int x3), (4, .ref o)] := hl
  by_cases c1 : inM x1 (nI 0) (nI 7) = 0
  · skip
    refine lv_aload hx hb dL_ofSpan_0 (lv_at hl 4 rfl) ?_
    refine lv_iconst (v := nI 0) hx hb dL_ofSpan_2 (by decide) ?_
    refine lv_aload_n hx hb dL_ofSpan_3 rfl (lv_at hl 0 rfl) ?_
    refine lv_iload_n hx hb dL_ofSpan_4 rfl (lv_at hl 1 rfl) ?_
    refine lv_iload_n hx hb dL_ofSpan_5 rfl (lv_at hl 2 rfl) ?_
    refine lv_iload_n hx hb dL_ofSpan_6 rfl (lv_at hl 3 rfl) ?_
    exact vx_callv (vx_runV (As := [.int x1, .int x2, .int x3]) (rest := [.int (nI 0), .ref o]) ⟨hx, hb, hml, hown, hts⟩ (thX3_ofSpan_1 l hlt D T s.heap.size ad zz2 zz2 sr0 zr0 x1 x2 x3 (bad1 (by decide) c1)) (cwV 3 hts gL_ofSpan_X3_ofSpan rfl rfl rfl (by decide +kernel) ⟨Nat.le_of_ble_eq_true rfl, Nat.le_of_ble_eq_true rfl⟩) (preXV hK (hKX.up (by omega)) rfl hw.o rfl hw) rfl rfl hl.1 rfl (lv_room (Nat.le_of_ble_eq_true rfl)) dL_ofSpan_7 ⟨Nat.le_of_ble_eq_true rfl, Nat.le_of_ble_eq_true rfl⟩) hS (fun q _ h9 => hAn q h9) (fun q h9 => hAn q h9) (fun q _ h9 => hAn q h9) (fun E ce q9 u t H1 locs1 ht hvm _ hE hz hk hS hce hcv hcl => by
      subst hE
      refine vx_catch (own := RL) (name := IOB) hown [] ⟨0, 12, 15, 13⟩ [⟨0, 12, 19, 15⟩] htab (fun z hz => absurd hz List.not_mem_nil) (by decide) (by decide) (hts (.classLink RL 13 IOB) (by decide +kernel)) (va_Nw.use rfl hKX.1.2.1.2) hce hcv hcl ?_
      refine lv_astore (lv' := [(5, .ref q9), (0, .ref (ad 0)), (1, .int x1), (2, .int x2), (3, .int x3), (4, .ref o)]) hx hb dL_ofSpan_15 hl (by decide) rfl (fun ls hl => ?_)
      refine lv_iconst (v := nI 1) hx hb dL_ofSpan_17 (by decide) ?_
      refine W.widen (k := 1) (n := 6) (by first | omega | decide) (by first | omega | decide) ?_
      have ho9 := ho9.kept (hk _ ho9.lt (fun h9 => hno h9))
      have ht9 : tw_ofSpan x1 x2 x3 = nI 1 := by unfold tw_ofSpan; rfl
      exact W.iret (v := nI 1) hx hb hr (fun t ht _ => ⟨⟨nI 1, (), rfl, ht9.symm, by dsimp only; rw [ht]; exact ⟨f, ho9, fun h9 => absurd (ht9.symm.trans h9) (by decide)⟩⟩, by subst hAe; exact hS.F ht⟩) (by subst hAe; exact hS.2.2) dL_ofSpan_18
      ) (fun u t H1 locs1 ht hvm hf => hf.elim)
  obtain ⟨k1, hk1, rfl⟩ := inM_ok (n := 7) (by decide) c1
  refine lv_aload hx hb dL_ofSpan_0 (lv_at hl 4 rfl) ?_
  refine lv_iconst (v := nI 0) hx hb dL_ofSpan_2 (by decide) ?_
  refine lv_aload_n hx hb dL_ofSpan_3 rfl (lv_at hl 0 rfl) ?_
  refine lv_iload_n hx hb dL_ofSpan_4 rfl (lv_at hl 1 rfl) ?_
  refine lv_iload_n hx hb dL_ofSpan_5 rfl (lv_at hl 2 rfl) ?_
  refine lv_iload_n hx hb dL_ofSpan_6 rfl (lv_at hl 3 rfl) ?_
  exact vx_callv (vx_runV (As := [.int (nI k1), .int x2, .int x3]) (rest := [.int (nI 0), .ref o]) ⟨hx, hb, hml, hown, hts⟩ (thX3_ofSpan_2A l hlt D T N0 s.heap.size ad zz2 zz2 sr0 zr0 k1 x2 x3 (by omega) hN (by omega) (Nat.zero_le _) hem0) (cwV 3 hts gL_ofSpan_X3_ofSpan rfl rfl rfl (by decide +kernel) ⟨Nat.le_of_ble_eq_true rfl, Nat.le_of_ble_eq_true rfl⟩) (preXV hK hKX rfl hw.o rfl ⟨rfl, hw⟩) rfl rfl hl.1 rfl (lv_room (Nat.le_of_ble_eq_true rfl)) dL_ofSpan_7 ⟨Nat.le_of_ble_eq_true rfl, Nat.le_of_ble_eq_true rfl⟩) hS (fun q _ h9 => hAs q h9) (fun q h9 => hAs q h9) (fun q _ h9 => hAs q h9) (fun E ce q9 u t H1 locs1 ht hvm _ hE hz hk hS hce hcv hcl => by
    subst hE
    refine vx_catch (own := RL) (name := IOB) hown [] ⟨0, 12, 15, 13⟩ [⟨0, 12, 19, 15⟩] htab (fun z hz => absurd hz List.not_mem_nil) (by decide) (by decide) (hts (.classLink RL 13 IOB) (by decide +kernel)) (va_Nw.use rfl hKX.1.2.1.2) hce hcv hcl ?_
    refine lv_astore (lv' := [(5, .ref q9), (0, .ref (ad 0)), (1, .int (nI k1)), (2, .int x2), (3, .int x3), (4, .ref o)]) hx hb dL_ofSpan_15 hl (by decide) rfl (fun ls hl => ?_)
    refine lv_iconst (v := nI 1) hx hb dL_ofSpan_17 (by decide) ?_
    refine W.widen (k := 1) (n := 6) (by first | omega | decide) (by first | omega | decide) ?_
    have ho9 := ho9.kept (hk _ ho9.lt (fun h9 => hnp h9))
    have ht9 : tw_ofSpan (nI k1) x2 x3 = nI 1 := by unfold tw_ofSpan; rfl
    exact W.iret (v := nI 1) hx hb hr (fun t ht _ => ⟨⟨nI 1, (), rfl, ht9.symm, by dsimp only; rw [ht]; exact ⟨f, ho9, fun h9 => absurd (ht9.symm.trans h9) (by decide)⟩⟩, by subst hAe; exact hS.F ht⟩) (by subst hAe; exact hS.2.2) dL_ofSpan_18
    ) (fun u t H1 locs1 ht hvm hf => hf.elim)

set_option maxHeartbeats 4000000 in
set_option maxRecDepth 100000 in
theorem wr_has (l : Launch) (hlt : l.stackTraces = false) (D : va_G) (T : Nat → ClassId) (N0 sz o : Nat) (ad : Nat → Nat) (f : Nat → Int64) (x1 x2 : Int32) (hN : ∀ i : Nat, i < 37 → N0 ≤ ad i) (hNs : N0 ≤ sz) (hoa : ∀ i : Nat, i < 37 → o ≠ ad i) : Met l yL_has wsL_has ({ frames := 8, cells := 1, slots := 6, locals := 127 }) (cW D T N0 [.ref (ad 0), .int x1, .int x2, .ref o] (fun H => H.size = sz ∧ PLW D T ad zz2 zz2 sr0 zr0 H ∧ pAt D H o (eL (T 6) 1 f))) (va_Qi (fun (r : Int32) (_ : Unit) => r = tw_has x1 x2) (fun _ t => LO D T o (tw_has x1 x2) (0) t.heap) (WA ad o sz)) 1 6 (WA ad o sz) := by
  refine q_ofWH (cc := cL_has) (maxL := 5) (ret := (some .int)) (hh := [(0, 17, 20, 13)]) (by decide) rfl ?_
  intro p e s m args below meth c s₁ B hml hv9
  obtain ⟨⟨rfl, hK, ⟨hsz, hw, ho9⟩, hKX⟩, hNc⟩ := hv9
  have hx := B.exec
  have hb := B.bytes
  have hr := B.returns
  have hts := atoms_spec (ws := wsL_has) B.pre
  have hown : s.vm.findClass RL = some m.cls := findClass_of_methodNamed B.named
  have hlocks := B.notSynchronized
  have htab := vx_table (x := yL_has) B (hts _ List.mem_cons_self)
  generalize hAe : WA ad o sz = A
  have hAs : ∀ q : Nat, SA ad s.heap.size q → A q := fun q h9 => by subst hAe; exact h9.elim Or.inl (fun h8 => Or.inr (Or.inr (by omega)))
  have hAn : ∀ q : Nat, s.heap.size ≤ q → A q := fun q h9 => hAs q (Or.inr h9)
  have hAp : ∀ q : Nat, PLA ad q → A q := fun q h9 => hAs q (Or.inl h9)
  have hAo : A o := by subst hAe; exact Or.inr (Or.inl rfl)
  have hno : ¬ s.heap.size ≤ o := by have h8 := ho9.lt; omega
  have hnq : ¬ PLA ad o := fun ⟨i, hi, h8⟩ => hoa i hi h8
  have hnp : ¬ SA ad s.heap.size o := fun h9 => h9.elim hnq hno
  have hS : va_S A s.heap s.heap [] := va_S.rf
  have hl := lv_entry ([.ref (ad 0), .int x1, .int x2, .ref o]) (n := 5) (Nat.le_of_ble_eq_true rfl)
  rw [lg_entry_eq]
  generalize (lg_sl ([.ref (ad 0), .int x1, .int x2, .ref o]) ++ List.replicate (5 - (lg_sl ([.ref (ad 0), .int x1, .int x2, .ref o])).length) Slot.unset).toArray = ls at hl ⊢
  have hl : lv_has ls 5 [(0, .ref (ad 0)), (1, .int x1), (2, .int x2), (3, .ref o)] := hl
  by_cases c1 : inM x1 (nI 0) (nI 7) = 0
  · skip
    refine lv_aload_n hx hb dL_has_0 rfl (lv_at hl 3 rfl) ?_
    refine lv_iconst (v := nI 0) hx hb dL_has_1 (by decide) ?_
    refine lv_aload_n hx hb dL_has_2 rfl (lv_at hl 0 rfl) ?_
    refine lv_iload_n hx hb dL_has_3 rfl (lv_at hl 1 rfl) ?_
    refine lv_iload_n hx hb dL_has_4 rfl (lv_at hl 2 rfl) ?_
    exact vx_callv (vx_runV (As := [.int x1, .int x2]) (rest := [.int (nI 0), .ref o]) ⟨hx, hb, hml, hown, hts⟩ (thX3_has_1 l hlt D T s.heap.size ad zz2 zz2 sr0 zr0 x1 x2 (bad1 (by decide) c1)) (cwV 2 hts gL_has_X3_has rfl rfl rfl (by decide +kernel) ⟨Nat.le_of_ble_eq_true rfl, Nat.le_of_ble_eq_true rfl⟩) (preXV hK (hKX.up (by omega)) rfl hw.o rfl hw) rfl rfl hl.1 rfl (lv_room (Nat.le_of_ble_eq_true rfl)) dL_has_5 ⟨Nat.le_of_ble_eq_true rfl, Nat.le_of_ble_eq_true rfl⟩) hS (fun q _ h9 => hAn q h9) (fun q h9 => hAn q h9) (fun q _ h9 => hAn q h9) (fun E ce q9 u t H1 locs1 ht hvm _ hE hz hk hS hce hcv hcl => by
      subst hE
      refine vx_catch (own := RL) (name := IOB) hown [] ⟨0, 17, 20, 13⟩ [] htab (fun z hz => absurd hz List.not_mem_nil) (by decide) (by decide) (hts (.classLink RL 13 IOB) (by decide +kernel)) (va_Nw.use rfl hKX.1.2.1.2) hce hcv hcl ?_
      refine lv_astore (lv' := [(4, .ref q9), (0, .ref (ad 0)), (1, .int x1), (2, .int x2), (3, .ref o)]) hx hb dL_has_20 hl (by decide) rfl (fun ls hl => ?_)
      refine lv_iconst (v := nI 1) hx hb dL_has_22 (by decide) ?_
      refine W.widen (k := 1) (n := 6) (by first | omega | decide) (by first | omega | decide) ?_
      have ho9 := ho9.kept (hk _ ho9.lt (fun h9 => hno h9))
      have ht9 : tw_has x1 x2 = nI 1 := by unfold tw_has; rw [if_pos c1]
      exact W.iret (v := nI 1) hx hb hr (fun t ht _ => ⟨⟨nI 1, (), rfl, ht9.symm, by dsimp only; rw [ht]; exact ⟨f, ho9, fun h9 => absurd (ht9.symm.trans h9) (by decide)⟩⟩, by subst hAe; exact hS.F ht⟩) (by subst hAe; exact hS.2.2) dL_has_23
      ) (fun u t H1 locs1 ht hvm hf => hf.elim)
  obtain ⟨k1, hk1, rfl⟩ := inM_ok (n := 7) (by decide) c1
  by_cases c2 : inM x2 (nI 0) (nI 200) = 0
  · skip
    refine lv_aload_n hx hb dL_has_0 rfl (lv_at hl 3 rfl) ?_
    refine lv_iconst (v := nI 0) hx hb dL_has_1 (by decide) ?_
    refine lv_aload_n hx hb dL_has_2 rfl (lv_at hl 0 rfl) ?_
    refine lv_iload_n hx hb dL_has_3 rfl (lv_at hl 1 rfl) ?_
    refine lv_iload_n hx hb dL_has_4 rfl (lv_at hl 2 rfl) ?_
    exact vx_callv (vx_runV (As := [.int (nI k1), .int x2]) (rest := [.int (nI 0), .ref o]) ⟨hx, hb, hml, hown, hts⟩ (thX3_has_2 l hlt D T s.heap.size ad zz2 zz2 sr0 zr0 k1 x2 (by omega) (bad2 (by decide) c2)) (cwV 2 hts gL_has_X3_has rfl rfl rfl (by decide +kernel) ⟨Nat.le_of_ble_eq_true rfl, Nat.le_of_ble_eq_true rfl⟩) (preXV hK (hKX.up (by omega)) rfl hw.o rfl hw) rfl rfl hl.1 rfl (lv_room (Nat.le_of_ble_eq_true rfl)) dL_has_5 ⟨Nat.le_of_ble_eq_true rfl, Nat.le_of_ble_eq_true rfl⟩) hS (fun q _ h9 => hAn q h9) (fun q h9 => hAn q h9) (fun q _ h9 => hAn q h9) (fun E ce q9 u t H1 locs1 ht hvm _ hE hz hk hS hce hcv hcl => by
      subst hE
      refine vx_catch (own := RL) (name := IOB) hown [] ⟨0, 17, 20, 13⟩ [] htab (fun z hz => absurd hz List.not_mem_nil) (by decide) (by decide) (hts (.classLink RL 13 IOB) (by decide +kernel)) (va_Nw.use rfl hKX.1.2.1.2) hce hcv hcl ?_
      refine lv_astore (lv' := [(4, .ref q9), (0, .ref (ad 0)), (1, .int (nI k1)), (2, .int x2), (3, .ref o)]) hx hb dL_has_20 hl (by decide) rfl (fun ls hl => ?_)
      refine lv_iconst (v := nI 1) hx hb dL_has_22 (by decide) ?_
      refine W.widen (k := 1) (n := 6) (by first | omega | decide) (by first | omega | decide) ?_
      have ho9 := ho9.kept (hk _ ho9.lt (fun h9 => hno h9))
      have ht9 : tw_has (nI k1) x2 = nI 1 := by unfold tw_has; rw [if_neg c1, if_pos c2]
      exact W.iret (v := nI 1) hx hb hr (fun t ht _ => ⟨⟨nI 1, (), rfl, ht9.symm, by dsimp only; rw [ht]; exact ⟨f, ho9, fun h9 => absurd (ht9.symm.trans h9) (by decide)⟩⟩, by subst hAe; exact hS.F ht⟩) (by subst hAe; exact hS.2.2) dL_has_23
      ) (fun u t H1 locs1 ht hvm hf => hf.elim)
  obtain ⟨k2, hk2, rfl⟩ := inM_ok (n := 200) (by decide) c2
  refine lv_aload_n hx hb dL_has_0 rfl (lv_at hl 3 rfl) ?_
  refine lv_iconst (v := nI 0) hx hb dL_has_1 (by decide) ?_
  refine lv_aload_n hx hb dL_has_2 rfl (lv_at hl 0 rfl) ?_
  refine lv_iload_n hx hb dL_has_3 rfl (lv_at hl 1 rfl) ?_
  refine lv_iload_n hx hb dL_has_4 rfl (lv_at hl 2 rfl) ?_
  refine vp_callSi (va_runV (As := [.int (nI k1), .int (nI k2)]) (rest := [.int (nI 0), .ref o]) ⟨hx, hb, hml, hown, hts⟩ (conX3_has l D T ad zz2 zz2 sr0 zr0 k1 k2 (by omega) (by omega)) (cwV 2 hts gL_has_X3_has rfl rfl rfl (by decide +kernel) ⟨Nat.le_of_ble_eq_true rfl, Nat.le_of_ble_eq_true rfl⟩) (preV hK hw.o rfl hw) rfl rfl hl.1 rfl (lv_room (Nat.le_of_ble_eq_true rfl)) dL_has_5 ⟨Nat.le_of_ble_eq_true rfl, Nat.le_of_ble_eq_true rfl⟩).run (fun r hr9 => ?_)
  have hq9 : r = nI 0 := hr9.trans (hz0 _)
  subst hq9
  refine lv_if_eq (tgt := 15) hx hb dL_has_8 (by decide) (fun c8 => ?_) (fun c8 => ?_)
  · skip
    have c8 : 0 = 0 := (nc_eq (a := 0) (b := 0) (by omega) (by omega)).mp c8
    refine lv_lconst (v := 0) hx hb dL_has_15 (by decide) ?_
    refine q_last hx hb hK ho9 0 rfl (by decide) (by decide) hS hAo dL_has_16 (fun H1 locs1 ho9 hz oq hS => ?_)
    refine lv_goto (tgt := 24) hx hb dL_has_17 (by decide) ?_
    refine lv_iconst (v := nI 0) hx hb dL_has_24 (by decide) ?_
    refine W.widen (k := 1) (n := 6) (by first | omega | decide) (by first | omega | decide) ?_
    have ht9 : tw_has (nI k1) (nI k2) = nI 0 := by unfold tw_has; rw [if_neg c1, if_neg c2]
    exact W.iret (v := nI 0) hx hb hr (fun t ht _ => ⟨⟨nI 0, (), rfl, ht9.symm, by dsimp only; rw [ht]; exact ⟨_, ho9, fun _ => by dsimp only [vp_updL, vf_upd]; rfl⟩⟩, by subst hAe; exact hS.F ht⟩) (by subst hAe; exact hS.2.2) dL_has_25
  · skip
    have c8 : ¬ (0 = 0) := fun q9 => c8 ((nc_eq (a := 0) (b := 0) (by omega) (by omega)).mpr q9)
    omega

set_option maxHeartbeats 4000000 in
set_option maxRecDepth 100000 in
theorem wr_far (l : Launch) (hlt : l.stackTraces = false) (D : va_G) (T : Nat → ClassId) (N0 sz o : Nat) (ad : Nat → Nat) (f : Nat → Int64) (x1 x2 : Int32) (hN : ∀ i : Nat, i < 37 → N0 ≤ ad i) (hNs : N0 ≤ sz) (hoa : ∀ i : Nat, i < 37 → o ≠ ad i) : Met l yL_far wsL_far ({ frames := 8, cells := 1, slots := 6, locals := 128 }) (cW D T N0 [.ref (ad 0), .int x1, .int x2, .ref o] (fun H => H.size = sz ∧ PLW D T ad zz2 zz2 sr0 zr0 H ∧ pAt D H o (eL (T 6) 1 f))) (va_Qi (fun (r : Int32) (_ : Unit) => r = tw_far x1 x2) (fun _ t => LO D T o (tw_far x1 x2) (((-1)).toInt64) t.heap) (WA ad o sz)) 1 6 (WA ad o sz) := by
  refine q_ofWH (cc := cL_far) (maxL := 5) (ret := (some .int)) (hh := [(0, 10, 13, 13)]) (by decide) rfl ?_
  intro p e s m args below meth c s₁ B hml hv9
  obtain ⟨⟨rfl, hK, ⟨hsz, hw, ho9⟩, hKX⟩, hNc⟩ := hv9
  have hx := B.exec
  have hb := B.bytes
  have hr := B.returns
  have hts := atoms_spec (ws := wsL_far) B.pre
  have hown : s.vm.findClass RL = some m.cls := findClass_of_methodNamed B.named
  have hlocks := B.notSynchronized
  have htab := vx_table (x := yL_far) B (hts _ List.mem_cons_self)
  generalize hAe : WA ad o sz = A
  have hAs : ∀ q : Nat, SA ad s.heap.size q → A q := fun q h9 => by subst hAe; exact h9.elim Or.inl (fun h8 => Or.inr (Or.inr (by omega)))
  have hAn : ∀ q : Nat, s.heap.size ≤ q → A q := fun q h9 => hAs q (Or.inr h9)
  have hAp : ∀ q : Nat, PLA ad q → A q := fun q h9 => hAs q (Or.inl h9)
  have hAo : A o := by subst hAe; exact Or.inr (Or.inl rfl)
  have hno : ¬ s.heap.size ≤ o := by have h8 := ho9.lt; omega
  have hnq : ¬ PLA ad o := fun ⟨i, hi, h8⟩ => hoa i hi h8
  have hnp : ¬ SA ad s.heap.size o := fun h9 => h9.elim hnq hno
  have hS : va_S A s.heap s.heap [] := va_S.rf
  have hl := lv_entry ([.ref (ad 0), .int x1, .int x2, .ref o]) (n := 5) (Nat.le_of_ble_eq_true rfl)
  rw [lg_entry_eq]
  generalize (lg_sl ([.ref (ad 0), .int x1, .int x2, .ref o]) ++ List.replicate (5 - (lg_sl ([.ref (ad 0), .int x1, .int x2, .ref o])).length) Slot.unset).toArray = ls at hl ⊢
  have hl : lv_has ls 5 [(0, .ref (ad 0)), (1, .int x1), (2, .int x2), (3, .ref o)] := hl
  by_cases c1 : inM x1 (nI 0) (nI 7) = 0
  · skip
    refine lv_aload_n hx hb dL_far_0 rfl (lv_at hl 3 rfl) ?_
    refine lv_iconst (v := nI 0) hx hb dL_far_1 (by decide) ?_
    refine lv_aload_n hx hb dL_far_2 rfl (lv_at hl 0 rfl) ?_
    refine lv_iload_n hx hb dL_far_3 rfl (lv_at hl 1 rfl) ?_
    refine lv_iload_n hx hb dL_far_4 rfl (lv_at hl 2 rfl) ?_
    exact vx_callv (vx_runV (As := [.int x1, .int x2]) (rest := [.int (nI 0), .ref o]) ⟨hx, hb, hml, hown, hts⟩ (thX3_far_1 l hlt D T s.heap.size ad zz2 zz2 sr0 zr0 x1 x2 (bad1 (by decide) c1)) (cwV 2 hts gL_far_X3_far rfl rfl rfl (by decide +kernel) ⟨Nat.le_of_ble_eq_true rfl, Nat.le_of_ble_eq_true rfl⟩) (preXV hK (hKX.up (by omega)) rfl hw.o rfl hw) rfl rfl hl.1 rfl (lv_room (Nat.le_of_ble_eq_true rfl)) dL_far_5 ⟨Nat.le_of_ble_eq_true rfl, Nat.le_of_ble_eq_true rfl⟩) hS (fun q _ h9 => hAn q h9) (fun q h9 => hAn q h9) (fun q _ h9 => hAn q h9) (fun E ce q9 u t H1 locs1 ht hvm _ hE hz hk hS hce hcv hcl => by
      subst hE
      refine vx_catch (own := RL) (name := IOB) hown [] ⟨0, 10, 13, 13⟩ [] htab (fun z hz => absurd hz List.not_mem_nil) (by decide) (by decide) (hts (.classLink RL 13 IOB) (by decide +kernel)) (va_Nw.use rfl hKX.1.2.1.2) hce hcv hcl ?_
      refine lv_astore (lv' := [(4, .ref q9), (0, .ref (ad 0)), (1, .int x1), (2, .int x2), (3, .ref o)]) hx hb dL_far_13 hl (by decide) rfl (fun ls hl => ?_)
      refine lv_iconst (v := nI 1) hx hb dL_far_15 (by decide) ?_
      refine W.widen (k := 1) (n := 6) (by first | omega | decide) (by first | omega | decide) ?_
      have ho9 := ho9.kept (hk _ ho9.lt (fun h9 => hno h9))
      have ht9 : tw_far x1 x2 = nI 1 := by unfold tw_far; rw [if_pos c1]
      exact W.iret (v := nI 1) hx hb hr (fun t ht _ => ⟨⟨nI 1, (), rfl, ht9.symm, by dsimp only; rw [ht]; exact ⟨f, ho9, fun h9 => absurd (ht9.symm.trans h9) (by decide)⟩⟩, by subst hAe; exact hS.F ht⟩) (by subst hAe; exact hS.2.2) dL_far_16
      ) (fun u t H1 locs1 ht hvm hf => hf.elim)
  obtain ⟨k1, hk1, rfl⟩ := inM_ok (n := 7) (by decide) c1
  by_cases c2 : inM x2 (nI 0) (nI 200) = 0
  · skip
    refine lv_aload_n hx hb dL_far_0 rfl (lv_at hl 3 rfl) ?_
    refine lv_iconst (v := nI 0) hx hb dL_far_1 (by decide) ?_
    refine lv_aload_n hx hb dL_far_2 rfl (lv_at hl 0 rfl) ?_
    refine lv_iload_n hx hb dL_far_3 rfl (lv_at hl 1 rfl) ?_
    refine lv_iload_n hx hb dL_far_4 rfl (lv_at hl 2 rfl) ?_
    exact vx_callv (vx_runV (As := [.int (nI k1), .int x2]) (rest := [.int (nI 0), .ref o]) ⟨hx, hb, hml, hown, hts⟩ (thX3_far_2 l hlt D T s.heap.size ad zz2 zz2 sr0 zr0 k1 x2 (by omega) (bad2 (by decide) c2)) (cwV 2 hts gL_far_X3_far rfl rfl rfl (by decide +kernel) ⟨Nat.le_of_ble_eq_true rfl, Nat.le_of_ble_eq_true rfl⟩) (preXV hK (hKX.up (by omega)) rfl hw.o rfl hw) rfl rfl hl.1 rfl (lv_room (Nat.le_of_ble_eq_true rfl)) dL_far_5 ⟨Nat.le_of_ble_eq_true rfl, Nat.le_of_ble_eq_true rfl⟩) hS (fun q _ h9 => hAn q h9) (fun q h9 => hAn q h9) (fun q _ h9 => hAn q h9) (fun E ce q9 u t H1 locs1 ht hvm _ hE hz hk hS hce hcv hcl => by
      subst hE
      refine vx_catch (own := RL) (name := IOB) hown [] ⟨0, 10, 13, 13⟩ [] htab (fun z hz => absurd hz List.not_mem_nil) (by decide) (by decide) (hts (.classLink RL 13 IOB) (by decide +kernel)) (va_Nw.use rfl hKX.1.2.1.2) hce hcv hcl ?_
      refine lv_astore (lv' := [(4, .ref q9), (0, .ref (ad 0)), (1, .int (nI k1)), (2, .int x2), (3, .ref o)]) hx hb dL_far_13 hl (by decide) rfl (fun ls hl => ?_)
      refine lv_iconst (v := nI 1) hx hb dL_far_15 (by decide) ?_
      refine W.widen (k := 1) (n := 6) (by first | omega | decide) (by first | omega | decide) ?_
      have ho9 := ho9.kept (hk _ ho9.lt (fun h9 => hno h9))
      have ht9 : tw_far (nI k1) x2 = nI 1 := by unfold tw_far; rw [if_neg c1, if_pos c2]
      exact W.iret (v := nI 1) hx hb hr (fun t ht _ => ⟨⟨nI 1, (), rfl, ht9.symm, by dsimp only; rw [ht]; exact ⟨f, ho9, fun h9 => absurd (ht9.symm.trans h9) (by decide)⟩⟩, by subst hAe; exact hS.F ht⟩) (by subst hAe; exact hS.2.2) dL_far_16
      ) (fun u t H1 locs1 ht hvm hf => hf.elim)
  obtain ⟨k2, hk2, rfl⟩ := inM_ok (n := 200) (by decide) c2
  refine lv_aload_n hx hb dL_far_0 rfl (lv_at hl 3 rfl) ?_
  refine lv_iconst (v := nI 0) hx hb dL_far_1 (by decide) ?_
  refine lv_aload_n hx hb dL_far_2 rfl (lv_at hl 0 rfl) ?_
  refine lv_iload_n hx hb dL_far_3 rfl (lv_at hl 1 rfl) ?_
  refine lv_iload_n hx hb dL_far_4 rfl (lv_at hl 2 rfl) ?_
  refine vp_callSi (va_runV (As := [.int (nI k1), .int (nI k2)]) (rest := [.int (nI 0), .ref o]) ⟨hx, hb, hml, hown, hts⟩ (conX3_far l D T ad zz2 zz2 sr0 zr0 k1 k2 (by omega) (by omega)) (cwV 2 hts gL_far_X3_far rfl rfl rfl (by decide +kernel) ⟨Nat.le_of_ble_eq_true rfl, Nat.le_of_ble_eq_true rfl⟩) (preV hK hw.o rfl hw) rfl rfl hl.1 rfl (lv_room (Nat.le_of_ble_eq_true rfl)) dL_far_5 ⟨Nat.le_of_ble_eq_true rfl, Nat.le_of_ble_eq_true rfl⟩).run (fun r hr9 => ?_)
  have hq9 : r = (-1) := far_0 hr9
  subst hq9
  refine lv_i2l (v := (-1).toInt64) hx hb dL_far_8 rfl ?_
  refine q_last hx hb hK ho9 0 rfl (by decide) (by decide) hS hAo dL_far_9 (fun H1 locs1 ho9 hz oq hS => ?_)
  refine lv_goto (tgt := 17) hx hb dL_far_10 (by decide) ?_
  refine lv_iconst (v := nI 0) hx hb dL_far_17 (by decide) ?_
  refine W.widen (k := 1) (n := 6) (by first | omega | decide) (by first | omega | decide) ?_
  have ht9 : tw_far (nI k1) (nI k2) = nI 0 := by unfold tw_far; rw [if_neg c1, if_neg c2]
  exact W.iret (v := nI 0) hx hb hr (fun t ht _ => ⟨⟨nI 0, (), rfl, ht9.symm, by dsimp only; rw [ht]; exact ⟨_, ho9, fun _ => by dsimp only [vp_updL, vf_upd]; rfl⟩⟩, by subst hAe; exact hS.F ht⟩) (by subst hAe; exact hS.2.2) dL_far_18

set_option maxHeartbeats 4000000 in
set_option maxRecDepth 100000 in
theorem wr_beside (l : Launch) (hlt : l.stackTraces = false) (D : va_G) (T : Nat → ClassId) (N0 sz o : Nat) (ad : Nat → Nat) (f : Nat → Int64) (x1 x2 : Int32) (hN : ∀ i : Nat, i < 37 → N0 ≤ ad i) (hNs : N0 ≤ sz) (hoa : ∀ i : Nat, i < 37 → o ≠ ad i) : Met l yL_beside wsL_beside ({ frames := 8, cells := 1, slots := 6, locals := 130 }) (cW D T N0 [.ref (ad 0), .int x1, .int x2, .ref o] (fun H => H.size = sz ∧ PLW D T ad zz2 zz2 sr0 zr0 H ∧ pAt D H o (eL (T 6) 1 f))) (va_Qi (fun (r : Int32) (_ : Unit) => r = tw_beside x1 x2) (fun _ t => LO D T o (tw_beside x1 x2) ((nI 0).toInt64) t.heap) (WA ad o sz)) 1 6 (WA ad o sz) := by
  refine q_ofWH (cc := cL_beside) (maxL := 5) (ret := (some .int)) (hh := [(0, 10, 13, 13)]) (by decide) rfl ?_
  intro p e s m args below meth c s₁ B hml hv9
  obtain ⟨⟨rfl, hK, ⟨hsz, hw, ho9⟩, hKX⟩, hNc⟩ := hv9
  have hx := B.exec
  have hb := B.bytes
  have hr := B.returns
  have hts := atoms_spec (ws := wsL_beside) B.pre
  have hown : s.vm.findClass RL = some m.cls := findClass_of_methodNamed B.named
  have hlocks := B.notSynchronized
  have htab := vx_table (x := yL_beside) B (hts _ List.mem_cons_self)
  generalize hAe : WA ad o sz = A
  have hAs : ∀ q : Nat, SA ad s.heap.size q → A q := fun q h9 => by subst hAe; exact h9.elim Or.inl (fun h8 => Or.inr (Or.inr (by omega)))
  have hAn : ∀ q : Nat, s.heap.size ≤ q → A q := fun q h9 => hAs q (Or.inr h9)
  have hAp : ∀ q : Nat, PLA ad q → A q := fun q h9 => hAs q (Or.inl h9)
  have hAo : A o := by subst hAe; exact Or.inr (Or.inl rfl)
  have hno : ¬ s.heap.size ≤ o := by have h8 := ho9.lt; omega
  have hnq : ¬ PLA ad o := fun ⟨i, hi, h8⟩ => hoa i hi h8
  have hnp : ¬ SA ad s.heap.size o := fun h9 => h9.elim hnq hno
  have hS : va_S A s.heap s.heap [] := va_S.rf
  have hl := lv_entry ([.ref (ad 0), .int x1, .int x2, .ref o]) (n := 5) (Nat.le_of_ble_eq_true rfl)
  rw [lg_entry_eq]
  generalize (lg_sl ([.ref (ad 0), .int x1, .int x2, .ref o]) ++ List.replicate (5 - (lg_sl ([.ref (ad 0), .int x1, .int x2, .ref o])).length) Slot.unset).toArray = ls at hl ⊢
  have hl : lv_has ls 5 [(0, .ref (ad 0)), (1, .int x1), (2, .int x2), (3, .ref o)] := hl
  by_cases c1 : inM x1 (nI 0) (nI 7) = 0
  · skip
    refine lv_aload_n hx hb dL_beside_0 rfl (lv_at hl 3 rfl) ?_
    refine lv_iconst (v := nI 0) hx hb dL_beside_1 (by decide) ?_
    refine lv_aload_n hx hb dL_beside_2 rfl (lv_at hl 0 rfl) ?_
    refine lv_iload_n hx hb dL_beside_3 rfl (lv_at hl 1 rfl) ?_
    refine lv_iload_n hx hb dL_beside_4 rfl (lv_at hl 2 rfl) ?_
    exact vx_callv (vx_runV (As := [.int x1, .int x2]) (rest := [.int (nI 0), .ref o]) ⟨hx, hb, hml, hown, hts⟩ (thX3_beside_1 l hlt D T s.heap.size ad zz2 zz2 sr0 zr0 x1 x2 (bad1 (by decide) c1)) (cwV 2 hts gL_beside_X3_beside rfl rfl rfl (by decide +kernel) ⟨Nat.le_of_ble_eq_true rfl, Nat.le_of_ble_eq_true rfl⟩) (preXV hK (hKX.up (by omega)) rfl hw.o rfl hw) rfl rfl hl.1 rfl (lv_room (Nat.le_of_ble_eq_true rfl)) dL_beside_5 ⟨Nat.le_of_ble_eq_true rfl, Nat.le_of_ble_eq_true rfl⟩) hS (fun q _ h9 => hAn q h9) (fun q h9 => hAn q h9) (fun q _ h9 => hAn q h9) (fun E ce q9 u t H1 locs1 ht hvm _ hE hz hk hS hce hcv hcl => by
      subst hE
      refine vx_catch (own := RL) (name := IOB) hown [] ⟨0, 10, 13, 13⟩ [] htab (fun z hz => absurd hz List.not_mem_nil) (by decide) (by decide) (hts (.classLink RL 13 IOB) (by decide +kernel)) (va_Nw.use rfl hKX.1.2.1.2) hce hcv hcl ?_
      refine lv_astore (lv' := [(4, .ref q9), (0, .ref (ad 0)), (1, .int x1), (2, .int x2), (3, .ref o)]) hx hb dL_beside_13 hl (by decide) rfl (fun ls hl => ?_)
      refine lv_iconst (v := nI 1) hx hb dL_beside_15 (by decide) ?_
      refine W.widen (k := 1) (n := 6) (by first | omega | decide) (by first | omega | decide) ?_
      have ho9 := ho9.kept (hk _ ho9.lt (fun h9 => hno h9))
      have ht9 : tw_beside x1 x2 = nI 1 := by unfold tw_beside; rw [if_pos c1]
      exact W.iret (v := nI 1) hx hb hr (fun t ht _ => ⟨⟨nI 1, (), rfl, ht9.symm, by dsimp only; rw [ht]; exact ⟨f, ho9, fun h9 => absurd (ht9.symm.trans h9) (by decide)⟩⟩, by subst hAe; exact hS.F ht⟩) (by subst hAe; exact hS.2.2) dL_beside_16
      ) (fun u t H1 locs1 ht hvm hf => hf.elim)
  obtain ⟨k1, hk1, rfl⟩ := inM_ok (n := 7) (by decide) c1
  by_cases c2 : inM x2 (nI 0) (nI 7) = 0
  · skip
    refine lv_aload_n hx hb dL_beside_0 rfl (lv_at hl 3 rfl) ?_
    refine lv_iconst (v := nI 0) hx hb dL_beside_1 (by decide) ?_
    refine lv_aload_n hx hb dL_beside_2 rfl (lv_at hl 0 rfl) ?_
    refine lv_iload_n hx hb dL_beside_3 rfl (lv_at hl 1 rfl) ?_
    refine lv_iload_n hx hb dL_beside_4 rfl (lv_at hl 2 rfl) ?_
    exact vx_callv (vx_runV (As := [.int (nI k1), .int x2]) (rest := [.int (nI 0), .ref o]) ⟨hx, hb, hml, hown, hts⟩ (thX3_beside_2 l hlt D T s.heap.size ad zz2 zz2 sr0 zr0 k1 x2 (by omega) (bad1 (by decide) c2)) (cwV 2 hts gL_beside_X3_beside rfl rfl rfl (by decide +kernel) ⟨Nat.le_of_ble_eq_true rfl, Nat.le_of_ble_eq_true rfl⟩) (preXV hK (hKX.up (by omega)) rfl hw.o rfl hw) rfl rfl hl.1 rfl (lv_room (Nat.le_of_ble_eq_true rfl)) dL_beside_5 ⟨Nat.le_of_ble_eq_true rfl, Nat.le_of_ble_eq_true rfl⟩) hS (fun q _ h9 => hAn q h9) (fun q h9 => hAn q h9) (fun q _ h9 => hAn q h9) (fun E ce q9 u t H1 locs1 ht hvm _ hE hz hk hS hce hcv hcl => by
      subst hE
      refine vx_catch (own := RL) (name := IOB) hown [] ⟨0, 10, 13, 13⟩ [] htab (fun z hz => absurd hz List.not_mem_nil) (by decide) (by decide) (hts (.classLink RL 13 IOB) (by decide +kernel)) (va_Nw.use rfl hKX.1.2.1.2) hce hcv hcl ?_
      refine lv_astore (lv' := [(4, .ref q9), (0, .ref (ad 0)), (1, .int (nI k1)), (2, .int x2), (3, .ref o)]) hx hb dL_beside_13 hl (by decide) rfl (fun ls hl => ?_)
      refine lv_iconst (v := nI 1) hx hb dL_beside_15 (by decide) ?_
      refine W.widen (k := 1) (n := 6) (by first | omega | decide) (by first | omega | decide) ?_
      have ho9 := ho9.kept (hk _ ho9.lt (fun h9 => hno h9))
      have ht9 : tw_beside (nI k1) x2 = nI 1 := by unfold tw_beside; rw [if_neg c1, if_pos c2]
      exact W.iret (v := nI 1) hx hb hr (fun t ht _ => ⟨⟨nI 1, (), rfl, ht9.symm, by dsimp only; rw [ht]; exact ⟨f, ho9, fun h9 => absurd (ht9.symm.trans h9) (by decide)⟩⟩, by subst hAe; exact hS.F ht⟩) (by subst hAe; exact hS.2.2) dL_beside_16
      ) (fun u t H1 locs1 ht hvm hf => hf.elim)
  obtain ⟨k2, hk2, rfl⟩ := inM_ok (n := 7) (by decide) c2
  refine lv_aload_n hx hb dL_beside_0 rfl (lv_at hl 3 rfl) ?_
  refine lv_iconst (v := nI 0) hx hb dL_beside_1 (by decide) ?_
  refine lv_aload_n hx hb dL_beside_2 rfl (lv_at hl 0 rfl) ?_
  refine lv_iload_n hx hb dL_beside_3 rfl (lv_at hl 1 rfl) ?_
  refine lv_iload_n hx hb dL_beside_4 rfl (lv_at hl 2 rfl) ?_
  refine vp_callSi (va_runV (As := [.int (nI k1), .int (nI k2)]) (rest := [.int (nI 0), .ref o]) ⟨hx, hb, hml, hown, hts⟩ (conX3_beside l D T ad zz2 zz2 sr0 zr0 k1 k2 (by omega) (by omega) emp0) (cwV 2 hts gL_beside_X3_beside rfl rfl rfl (by decide +kernel) ⟨Nat.le_of_ble_eq_true rfl, Nat.le_of_ble_eq_true rfl⟩) (preV hK hw.o rfl hw) rfl rfl hl.1 rfl (lv_room (Nat.le_of_ble_eq_true rfl)) dL_beside_5 ⟨Nat.le_of_ble_eq_true rfl, Nat.le_of_ble_eq_true rfl⟩).run (fun r hr9 => ?_)
  have hq9 : r = nI 0 := hr9.trans (rfl)
  subst hq9
  refine lv_i2l (v := (nI 0).toInt64) hx hb dL_beside_8 rfl ?_
  refine q_last hx hb hK ho9 0 rfl (by decide) (by decide) hS hAo dL_beside_9 (fun H1 locs1 ho9 hz oq hS => ?_)
  refine lv_goto (tgt := 17) hx hb dL_beside_10 (by decide) ?_
  refine lv_iconst (v := nI 0) hx hb dL_beside_17 (by decide) ?_
  refine W.widen (k := 1) (n := 6) (by first | omega | decide) (by first | omega | decide) ?_
  have ht9 : tw_beside (nI k1) (nI k2) = nI 0 := by unfold tw_beside; rw [if_neg c1, if_neg c2]
  exact W.iret (v := nI 0) hx hb hr (fun t ht _ => ⟨⟨nI 0, (), rfl, ht9.symm, by dsimp only; rw [ht]; exact ⟨_, ho9, fun _ => by dsimp only [vp_updL, vf_upd]; rfl⟩⟩, by subst hAe; exact hS.F ht⟩) (by subst hAe; exact hS.2.2) dL_beside_18

set_option maxHeartbeats 4000000 in
set_option maxRecDepth 100000 in
theorem wr_raise (l : Launch) (hlt : l.stackTraces = false) (D : va_G) (T : Nat → ClassId) (N0 sz o : Nat) (ad : Nat → Nat) (f : Nat → Int64) (x1 x2 x3 x4 x5 : Int32) (hN : ∀ i : Nat, i < 37 → N0 ≤ ad i) (hNs : N0 ≤ sz) (hoa : ∀ i : Nat, i < 37 → o ≠ ad i) : Met l yL_raise wsL_raise ({ frames := 9, cells := 1, slots := 6, locals := 153 }) (cW D T N0 [.ref (ad 0), .int x1, .int x2, .int x3, .int x4, .int x5, .ref o] (fun H => H.size = sz ∧ PLW D T ad zz2 zz2 sr0 zr0 H ∧ pAt D H o (eL (T 6) 1 f))) (va_Qi (fun (r : Int32) (_ : Unit) => r = tw_raise x1 x2 x3 x4 x5) (fun _ t => LO D T o (tw_raise x1 x2 x3 x4 x5) ((raV x2 x3 x4 x5).toInt64) t.heap) (WA ad o sz)) 1 6 (WA ad o sz) := by
  refine q_ofWH (cc := cL_raise) (maxL := 8) (ret := (some .int)) (hh := [(0, 16, 19, 13), (0, 16, 23, 15)]) (by decide) rfl ?_
  intro p e s m args below meth c s₁ B hml hv9
  obtain ⟨⟨rfl, hK, ⟨hsz, hw, ho9⟩, hKX⟩, hNc⟩ := hv9
  have hx := B.exec
  have hb := B.bytes
  have hr := B.returns
  have hts := atoms_spec (ws := wsL_raise) B.pre
  have hown : s.vm.findClass RL = some m.cls := findClass_of_methodNamed B.named
  have hlocks := B.notSynchronized
  have htab := vx_table (x := yL_raise) B (hts _ List.mem_cons_self)
  generalize hAe : WA ad o sz = A
  have hAs : ∀ q : Nat, SA ad s.heap.size q → A q := fun q h9 => by subst hAe; exact h9.elim Or.inl (fun h8 => Or.inr (Or.inr (by omega)))
  have hAn : ∀ q : Nat, s.heap.size ≤ q → A q := fun q h9 => hAs q (Or.inr h9)
  have hAp : ∀ q : Nat, PLA ad q → A q := fun q h9 => hAs q (Or.inl h9)
  have hAo : A o := by subst hAe; exact Or.inr (Or.inl rfl)
  have hno : ¬ s.heap.size ≤ o := by have h8 := ho9.lt; omega
  have hnq : ¬ PLA ad o := fun ⟨i, hi, h8⟩ => hoa i hi h8
  have hnp : ¬ SA ad s.heap.size o := fun h9 => h9.elim hnq hno
  have hS : va_S A s.heap s.heap [] := va_S.rf
  have hl := lv_entry ([.ref (ad 0), .int x1, .int x2, .int x3, .int x4, .int x5, .ref o]) (n := 8) (Nat.le_of_ble_eq_true rfl)
  rw [lg_entry_eq]
  generalize (lg_sl ([.ref (ad 0), .int x1, .int x2, .int x3, .int x4, .int x5, .ref o]) ++ List.replicate (8 - (lg_sl ([.ref (ad 0), .int x1, .int x2, .int x3, .int x4, .int x5, .ref o])).length) Slot.unset).toArray = ls at hl ⊢
  have hl : lv_has ls 8 [(0, .ref (ad 0)), (1, .int x1), (2, .int x2), (3, .int x3), (4, .int x4), (5, .int x5), (6, .ref o)] := hl
  by_cases c1 : inM x1 (nI 0) (nI 4) = 0
  · skip
    refine lv_aload hx hb dL_raise_0 (lv_at hl 6 rfl) ?_
    refine lv_iconst (v := nI 0) hx hb dL_raise_2 (by decide) ?_
    refine lv_aload_n hx hb dL_raise_3 rfl (lv_at hl 0 rfl) ?_
    refine lv_iload_n hx hb dL_raise_4 rfl (lv_at hl 1 rfl) ?_
    refine lv_iload_n hx hb dL_raise_5 rfl (lv_at hl 2 rfl) ?_
    refine lv_iload_n hx hb dL_raise_6 rfl (lv_at hl 3 rfl) ?_
    refine lv_iload hx hb dL_raise_7 (lv_at hl 4 rfl) ?_
    refine lv_iload hx hb dL_raise_9 (lv_at hl 5 rfl) ?_
    exact vx_callv (vx_runV (As := [.int x1, .int x2, .int x3, .int x4, .int x5]) (rest := [.int (nI 0), .ref o]) ⟨hx, hb, hml, hown, hts⟩ (thX3_raise_1 l hlt D T s.heap.size ad zz2 zz2 sr0 zr0 x1 x2 x3 x4 x5 (bad1 (by decide) c1)) (cwV 5 hts gL_raise_X3_raise rfl rfl rfl (by decide +kernel) ⟨Nat.le_of_ble_eq_true rfl, Nat.le_of_ble_eq_true rfl⟩) (preXV hK (hKX.up (by omega)) rfl hw.o rfl hw) rfl rfl hl.1 rfl (lv_room (Nat.le_of_ble_eq_true rfl)) dL_raise_11 ⟨Nat.le_of_ble_eq_true rfl, Nat.le_of_ble_eq_true rfl⟩) hS (fun q _ h9 => hAn q h9) (fun q h9 => hAn q h9) (fun q _ h9 => hAn q h9) (fun E ce q9 u t H1 locs1 ht hvm _ hE hz hk hS hce hcv hcl => by
      subst hE
      refine vx_catch (own := RL) (name := IOB) hown [] ⟨0, 16, 19, 13⟩ [⟨0, 16, 23, 15⟩] htab (fun z hz => absurd hz List.not_mem_nil) (by decide) (by decide) (hts (.classLink RL 13 IOB) (by decide +kernel)) (va_Nw.use rfl hKX.1.2.1.2) hce hcv hcl ?_
      refine lv_astore (lv' := [(7, .ref q9), (0, .ref (ad 0)), (1, .int x1), (2, .int x2), (3, .int x3), (4, .int x4), (5, .int x5), (6, .ref o)]) hx hb dL_raise_19 hl (by decide) rfl (fun ls hl => ?_)
      refine lv_iconst (v := nI 1) hx hb dL_raise_21 (by decide) ?_
      refine W.widen (k := 1) (n := 6) (by first | omega | decide) (by first | omega | decide) ?_
      have ho9 := ho9.kept (hk _ ho9.lt (fun h9 => hno h9))
      have ht9 : tw_raise x1 x2 x3 x4 x5 = nI 1 := by unfold tw_raise; rw [if_pos c1]
      exact W.iret (v := nI 1) hx hb hr (fun t ht _ => ⟨⟨nI 1, (), rfl, ht9.symm, by dsimp only; rw [ht]; exact ⟨f, ho9, fun h9 => absurd (ht9.symm.trans h9) (by decide)⟩⟩, by subst hAe; exact hS.F ht⟩) (by subst hAe; exact hS.2.2) dL_raise_22
      ) (fun u t H1 locs1 ht hvm hf => hf.elim)
  obtain ⟨k1, hk1, rfl⟩ := inM_ok (n := 4) (by decide) c1
  by_cases c2 : spanM x2 x3 x4 = 0
  · skip
    refine lv_aload hx hb dL_raise_0 (lv_at hl 6 rfl) ?_
    refine lv_iconst (v := nI 0) hx hb dL_raise_2 (by decide) ?_
    refine lv_aload_n hx hb dL_raise_3 rfl (lv_at hl 0 rfl) ?_
    refine lv_iload_n hx hb dL_raise_4 rfl (lv_at hl 1 rfl) ?_
    refine lv_iload_n hx hb dL_raise_5 rfl (lv_at hl 2 rfl) ?_
    refine lv_iload_n hx hb dL_raise_6 rfl (lv_at hl 3 rfl) ?_
    refine lv_iload hx hb dL_raise_7 (lv_at hl 4 rfl) ?_
    refine lv_iload hx hb dL_raise_9 (lv_at hl 5 rfl) ?_
    exact vx_callv (vx_runV (As := [.int (nI k1), .int x2, .int x3, .int x4, .int x5]) (rest := [.int (nI 0), .ref o]) ⟨hx, hb, hml, hown, hts⟩ (thX3_raise_2 l hlt D T s.heap.size ad zz2 zz2 sr0 zr0 k1 x2 x3 x4 x5 (by omega) (badS c2)) (cwV 5 hts gL_raise_X3_raise rfl rfl rfl (by decide +kernel) ⟨Nat.le_of_ble_eq_true rfl, Nat.le_of_ble_eq_true rfl⟩) (preXV hK (hKX.up (by omega)) rfl hw.o rfl hw) rfl rfl hl.1 rfl (lv_room (Nat.le_of_ble_eq_true rfl)) dL_raise_11 ⟨Nat.le_of_ble_eq_true rfl, Nat.le_of_ble_eq_true rfl⟩) hS (fun q _ h9 => hAn q h9) (fun q h9 => hAn q h9) (fun q _ h9 => hAn q h9) (fun E ce q9 u t H1 locs1 ht hvm _ hE hz hk hS hce hcv hcl => by
      subst hE
      refine vx_catch (own := RL) (name := IAE) hown [⟨0, 16, 19, 13⟩] ⟨0, 16, 23, 15⟩ [] htab (fun z hz => by rcases List.mem_cons.mp hz with h8 | h8; rw [h8]; exact Or.inr ⟨by decide, IOB, hts (.classLink RL 13 IOB) (by decide +kernel), hNc⟩; exact absurd h8 List.not_mem_nil) (by decide) (by decide) (hts (.classLink RL 15 IAE) (by decide +kernel)) (va_Nw.use rfl hKX.1.2.1.1) hce hcv hcl ?_
      refine lv_astore (lv' := [(7, .ref q9), (0, .ref (ad 0)), (1, .int (nI k1)), (2, .int x2), (3, .int x3), (4, .int x4), (5, .int x5), (6, .ref o)]) hx hb dL_raise_23 hl (by decide) rfl (fun ls hl => ?_)
      refine lv_iconst (v := nI 2) hx hb dL_raise_25 (by decide) ?_
      refine W.widen (k := 1) (n := 6) (by first | omega | decide) (by first | omega | decide) ?_
      have ho9 := ho9.kept (hk _ ho9.lt (fun h9 => hno h9))
      have ht9 : tw_raise (nI k1) x2 x3 x4 x5 = nI 2 := by unfold tw_raise; rw [if_neg c1, if_pos c2]
      exact W.iret (v := nI 2) hx hb hr (fun t ht _ => ⟨⟨nI 2, (), rfl, ht9.symm, by dsimp only; rw [ht]; exact ⟨f, ho9, fun h9 => absurd (ht9.symm.trans h9) (by decide)⟩⟩, by subst hAe; exact hS.F ht⟩) (by subst hAe; exact hS.2.2) dL_raise_26
      ) (fun u t H1 locs1 ht hvm hf => hf.elim)
  obtain ⟨a, b, ee, hab, hb9, he, rfl, rfl, rfl⟩ := spanM_ok c2
  by_cases c3 : inM x5 (-1000) (nI 1000) = 0
  · skip
    refine lv_aload hx hb dL_raise_0 (lv_at hl 6 rfl) ?_
    refine lv_iconst (v := nI 0) hx hb dL_raise_2 (by decide) ?_
    refine lv_aload_n hx hb dL_raise_3 rfl (lv_at hl 0 rfl) ?_
    refine lv_iload_n hx hb dL_raise_4 rfl (lv_at hl 1 rfl) ?_
    refine lv_iload_n hx hb dL_raise_5 rfl (lv_at hl 2 rfl) ?_
    refine lv_iload_n hx hb dL_raise_6 rfl (lv_at hl 3 rfl) ?_
    refine lv_iload hx hb dL_raise_7 (lv_at hl 4 rfl) ?_
    refine lv_iload hx hb dL_raise_9 (lv_at hl 5 rfl) ?_
    exact vx_callv (vx_runV (As := [.int (nI k1), .int (nI a), .int (nI b), .int (nI ee), .int x5]) (rest := [.int (nI 0), .ref o]) ⟨hx, hb, hml, hown, hts⟩ (thX3_raise_3 l hlt D T s.heap.size ad zz2 zz2 sr0 zr0 k1 a b ee x5 (by omega) hab hb9 he (bad3 c3)) (cwV 5 hts gL_raise_X3_raise rfl rfl rfl (by decide +kernel) ⟨Nat.le_of_ble_eq_true rfl, Nat.le_of_ble_eq_true rfl⟩) (preXV hK (hKX.up (by omega)) rfl hw.o rfl hw) rfl rfl hl.1 rfl (lv_room (Nat.le_of_ble_eq_true rfl)) dL_raise_11 ⟨Nat.le_of_ble_eq_true rfl, Nat.le_of_ble_eq_true rfl⟩) hS (fun q _ h9 => hAn q h9) (fun q h9 => hAn q h9) (fun q _ h9 => hAn q h9) (fun E ce q9 u t H1 locs1 ht hvm _ hE hz hk hS hce hcv hcl => by
      subst hE
      refine vx_catch (own := RL) (name := IAE) hown [⟨0, 16, 19, 13⟩] ⟨0, 16, 23, 15⟩ [] htab (fun z hz => by rcases List.mem_cons.mp hz with h8 | h8; rw [h8]; exact Or.inr ⟨by decide, IOB, hts (.classLink RL 13 IOB) (by decide +kernel), hNc⟩; exact absurd h8 List.not_mem_nil) (by decide) (by decide) (hts (.classLink RL 15 IAE) (by decide +kernel)) (va_Nw.use rfl hKX.1.2.1.1) hce hcv hcl ?_
      refine lv_astore (lv' := [(7, .ref q9), (0, .ref (ad 0)), (1, .int (nI k1)), (2, .int (nI a)), (3, .int (nI b)), (4, .int (nI ee)), (5, .int x5), (6, .ref o)]) hx hb dL_raise_23 hl (by decide) rfl (fun ls hl => ?_)
      refine lv_iconst (v := nI 2) hx hb dL_raise_25 (by decide) ?_
      refine W.widen (k := 1) (n := 6) (by first | omega | decide) (by first | omega | decide) ?_
      have ho9 := ho9.kept (hk _ ho9.lt (fun h9 => hno h9))
      have ht9 : tw_raise (nI k1) (nI a) (nI b) (nI ee) x5 = nI 2 := by unfold tw_raise; rw [if_neg c1, if_neg c2, if_pos c3]
      exact W.iret (v := nI 2) hx hb hr (fun t ht _ => ⟨⟨nI 2, (), rfl, ht9.symm, by dsimp only; rw [ht]; exact ⟨f, ho9, fun h9 => absurd (ht9.symm.trans h9) (by decide)⟩⟩, by subst hAe; exact hS.F ht⟩) (by subst hAe; exact hS.2.2) dL_raise_26
      ) (fun u t H1 locs1 ht hvm hf => hf.elim)
  refine lv_aload hx hb dL_raise_0 (lv_at hl 6 rfl) ?_
  refine lv_iconst (v := nI 0) hx hb dL_raise_2 (by decide) ?_
  refine lv_aload_n hx hb dL_raise_3 rfl (lv_at hl 0 rfl) ?_
  refine lv_iload_n hx hb dL_raise_4 rfl (lv_at hl 1 rfl) ?_
  refine lv_iload_n hx hb dL_raise_5 rfl (lv_at hl 2 rfl) ?_
  refine lv_iload_n hx hb dL_raise_6 rfl (lv_at hl 3 rfl) ?_
  refine lv_iload hx hb dL_raise_7 (lv_at hl 4 rfl) ?_
  refine lv_iload hx hb dL_raise_9 (lv_at hl 5 rfl) ?_
  refine va_calli (va_runV (As := [.int (nI k1), .int (nI a), .int (nI b), .int (nI ee), .int x5]) (rest := [.int (nI 0), .ref o]) ⟨hx, hb, hml, hown, hts⟩ (conX3_raise l D T ad zz2 zz2 sr0 zr0 k1 (by omega) a b ee x5 hab hb9 he (inM_in c3).1 (inM_in c3).2) (cwV 5 hts gL_raise_X3_raise rfl rfl rfl (by decide +kernel) ⟨Nat.le_of_ble_eq_true rfl, Nat.le_of_ble_eq_true rfl⟩) (preV hK hw.o rfl hw) rfl rfl hl.1 rfl (lv_room (Nat.le_of_ble_eq_true rfl)) dL_raise_11 ⟨Nat.le_of_ble_eq_true rfl, Nat.le_of_ble_eq_true rfl⟩) hS (fun q _ h9 => hAp q h9) (fun q h9 => hAp q h9) (fun r u t H1 locs1 ht hvm hr9 hB hz1 hk1 hS => ?_)
  replace ho9 := ho9.kept (hk1 _ ho9.lt hnq)
  have hq9 : r = raV (nI a) (nI b) (nI ee) x5 := hr9.trans (v_raise hab hb9 he)
  subst hq9
  refine lv_i2l (v := (raV (nI a) (nI b) (nI ee) x5).toInt64) hx hb dL_raise_14 rfl ?_
  refine q_last hx hb hK ho9 0 rfl (by decide) (by decide) hS hAo dL_raise_15 (fun H1 locs1 ho9 hz oq hS => ?_)
  refine lv_goto (tgt := 27) hx hb dL_raise_16 (by decide) ?_
  refine lv_iconst (v := nI 0) hx hb dL_raise_27 (by decide) ?_
  refine W.widen (k := 1) (n := 6) (by first | omega | decide) (by first | omega | decide) ?_
  have ht9 : tw_raise (nI k1) (nI a) (nI b) (nI ee) x5 = nI 0 := by unfold tw_raise; rw [if_neg c1, if_neg c2, if_neg c3]
  exact W.iret (v := nI 0) hx hb hr (fun t ht _ => ⟨⟨nI 0, (), rfl, ht9.symm, by dsimp only; rw [ht]; exact ⟨_, ho9, fun _ => by dsimp only [vp_updL, vf_upd]; rfl⟩⟩, by subst hAe; exact hS.F ht⟩) (by subst hAe; exact hS.2.2) dL_raise_28

set_option maxHeartbeats 4000000 in
set_option maxRecDepth 100000 in
theorem wr_set (l : Launch) (hlt : l.stackTraces = false) (D : va_G) (T : Nat → ClassId) (N0 sz o : Nat) (ad : Nat → Nat) (f : Nat → Int64) (x1 x2 x3 : Int32) (hN : ∀ i : Nat, i < 37 → N0 ≤ ad i) (hNs : N0 ≤ sz) (hoa : ∀ i : Nat, i < 37 → o ≠ ad i) : Met l yL_set wsL_set ({ frames := 8, cells := 1, slots := 6, locals := 130 }) (cW D T N0 [.ref (ad 0), .int x1, .int x2, .int x3, .ref o] (fun H => H.size = sz ∧ PLW D T ad zz2 zz2 sr0 zr0 H ∧ pAt D H o (eL (T 6) 1 f))) (va_Qi (fun (r : Int32) (_ : Unit) => r = tw_set x1 x2 x3) (fun _ t => LO D T o (tw_set x1 x2 x3) ((nI 1).toInt64) t.heap) (WA ad o sz)) 1 6 (WA ad o sz) := by
  refine q_ofWH (cc := cL_set) (maxL := 6) (ret := (some .int)) (hh := [(0, 12, 15, 13), (0, 12, 19, 15)]) (by decide) rfl ?_
  intro p e s m args below meth c s₁ B hml hv9
  obtain ⟨⟨rfl, hK, ⟨hsz, hw, ho9⟩, hKX⟩, hNc⟩ := hv9
  have hx := B.exec
  have hb := B.bytes
  have hr := B.returns
  have hts := atoms_spec (ws := wsL_set) B.pre
  have hown : s.vm.findClass RL = some m.cls := findClass_of_methodNamed B.named
  have hlocks := B.notSynchronized
  have htab := vx_table (x := yL_set) B (hts _ List.mem_cons_self)
  generalize hAe : WA ad o sz = A
  have hAs : ∀ q : Nat, SA ad s.heap.size q → A q := fun q h9 => by subst hAe; exact h9.elim Or.inl (fun h8 => Or.inr (Or.inr (by omega)))
  have hAn : ∀ q : Nat, s.heap.size ≤ q → A q := fun q h9 => hAs q (Or.inr h9)
  have hAp : ∀ q : Nat, PLA ad q → A q := fun q h9 => hAs q (Or.inl h9)
  have hAo : A o := by subst hAe; exact Or.inr (Or.inl rfl)
  have hno : ¬ s.heap.size ≤ o := by have h8 := ho9.lt; omega
  have hnq : ¬ PLA ad o := fun ⟨i, hi, h8⟩ => hoa i hi h8
  have hnp : ¬ SA ad s.heap.size o := fun h9 => h9.elim hnq hno
  have hS : va_S A s.heap s.heap [] := va_S.rf
  have hl := lv_entry ([.ref (ad 0), .int x1, .int x2, .int x3, .ref o]) (n := 6) (Nat.le_of_ble_eq_true rfl)
  rw [lg_entry_eq]
  generalize (lg_sl ([.ref (ad 0), .int x1, .int x2, .int x3, .ref o]) ++ List.replicate (6 - (lg_sl ([.ref (ad 0), .int x1, .int x2, .int x3, .ref o])).length) Slot.unset).toArray = ls at hl ⊢
  have hl : lv_has ls 6 [(0, .ref (ad 0)), (1, .int x1), (2, .int x2), (3, .int x3), (4, .ref o)] := hl
  by_cases c1 : inM x1 (nI 0) (nI 4) = 0
  · skip
    refine lv_aload hx hb dL_set_0 (lv_at hl 4 rfl) ?_
    refine lv_iconst (v := nI 0) hx hb dL_set_2 (by decide) ?_
    refine lv_aload_n hx hb dL_set_3 rfl (lv_at hl 0 rfl) ?_
    refine lv_iload_n hx hb dL_set_4 rfl (lv_at hl 1 rfl) ?_
    refine lv_iload_n hx hb dL_set_5 rfl (lv_at hl 2 rfl) ?_
    refine lv_iload_n hx hb dL_set_6 rfl (lv_at hl 3 rfl) ?_
    exact vx_callv (vx_runV (As := [.int x1, .int x2, .int x3]) (rest := [.int (nI 0), .ref o]) ⟨hx, hb, hml, hown, hts⟩ (thX3_set_1 l hlt D T s.heap.size ad zz2 zz2 sr0 zr0 x1 x2 x3 (bad1 (by decide) c1)) (cwV 3 hts gL_set_X3_set rfl rfl rfl (by decide +kernel) ⟨Nat.le_of_ble_eq_true rfl, Nat.le_of_ble_eq_true rfl⟩) (preXV hK (hKX.up (by omega)) rfl hw.o rfl hw) rfl rfl hl.1 rfl (lv_room (Nat.le_of_ble_eq_true rfl)) dL_set_7 ⟨Nat.le_of_ble_eq_true rfl, Nat.le_of_ble_eq_true rfl⟩) hS (fun q _ h9 => hAn q h9) (fun q h9 => hAn q h9) (fun q _ h9 => hAn q h9) (fun E ce q9 u t H1 locs1 ht hvm _ hE hz hk hS hce hcv hcl => by
      subst hE
      refine vx_catch (own := RL) (name := IOB) hown [] ⟨0, 12, 15, 13⟩ [⟨0, 12, 19, 15⟩] htab (fun z hz => absurd hz List.not_mem_nil) (by decide) (by decide) (hts (.classLink RL 13 IOB) (by decide +kernel)) (va_Nw.use rfl hKX.1.2.1.2) hce hcv hcl ?_
      refine lv_astore (lv' := [(5, .ref q9), (0, .ref (ad 0)), (1, .int x1), (2, .int x2), (3, .int x3), (4, .ref o)]) hx hb dL_set_15 hl (by decide) rfl (fun ls hl => ?_)
      refine lv_iconst (v := nI 1) hx hb dL_set_17 (by decide) ?_
      refine W.widen (k := 1) (n := 6) (by first | omega | decide) (by first | omega | decide) ?_
      have ho9 := ho9.kept (hk _ ho9.lt (fun h9 => hno h9))
      have ht9 : tw_set x1 x2 x3 = nI 1 := by unfold tw_set; rw [if_pos c1]
      exact W.iret (v := nI 1) hx hb hr (fun t ht _ => ⟨⟨nI 1, (), rfl, ht9.symm, by dsimp only; rw [ht]; exact ⟨f, ho9, fun h9 => absurd (ht9.symm.trans h9) (by decide)⟩⟩, by subst hAe; exact hS.F ht⟩) (by subst hAe; exact hS.2.2) dL_set_18
      ) (fun u t H1 locs1 ht hvm hf => hf.elim)
  obtain ⟨k1, hk1, rfl⟩ := inM_ok (n := 4) (by decide) c1
  by_cases c2 : inM x2 (nI 0) (nI 7) = 0
  · skip
    refine lv_aload hx hb dL_set_0 (lv_at hl 4 rfl) ?_
    refine lv_iconst (v := nI 0) hx hb dL_set_2 (by decide) ?_
    refine lv_aload_n hx hb dL_set_3 rfl (lv_at hl 0 rfl) ?_
    refine lv_iload_n hx hb dL_set_4 rfl (lv_at hl 1 rfl) ?_
    refine lv_iload_n hx hb dL_set_5 rfl (lv_at hl 2 rfl) ?_
    refine lv_iload_n hx hb dL_set_6 rfl (lv_at hl 3 rfl) ?_
    exact vx_callv (vx_runV (As := [.int (nI k1), .int x2, .int x3]) (rest := [.int (nI 0), .ref o]) ⟨hx, hb, hml, hown, hts⟩ (thX3_set_2 l hlt D T s.heap.size ad zz2 zz2 sr0 zr0 k1 x2 x3 (by omega) (bad1 (by decide) c2)) (cwV 3 hts gL_set_X3_set rfl rfl rfl (by decide +kernel) ⟨Nat.le_of_ble_eq_true rfl, Nat.le_of_ble_eq_true rfl⟩) (preXV hK (hKX.up (by omega)) rfl hw.o rfl hw) rfl rfl hl.1 rfl (lv_room (Nat.le_of_ble_eq_true rfl)) dL_set_7 ⟨Nat.le_of_ble_eq_true rfl, Nat.le_of_ble_eq_true rfl⟩) hS (fun q _ h9 => hAn q h9) (fun q h9 => hAn q h9) (fun q _ h9 => hAn q h9) (fun E ce q9 u t H1 locs1 ht hvm _ hE hz hk hS hce hcv hcl => by
      subst hE
      refine vx_catch (own := RL) (name := IOB) hown [] ⟨0, 12, 15, 13⟩ [⟨0, 12, 19, 15⟩] htab (fun z hz => absurd hz List.not_mem_nil) (by decide) (by decide) (hts (.classLink RL 13 IOB) (by decide +kernel)) (va_Nw.use rfl hKX.1.2.1.2) hce hcv hcl ?_
      refine lv_astore (lv' := [(5, .ref q9), (0, .ref (ad 0)), (1, .int (nI k1)), (2, .int x2), (3, .int x3), (4, .ref o)]) hx hb dL_set_15 hl (by decide) rfl (fun ls hl => ?_)
      refine lv_iconst (v := nI 1) hx hb dL_set_17 (by decide) ?_
      refine W.widen (k := 1) (n := 6) (by first | omega | decide) (by first | omega | decide) ?_
      have ho9 := ho9.kept (hk _ ho9.lt (fun h9 => hno h9))
      have ht9 : tw_set (nI k1) x2 x3 = nI 1 := by unfold tw_set; rw [if_neg c1, if_pos c2]
      exact W.iret (v := nI 1) hx hb hr (fun t ht _ => ⟨⟨nI 1, (), rfl, ht9.symm, by dsimp only; rw [ht]; exact ⟨f, ho9, fun h9 => absurd (ht9.symm.trans h9) (by decide)⟩⟩, by subst hAe; exact hS.F ht⟩) (by subst hAe; exact hS.2.2) dL_set_18
      ) (fun u t H1 locs1 ht hvm hf => hf.elim)
  obtain ⟨k2, hk2, rfl⟩ := inM_ok (n := 7) (by decide) c2
  by_cases c3 : inM x3 (-10000) (nI 10000) = 0
  · skip
    refine lv_aload hx hb dL_set_0 (lv_at hl 4 rfl) ?_
    refine lv_iconst (v := nI 0) hx hb dL_set_2 (by decide) ?_
    refine lv_aload_n hx hb dL_set_3 rfl (lv_at hl 0 rfl) ?_
    refine lv_iload_n hx hb dL_set_4 rfl (lv_at hl 1 rfl) ?_
    refine lv_iload_n hx hb dL_set_5 rfl (lv_at hl 2 rfl) ?_
    refine lv_iload_n hx hb dL_set_6 rfl (lv_at hl 3 rfl) ?_
    exact vx_callv (vx_runV (As := [.int (nI k1), .int (nI k2), .int x3]) (rest := [.int (nI 0), .ref o]) ⟨hx, hb, hml, hown, hts⟩ (thX3_set_3 l hlt D T s.heap.size ad zz2 zz2 sr0 zr0 k1 k2 x3 (by omega) (by omega) (bad3 c3)) (cwV 3 hts gL_set_X3_set rfl rfl rfl (by decide +kernel) ⟨Nat.le_of_ble_eq_true rfl, Nat.le_of_ble_eq_true rfl⟩) (preXV hK (hKX.up (by omega)) rfl hw.o rfl hw) rfl rfl hl.1 rfl (lv_room (Nat.le_of_ble_eq_true rfl)) dL_set_7 ⟨Nat.le_of_ble_eq_true rfl, Nat.le_of_ble_eq_true rfl⟩) hS (fun q _ h9 => hAn q h9) (fun q h9 => hAn q h9) (fun q _ h9 => hAn q h9) (fun E ce q9 u t H1 locs1 ht hvm _ hE hz hk hS hce hcv hcl => by
      subst hE
      refine vx_catch (own := RL) (name := IAE) hown [⟨0, 12, 15, 13⟩] ⟨0, 12, 19, 15⟩ [] htab (fun z hz => by rcases List.mem_cons.mp hz with h8 | h8; rw [h8]; exact Or.inr ⟨by decide, IOB, hts (.classLink RL 13 IOB) (by decide +kernel), hNc⟩; exact absurd h8 List.not_mem_nil) (by decide) (by decide) (hts (.classLink RL 15 IAE) (by decide +kernel)) (va_Nw.use rfl hKX.1.2.1.1) hce hcv hcl ?_
      refine lv_astore (lv' := [(5, .ref q9), (0, .ref (ad 0)), (1, .int (nI k1)), (2, .int (nI k2)), (3, .int x3), (4, .ref o)]) hx hb dL_set_19 hl (by decide) rfl (fun ls hl => ?_)
      refine lv_iconst (v := nI 2) hx hb dL_set_21 (by decide) ?_
      refine W.widen (k := 1) (n := 6) (by first | omega | decide) (by first | omega | decide) ?_
      have ho9 := ho9.kept (hk _ ho9.lt (fun h9 => hno h9))
      have ht9 : tw_set (nI k1) (nI k2) x3 = nI 2 := by unfold tw_set; rw [if_neg c1, if_neg c2, if_pos c3]
      exact W.iret (v := nI 2) hx hb hr (fun t ht _ => ⟨⟨nI 2, (), rfl, ht9.symm, by dsimp only; rw [ht]; exact ⟨f, ho9, fun h9 => absurd (ht9.symm.trans h9) (by decide)⟩⟩, by subst hAe; exact hS.F ht⟩) (by subst hAe; exact hS.2.2) dL_set_22
      ) (fun u t H1 locs1 ht hvm hf => hf.elim)
  refine lv_aload hx hb dL_set_0 (lv_at hl 4 rfl) ?_
  refine lv_iconst (v := nI 0) hx hb dL_set_2 (by decide) ?_
  refine lv_aload_n hx hb dL_set_3 rfl (lv_at hl 0 rfl) ?_
  refine lv_iload_n hx hb dL_set_4 rfl (lv_at hl 1 rfl) ?_
  refine lv_iload_n hx hb dL_set_5 rfl (lv_at hl 2 rfl) ?_
  refine lv_iload_n hx hb dL_set_6 rfl (lv_at hl 3 rfl) ?_
  refine va_calli (va_runV (As := [.int (nI k1), .int (nI k2), .int x3]) (rest := [.int (nI 0), .ref o]) ⟨hx, hb, hml, hown, hts⟩ (conX3_set l D T ad zz2 zz2 sr0 zr0 k1 (by omega) k2 x3 (by omega) (inM_in c3).1 (inM_in c3).2) (cwV 3 hts gL_set_X3_set rfl rfl rfl (by decide +kernel) ⟨Nat.le_of_ble_eq_true rfl, Nat.le_of_ble_eq_true rfl⟩) (preV hK hw.o rfl hw) rfl rfl hl.1 rfl (lv_room (Nat.le_of_ble_eq_true rfl)) dL_set_7 ⟨Nat.le_of_ble_eq_true rfl, Nat.le_of_ble_eq_true rfl⟩) hS (fun q _ h9 => hAp q h9) (fun q h9 => hAp q h9) (fun r u t H1 locs1 ht hvm hr9 hB hz1 hk1 hS => ?_)
  replace ho9 := ho9.kept (hk1 _ ho9.lt hnq)
  have hq9 : r = nI 1 := hr9.trans (v_set x3)
  subst hq9
  refine lv_i2l (v := (nI 1).toInt64) hx hb dL_set_10 rfl ?_
  refine q_last hx hb hK ho9 0 rfl (by decide) (by decide) hS hAo dL_set_11 (fun H1 locs1 ho9 hz oq hS => ?_)
  refine lv_goto (tgt := 23) hx hb dL_set_12 (by decide) ?_
  refine lv_iconst (v := nI 0) hx hb dL_set_23 (by decide) ?_
  refine W.widen (k := 1) (n := 6) (by first | omega | decide) (by first | omega | decide) ?_
  have ht9 : tw_set (nI k1) (nI k2) x3 = nI 0 := by unfold tw_set; rw [if_neg c1, if_neg c2, if_neg c3]
  exact W.iret (v := nI 0) hx hb hr (fun t ht _ => ⟨⟨nI 0, (), rfl, ht9.symm, by dsimp only; rw [ht]; exact ⟨_, ho9, fun _ => by dsimp only [vp_updL, vf_upd]; rfl⟩⟩, by subst hAe; exact hS.F ht⟩) (by subst hAe; exact hS.2.2) dL_set_24

set_option maxHeartbeats 4000000 in
set_option maxRecDepth 100000 in
theorem wr_mix (l : Launch) (hlt : l.stackTraces = false) (D : va_G) (T : Nat → ClassId) (N0 sz o : Nat) (ad : Nat → Nat) (f : Nat → Int64) (x1 x2 x3 x4 : Int32) (hN : ∀ i : Nat, i < 37 → N0 ≤ ad i) (hNs : N0 ≤ sz) (hoa : ∀ i : Nat, i < 37 → o ≠ ad i) : Met l yL_mix wsL_mix ({ frames := 8, cells := 1, slots := 6, locals := 132 }) (cW D T N0 [.ref (ad 0), .int x1, .int x2, .int x3, .int x4, .ref o] (fun H => H.size = sz ∧ PLW D T ad zz2 zz2 sr0 zr0 H ∧ pAt D H o (eL (T 6) 1 f))) (va_Qi (fun (r : Int32) (_ : Unit) => r = tw_mix x1 x2 x3 x4) (fun _ t => LO D T o (tw_mix x1 x2 x3 x4) ((nI 1).toInt64) t.heap) (WA ad o sz)) 1 6 (WA ad o sz) := by
  refine q_ofWH (cc := cL_mix) (maxL := 7) (ret := (some .int)) (hh := [(0, 14, 17, 13), (0, 14, 21, 15)]) (by decide) rfl ?_
  intro p e s m args below meth c s₁ B hml hv9
  obtain ⟨⟨rfl, hK, ⟨hsz, hw, ho9⟩, hKX⟩, hNc⟩ := hv9
  have hx := B.exec
  have hb := B.bytes
  have hr := B.returns
  have hts := atoms_spec (ws := wsL_mix) B.pre
  have hown : s.vm.findClass RL = some m.cls := findClass_of_methodNamed B.named
  have hlocks := B.notSynchronized
  have htab := vx_table (x := yL_mix) B (hts _ List.mem_cons_self)
  generalize hAe : WA ad o sz = A
  have hAs : ∀ q : Nat, SA ad s.heap.size q → A q := fun q h9 => by subst hAe; exact h9.elim Or.inl (fun h8 => Or.inr (Or.inr (by omega)))
  have hAn : ∀ q : Nat, s.heap.size ≤ q → A q := fun q h9 => hAs q (Or.inr h9)
  have hAp : ∀ q : Nat, PLA ad q → A q := fun q h9 => hAs q (Or.inl h9)
  have hAo : A o := by subst hAe; exact Or.inr (Or.inl rfl)
  have hno : ¬ s.heap.size ≤ o := by have h8 := ho9.lt; omega
  have hnq : ¬ PLA ad o := fun ⟨i, hi, h8⟩ => hoa i hi h8
  have hnp : ¬ SA ad s.heap.size o := fun h9 => h9.elim hnq hno
  have hS : va_S A s.heap s.heap [] := va_S.rf
  have hl := lv_entry ([.ref (ad 0), .int x1, .int x2, .int x3, .int x4, .ref o]) (n := 7) (Nat.le_of_ble_eq_true rfl)
  rw [lg_entry_eq]
  generalize (lg_sl ([.ref (ad 0), .int x1, .int x2, .int x3, .int x4, .ref o]) ++ List.replicate (7 - (lg_sl ([.ref (ad 0), .int x1, .int x2, .int x3, .int x4, .ref o])).length) Slot.unset).toArray = ls at hl ⊢
  have hl : lv_has ls 7 [(0, .ref (ad 0)), (1, .int x1), (2, .int x2), (3, .int x3), (4, .int x4), (5, .ref o)] := hl
  by_cases c1 : inM x1 (nI 0) (nI 4) = 0
  · skip
    refine lv_aload hx hb dL_mix_0 (lv_at hl 5 rfl) ?_
    refine lv_iconst (v := nI 0) hx hb dL_mix_2 (by decide) ?_
    refine lv_aload_n hx hb dL_mix_3 rfl (lv_at hl 0 rfl) ?_
    refine lv_iload_n hx hb dL_mix_4 rfl (lv_at hl 1 rfl) ?_
    refine lv_iload_n hx hb dL_mix_5 rfl (lv_at hl 2 rfl) ?_
    refine lv_iload_n hx hb dL_mix_6 rfl (lv_at hl 3 rfl) ?_
    refine lv_iload hx hb dL_mix_7 (lv_at hl 4 rfl) ?_
    exact vx_callv (vx_runV (As := [.int x1, .int x2, .int x3, .int x4]) (rest := [.int (nI 0), .ref o]) ⟨hx, hb, hml, hown, hts⟩ (thX3_mix_1 l hlt D T s.heap.size ad zz2 zz2 sr0 zr0 x1 x2 x3 x4 (bad1 (by decide) c1)) (cwV 4 hts gL_mix_X3_mix rfl rfl rfl (by decide +kernel) ⟨Nat.le_of_ble_eq_true rfl, Nat.le_of_ble_eq_true rfl⟩) (preXV hK (hKX.up (by omega)) rfl hw.o rfl hw) rfl rfl hl.1 rfl (lv_room (Nat.le_of_ble_eq_true rfl)) dL_mix_9 ⟨Nat.le_of_ble_eq_true rfl, Nat.le_of_ble_eq_true rfl⟩) hS (fun q _ h9 => hAn q h9) (fun q h9 => hAn q h9) (fun q _ h9 => hAn q h9) (fun E ce q9 u t H1 locs1 ht hvm _ hE hz hk hS hce hcv hcl => by
      subst hE
      refine vx_catch (own := RL) (name := IOB) hown [] ⟨0, 14, 17, 13⟩ [⟨0, 14, 21, 15⟩] htab (fun z hz => absurd hz List.not_mem_nil) (by decide) (by decide) (hts (.classLink RL 13 IOB) (by decide +kernel)) (va_Nw.use rfl hKX.1.2.1.2) hce hcv hcl ?_
      refine lv_astore (lv' := [(6, .ref q9), (0, .ref (ad 0)), (1, .int x1), (2, .int x2), (3, .int x3), (4, .int x4), (5, .ref o)]) hx hb dL_mix_17 hl (by decide) rfl (fun ls hl => ?_)
      refine lv_iconst (v := nI 1) hx hb dL_mix_19 (by decide) ?_
      refine W.widen (k := 1) (n := 6) (by first | omega | decide) (by first | omega | decide) ?_
      have ho9 := ho9.kept (hk _ ho9.lt (fun h9 => hno h9))
      have ht9 : tw_mix x1 x2 x3 x4 = nI 1 := by unfold tw_mix; rw [if_pos c1]
      exact W.iret (v := nI 1) hx hb hr (fun t ht _ => ⟨⟨nI 1, (), rfl, ht9.symm, by dsimp only; rw [ht]; exact ⟨f, ho9, fun h9 => absurd (ht9.symm.trans h9) (by decide)⟩⟩, by subst hAe; exact hS.F ht⟩) (by subst hAe; exact hS.2.2) dL_mix_20
      ) (fun u t H1 locs1 ht hvm hf => hf.elim)
  obtain ⟨k1, hk1, rfl⟩ := inM_ok (n := 4) (by decide) c1
  by_cases c2 : inM x2 (nI 0) (nI 4) = 0
  · skip
    refine lv_aload hx hb dL_mix_0 (lv_at hl 5 rfl) ?_
    refine lv_iconst (v := nI 0) hx hb dL_mix_2 (by decide) ?_
    refine lv_aload_n hx hb dL_mix_3 rfl (lv_at hl 0 rfl) ?_
    refine lv_iload_n hx hb dL_mix_4 rfl (lv_at hl 1 rfl) ?_
    refine lv_iload_n hx hb dL_mix_5 rfl (lv_at hl 2 rfl) ?_
    refine lv_iload_n hx hb dL_mix_6 rfl (lv_at hl 3 rfl) ?_
    refine lv_iload hx hb dL_mix_7 (lv_at hl 4 rfl) ?_
    exact vx_callv (vx_runV (As := [.int (nI k1), .int x2, .int x3, .int x4]) (rest := [.int (nI 0), .ref o]) ⟨hx, hb, hml, hown, hts⟩ (thX3_mix_2 l hlt D T s.heap.size ad zz2 zz2 sr0 zr0 k1 x2 x3 x4 (by omega) (bad1 (by decide) c2)) (cwV 4 hts gL_mix_X3_mix rfl rfl rfl (by decide +kernel) ⟨Nat.le_of_ble_eq_true rfl, Nat.le_of_ble_eq_true rfl⟩) (preXV hK (hKX.up (by omega)) rfl hw.o rfl hw) rfl rfl hl.1 rfl (lv_room (Nat.le_of_ble_eq_true rfl)) dL_mix_9 ⟨Nat.le_of_ble_eq_true rfl, Nat.le_of_ble_eq_true rfl⟩) hS (fun q _ h9 => hAn q h9) (fun q h9 => hAn q h9) (fun q _ h9 => hAn q h9) (fun E ce q9 u t H1 locs1 ht hvm _ hE hz hk hS hce hcv hcl => by
      subst hE
      refine vx_catch (own := RL) (name := IOB) hown [] ⟨0, 14, 17, 13⟩ [⟨0, 14, 21, 15⟩] htab (fun z hz => absurd hz List.not_mem_nil) (by decide) (by decide) (hts (.classLink RL 13 IOB) (by decide +kernel)) (va_Nw.use rfl hKX.1.2.1.2) hce hcv hcl ?_
      refine lv_astore (lv' := [(6, .ref q9), (0, .ref (ad 0)), (1, .int (nI k1)), (2, .int x2), (3, .int x3), (4, .int x4), (5, .ref o)]) hx hb dL_mix_17 hl (by decide) rfl (fun ls hl => ?_)
      refine lv_iconst (v := nI 1) hx hb dL_mix_19 (by decide) ?_
      refine W.widen (k := 1) (n := 6) (by first | omega | decide) (by first | omega | decide) ?_
      have ho9 := ho9.kept (hk _ ho9.lt (fun h9 => hno h9))
      have ht9 : tw_mix (nI k1) x2 x3 x4 = nI 1 := by unfold tw_mix; rw [if_neg c1, if_pos c2]
      exact W.iret (v := nI 1) hx hb hr (fun t ht _ => ⟨⟨nI 1, (), rfl, ht9.symm, by dsimp only; rw [ht]; exact ⟨f, ho9, fun h9 => absurd (ht9.symm.trans h9) (by decide)⟩⟩, by subst hAe; exact hS.F ht⟩) (by subst hAe; exact hS.2.2) dL_mix_20
      ) (fun u t H1 locs1 ht hvm hf => hf.elim)
  obtain ⟨k2, hk2, rfl⟩ := inM_ok (n := 4) (by decide) c2
  by_cases c3 : inM x3 (nI 0) (nI 4) = 0
  · skip
    refine lv_aload hx hb dL_mix_0 (lv_at hl 5 rfl) ?_
    refine lv_iconst (v := nI 0) hx hb dL_mix_2 (by decide) ?_
    refine lv_aload_n hx hb dL_mix_3 rfl (lv_at hl 0 rfl) ?_
    refine lv_iload_n hx hb dL_mix_4 rfl (lv_at hl 1 rfl) ?_
    refine lv_iload_n hx hb dL_mix_5 rfl (lv_at hl 2 rfl) ?_
    refine lv_iload_n hx hb dL_mix_6 rfl (lv_at hl 3 rfl) ?_
    refine lv_iload hx hb dL_mix_7 (lv_at hl 4 rfl) ?_
    exact vx_callv (vx_runV (As := [.int (nI k1), .int (nI k2), .int x3, .int x4]) (rest := [.int (nI 0), .ref o]) ⟨hx, hb, hml, hown, hts⟩ (thX3_mix_3 l hlt D T s.heap.size ad zz2 zz2 sr0 zr0 k1 k2 x3 x4 (by omega) (by omega) (bad1 (by decide) c3)) (cwV 4 hts gL_mix_X3_mix rfl rfl rfl (by decide +kernel) ⟨Nat.le_of_ble_eq_true rfl, Nat.le_of_ble_eq_true rfl⟩) (preXV hK (hKX.up (by omega)) rfl hw.o rfl hw) rfl rfl hl.1 rfl (lv_room (Nat.le_of_ble_eq_true rfl)) dL_mix_9 ⟨Nat.le_of_ble_eq_true rfl, Nat.le_of_ble_eq_true rfl⟩) hS (fun q _ h9 => hAn q h9) (fun q h9 => hAn q h9) (fun q _ h9 => hAn q h9) (fun E ce q9 u t H1 locs1 ht hvm _ hE hz hk hS hce hcv hcl => by
      subst hE
      refine vx_catch (own := RL) (name := IOB) hown [] ⟨0, 14, 17, 13⟩ [⟨0, 14, 21, 15⟩] htab (fun z hz => absurd hz List.not_mem_nil) (by decide) (by decide) (hts (.classLink RL 13 IOB) (by decide +kernel)) (va_Nw.use rfl hKX.1.2.1.2) hce hcv hcl ?_
      refine lv_astore (lv' := [(6, .ref q9), (0, .ref (ad 0)), (1, .int (nI k1)), (2, .int (nI k2)), (3, .int x3), (4, .int x4), (5, .ref o)]) hx hb dL_mix_17 hl (by decide) rfl (fun ls hl => ?_)
      refine lv_iconst (v := nI 1) hx hb dL_mix_19 (by decide) ?_
      refine W.widen (k := 1) (n := 6) (by first | omega | decide) (by first | omega | decide) ?_
      have ho9 := ho9.kept (hk _ ho9.lt (fun h9 => hno h9))
      have ht9 : tw_mix (nI k1) (nI k2) x3 x4 = nI 1 := by unfold tw_mix; rw [if_neg c1, if_neg c2, if_pos c3]
      exact W.iret (v := nI 1) hx hb hr (fun t ht _ => ⟨⟨nI 1, (), rfl, ht9.symm, by dsimp only; rw [ht]; exact ⟨f, ho9, fun h9 => absurd (ht9.symm.trans h9) (by decide)⟩⟩, by subst hAe; exact hS.F ht⟩) (by subst hAe; exact hS.2.2) dL_mix_20
      ) (fun u t H1 locs1 ht hvm hf => hf.elim)
  obtain ⟨k3, hk3, rfl⟩ := inM_ok (n := 4) (by decide) c3
  by_cases c4 : inM x4 (nI 0) (nI 4) = 0
  · skip
    refine lv_aload hx hb dL_mix_0 (lv_at hl 5 rfl) ?_
    refine lv_iconst (v := nI 0) hx hb dL_mix_2 (by decide) ?_
    refine lv_aload_n hx hb dL_mix_3 rfl (lv_at hl 0 rfl) ?_
    refine lv_iload_n hx hb dL_mix_4 rfl (lv_at hl 1 rfl) ?_
    refine lv_iload_n hx hb dL_mix_5 rfl (lv_at hl 2 rfl) ?_
    refine lv_iload_n hx hb dL_mix_6 rfl (lv_at hl 3 rfl) ?_
    refine lv_iload hx hb dL_mix_7 (lv_at hl 4 rfl) ?_
    exact vx_callv (vx_runV (As := [.int (nI k1), .int (nI k2), .int (nI k3), .int x4]) (rest := [.int (nI 0), .ref o]) ⟨hx, hb, hml, hown, hts⟩ (thX3_mix_4 l hlt D T s.heap.size ad zz2 zz2 sr0 zr0 k1 k2 k3 x4 (by omega) (by omega) (by omega) (bad3 c4)) (cwV 4 hts gL_mix_X3_mix rfl rfl rfl (by decide +kernel) ⟨Nat.le_of_ble_eq_true rfl, Nat.le_of_ble_eq_true rfl⟩) (preXV hK (hKX.up (by omega)) rfl hw.o rfl hw) rfl rfl hl.1 rfl (lv_room (Nat.le_of_ble_eq_true rfl)) dL_mix_9 ⟨Nat.le_of_ble_eq_true rfl, Nat.le_of_ble_eq_true rfl⟩) hS (fun q _ h9 => hAn q h9) (fun q h9 => hAn q h9) (fun q _ h9 => hAn q h9) (fun E ce q9 u t H1 locs1 ht hvm _ hE hz hk hS hce hcv hcl => by
      subst hE
      refine vx_catch (own := RL) (name := IAE) hown [⟨0, 14, 17, 13⟩] ⟨0, 14, 21, 15⟩ [] htab (fun z hz => by rcases List.mem_cons.mp hz with h8 | h8; rw [h8]; exact Or.inr ⟨by decide, IOB, hts (.classLink RL 13 IOB) (by decide +kernel), hNc⟩; exact absurd h8 List.not_mem_nil) (by decide) (by decide) (hts (.classLink RL 15 IAE) (by decide +kernel)) (va_Nw.use rfl hKX.1.2.1.1) hce hcv hcl ?_
      refine lv_astore (lv' := [(6, .ref q9), (0, .ref (ad 0)), (1, .int (nI k1)), (2, .int (nI k2)), (3, .int (nI k3)), (4, .int x4), (5, .ref o)]) hx hb dL_mix_21 hl (by decide) rfl (fun ls hl => ?_)
      refine lv_iconst (v := nI 2) hx hb dL_mix_23 (by decide) ?_
      refine W.widen (k := 1) (n := 6) (by first | omega | decide) (by first | omega | decide) ?_
      have ho9 := ho9.kept (hk _ ho9.lt (fun h9 => hno h9))
      have ht9 : tw_mix (nI k1) (nI k2) (nI k3) x4 = nI 2 := by unfold tw_mix; rw [if_neg c1, if_neg c2, if_neg c3, if_pos c4]
      exact W.iret (v := nI 2) hx hb hr (fun t ht _ => ⟨⟨nI 2, (), rfl, ht9.symm, by dsimp only; rw [ht]; exact ⟨f, ho9, fun h9 => absurd (ht9.symm.trans h9) (by decide)⟩⟩, by subst hAe; exact hS.F ht⟩) (by subst hAe; exact hS.2.2) dL_mix_24
      ) (fun u t H1 locs1 ht hvm hf => hf.elim)
  obtain ⟨k4, hk4, rfl⟩ := inM_ok (n := 4) (by decide) c4
  refine lv_aload hx hb dL_mix_0 (lv_at hl 5 rfl) ?_
  refine lv_iconst (v := nI 0) hx hb dL_mix_2 (by decide) ?_
  refine lv_aload_n hx hb dL_mix_3 rfl (lv_at hl 0 rfl) ?_
  refine lv_iload_n hx hb dL_mix_4 rfl (lv_at hl 1 rfl) ?_
  refine lv_iload_n hx hb dL_mix_5 rfl (lv_at hl 2 rfl) ?_
  refine lv_iload_n hx hb dL_mix_6 rfl (lv_at hl 3 rfl) ?_
  refine lv_iload hx hb dL_mix_7 (lv_at hl 4 rfl) ?_
  refine va_calli (va_runV (As := [.int (nI k1), .int (nI k2), .int (nI k3), .int (nI k4)]) (rest := [.int (nI 0), .ref o]) ⟨hx, hb, hml, hown, hts⟩ (conX3_mix l D T ad zz2 zz2 sr0 zr0 k1 k2 k3 k4 (by omega) (by omega) (by omega) (by omega)) (cwV 4 hts gL_mix_X3_mix rfl rfl rfl (by decide +kernel) ⟨Nat.le_of_ble_eq_true rfl, Nat.le_of_ble_eq_true rfl⟩) (preV hK hw.o rfl hw) rfl rfl hl.1 rfl (lv_room (Nat.le_of_ble_eq_true rfl)) dL_mix_9 ⟨Nat.le_of_ble_eq_true rfl, Nat.le_of_ble_eq_true rfl⟩) hS (fun q _ h9 => hAp q h9) (fun q h9 => hAp q h9) (fun r u t H1 locs1 ht hvm hr9 hB hz1 hk1 hS => ?_)
  replace ho9 := ho9.kept (hk1 _ ho9.lt hnq)
  have hq9 : r = nI 1 := hr9.trans (v_mix k1 k2 k3 k4)
  subst hq9
  refine lv_i2l (v := (nI 1).toInt64) hx hb dL_mix_12 rfl ?_
  refine q_last hx hb hK ho9 0 rfl (by decide) (by decide) hS hAo dL_mix_13 (fun H1 locs1 ho9 hz oq hS => ?_)
  refine lv_goto (tgt := 25) hx hb dL_mix_14 (by decide) ?_
  refine lv_iconst (v := nI 0) hx hb dL_mix_25 (by decide) ?_
  refine W.widen (k := 1) (n := 6) (by first | omega | decide) (by first | omega | decide) ?_
  have ht9 : tw_mix (nI k1) (nI k2) (nI k3) (nI k4) = nI 0 := by unfold tw_mix; rw [if_neg c1, if_neg c2, if_neg c3, if_neg c4]
  exact W.iret (v := nI 0) hx hb hr (fun t ht _ => ⟨⟨nI 0, (), rfl, ht9.symm, by dsimp only; rw [ht]; exact ⟨_, ho9, fun _ => by dsimp only [vp_updL, vf_upd]; rfl⟩⟩, by subst hAe; exact hS.F ht⟩) (by subst hAe; exact hS.2.2) dL_mix_26

set_option maxHeartbeats 4000000 in
set_option maxRecDepth 100000 in
theorem wr_turn (l : Launch) (hlt : l.stackTraces = false) (D : va_G) (T : Nat → ClassId) (N0 sz o : Nat) (ad : Nat → Nat) (f : Nat → Int64) (x1 x2 x3 : Int32) (hN : ∀ i : Nat, i < 37 → N0 ≤ ad i) (hNs : N0 ≤ sz) (hoa : ∀ i : Nat, i < 37 → o ≠ ad i) : Met l yL_turn wsL_turn ({ frames := 8, cells := 1, slots := 6, locals := 128 }) (cW D T N0 [.ref (ad 0), .int x1, .int x2, .int x3, .ref o] (fun H => H.size = sz ∧ PLW D T ad zz2 zz2 sr0 zr0 H ∧ pAt D H o (eL (T 6) 1 f))) (va_Qi (fun (r : Int32) (_ : Unit) => r = tw_turn x1 x2 x3) (fun _ t => LO D T o (tw_turn x1 x2 x3) ((nI 1).toInt64) t.heap) (WA ad o sz)) 1 6 (WA ad o sz) := by
  refine q_ofWH (cc := cL_turn) (maxL := 6) (ret := (some .int)) (hh := [(0, 12, 15, 13), (0, 12, 19, 15)]) (by decide) rfl ?_
  intro p e s m args below meth c s₁ B hml hv9
  obtain ⟨⟨rfl, hK, ⟨hsz, hw, ho9⟩, hKX⟩, hNc⟩ := hv9
  have hx := B.exec
  have hb := B.bytes
  have hr := B.returns
  have hts := atoms_spec (ws := wsL_turn) B.pre
  have hown : s.vm.findClass RL = some m.cls := findClass_of_methodNamed B.named
  have hlocks := B.notSynchronized
  have htab := vx_table (x := yL_turn) B (hts _ List.mem_cons_self)
  generalize hAe : WA ad o sz = A
  have hAs : ∀ q : Nat, SA ad s.heap.size q → A q := fun q h9 => by subst hAe; exact h9.elim Or.inl (fun h8 => Or.inr (Or.inr (by omega)))
  have hAn : ∀ q : Nat, s.heap.size ≤ q → A q := fun q h9 => hAs q (Or.inr h9)
  have hAp : ∀ q : Nat, PLA ad q → A q := fun q h9 => hAs q (Or.inl h9)
  have hAo : A o := by subst hAe; exact Or.inr (Or.inl rfl)
  have hno : ¬ s.heap.size ≤ o := by have h8 := ho9.lt; omega
  have hnq : ¬ PLA ad o := fun ⟨i, hi, h8⟩ => hoa i hi h8
  have hnp : ¬ SA ad s.heap.size o := fun h9 => h9.elim hnq hno
  have hS : va_S A s.heap s.heap [] := va_S.rf
  have hl := lv_entry ([.ref (ad 0), .int x1, .int x2, .int x3, .ref o]) (n := 6) (Nat.le_of_ble_eq_true rfl)
  rw [lg_entry_eq]
  generalize (lg_sl ([.ref (ad 0), .int x1, .int x2, .int x3, .ref o]) ++ List.replicate (6 - (lg_sl ([.ref (ad 0), .int x1, .int x2, .int x3, .ref o])).length) Slot.unset).toArray = ls at hl ⊢
  have hl : lv_has ls 6 [(0, .ref (ad 0)), (1, .int x1), (2, .int x2), (3, .int x3), (4, .ref o)] := hl
  by_cases c1 : inM x1 (nI 0) (nI 4) = 0
  · skip
    refine lv_aload hx hb dL_turn_0 (lv_at hl 4 rfl) ?_
    refine lv_iconst (v := nI 0) hx hb dL_turn_2 (by decide) ?_
    refine lv_aload_n hx hb dL_turn_3 rfl (lv_at hl 0 rfl) ?_
    refine lv_iload_n hx hb dL_turn_4 rfl (lv_at hl 1 rfl) ?_
    refine lv_iload_n hx hb dL_turn_5 rfl (lv_at hl 2 rfl) ?_
    refine lv_iload_n hx hb dL_turn_6 rfl (lv_at hl 3 rfl) ?_
    exact vx_callv (vx_runV (As := [.int x1, .int x2, .int x3]) (rest := [.int (nI 0), .ref o]) ⟨hx, hb, hml, hown, hts⟩ (thX3_turn_1 l hlt D T s.heap.size ad zz2 zz2 sr0 zr0 x1 x2 x3 (bad1 (by decide) c1)) (cwV 3 hts gL_turn_X3_turn rfl rfl rfl (by decide +kernel) ⟨Nat.le_of_ble_eq_true rfl, Nat.le_of_ble_eq_true rfl⟩) (preXV hK (hKX.up (by omega)) rfl hw.o rfl hw) rfl rfl hl.1 rfl (lv_room (Nat.le_of_ble_eq_true rfl)) dL_turn_7 ⟨Nat.le_of_ble_eq_true rfl, Nat.le_of_ble_eq_true rfl⟩) hS (fun q _ h9 => hAn q h9) (fun q h9 => hAn q h9) (fun q _ h9 => hAn q h9) (fun E ce q9 u t H1 locs1 ht hvm _ hE hz hk hS hce hcv hcl => by
      subst hE
      refine vx_catch (own := RL) (name := IOB) hown [] ⟨0, 12, 15, 13⟩ [⟨0, 12, 19, 15⟩] htab (fun z hz => absurd hz List.not_mem_nil) (by decide) (by decide) (hts (.classLink RL 13 IOB) (by decide +kernel)) (va_Nw.use rfl hKX.1.2.1.2) hce hcv hcl ?_
      refine lv_astore (lv' := [(5, .ref q9), (0, .ref (ad 0)), (1, .int x1), (2, .int x2), (3, .int x3), (4, .ref o)]) hx hb dL_turn_15 hl (by decide) rfl (fun ls hl => ?_)
      refine lv_iconst (v := nI 1) hx hb dL_turn_17 (by decide) ?_
      refine W.widen (k := 1) (n := 6) (by first | omega | decide) (by first | omega | decide) ?_
      have ho9 := ho9.kept (hk _ ho9.lt (fun h9 => hno h9))
      have ht9 : tw_turn x1 x2 x3 = nI 1 := by unfold tw_turn; rw [if_pos c1]
      exact W.iret (v := nI 1) hx hb hr (fun t ht _ => ⟨⟨nI 1, (), rfl, ht9.symm, by dsimp only; rw [ht]; exact ⟨f, ho9, fun h9 => absurd (ht9.symm.trans h9) (by decide)⟩⟩, by subst hAe; exact hS.F ht⟩) (by subst hAe; exact hS.2.2) dL_turn_18
      ) (fun u t H1 locs1 ht hvm hf => hf.elim)
  obtain ⟨k1, hk1, rfl⟩ := inM_ok (n := 4) (by decide) c1
  by_cases c2 : inM x2 (nI 0) (nI 6) = 0
  · skip
    refine lv_aload hx hb dL_turn_0 (lv_at hl 4 rfl) ?_
    refine lv_iconst (v := nI 0) hx hb dL_turn_2 (by decide) ?_
    refine lv_aload_n hx hb dL_turn_3 rfl (lv_at hl 0 rfl) ?_
    refine lv_iload_n hx hb dL_turn_4 rfl (lv_at hl 1 rfl) ?_
    refine lv_iload_n hx hb dL_turn_5 rfl (lv_at hl 2 rfl) ?_
    refine lv_iload_n hx hb dL_turn_6 rfl (lv_at hl 3 rfl) ?_
    exact vx_callv (vx_runV (As := [.int (nI k1), .int x2, .int x3]) (rest := [.int (nI 0), .ref o]) ⟨hx, hb, hml, hown, hts⟩ (thX3_turn_2 l hlt D T s.heap.size ad zz2 zz2 sr0 zr0 k1 x2 x3 (by omega) (bad3 c2)) (cwV 3 hts gL_turn_X3_turn rfl rfl rfl (by decide +kernel) ⟨Nat.le_of_ble_eq_true rfl, Nat.le_of_ble_eq_true rfl⟩) (preXV hK (hKX.up (by omega)) rfl hw.o rfl hw) rfl rfl hl.1 rfl (lv_room (Nat.le_of_ble_eq_true rfl)) dL_turn_7 ⟨Nat.le_of_ble_eq_true rfl, Nat.le_of_ble_eq_true rfl⟩) hS (fun q _ h9 => hAn q h9) (fun q h9 => hAn q h9) (fun q _ h9 => hAn q h9) (fun E ce q9 u t H1 locs1 ht hvm _ hE hz hk hS hce hcv hcl => by
      subst hE
      refine vx_catch (own := RL) (name := IAE) hown [⟨0, 12, 15, 13⟩] ⟨0, 12, 19, 15⟩ [] htab (fun z hz => by rcases List.mem_cons.mp hz with h8 | h8; rw [h8]; exact Or.inr ⟨by decide, IOB, hts (.classLink RL 13 IOB) (by decide +kernel), hNc⟩; exact absurd h8 List.not_mem_nil) (by decide) (by decide) (hts (.classLink RL 15 IAE) (by decide +kernel)) (va_Nw.use rfl hKX.1.2.1.1) hce hcv hcl ?_
      refine lv_astore (lv' := [(5, .ref q9), (0, .ref (ad 0)), (1, .int (nI k1)), (2, .int x2), (3, .int x3), (4, .ref o)]) hx hb dL_turn_19 hl (by decide) rfl (fun ls hl => ?_)
      refine lv_iconst (v := nI 2) hx hb dL_turn_21 (by decide) ?_
      refine W.widen (k := 1) (n := 6) (by first | omega | decide) (by first | omega | decide) ?_
      have ho9 := ho9.kept (hk _ ho9.lt (fun h9 => hno h9))
      have ht9 : tw_turn (nI k1) x2 x3 = nI 2 := by unfold tw_turn; rw [if_neg c1, if_pos c2]
      exact W.iret (v := nI 2) hx hb hr (fun t ht _ => ⟨⟨nI 2, (), rfl, ht9.symm, by dsimp only; rw [ht]; exact ⟨f, ho9, fun h9 => absurd (ht9.symm.trans h9) (by decide)⟩⟩, by subst hAe; exact hS.F ht⟩) (by subst hAe; exact hS.2.2) dL_turn_22
      ) (fun u t H1 locs1 ht hvm hf => hf.elim)
  obtain ⟨k2, hk2, rfl⟩ := inM_ok (n := 6) (by decide) c2
  by_cases h5 : 5 ≤ k2
  · skip
    by_cases c3 : inM x3 (nI 0) (nI 200) = 0
    · skip
      refine lv_aload hx hb dL_turn_0 (lv_at hl 4 rfl) ?_
      refine lv_iconst (v := nI 0) hx hb dL_turn_2 (by decide) ?_
      refine lv_aload_n hx hb dL_turn_3 rfl (lv_at hl 0 rfl) ?_
      refine lv_iload_n hx hb dL_turn_4 rfl (lv_at hl 1 rfl) ?_
      refine lv_iload_n hx hb dL_turn_5 rfl (lv_at hl 2 rfl) ?_
      refine lv_iload_n hx hb dL_turn_6 rfl (lv_at hl 3 rfl) ?_
      exact vx_callv (vx_runV (As := [.int (nI k1), .int (nI k2), .int x3]) (rest := [.int (nI 0), .ref o]) ⟨hx, hb, hml, hown, hts⟩ (thX3_turn_3 l hlt D T s.heap.size ad zz2 zz2 sr0 zr0 k1 k2 x3 (by omega) (by omega) (by omega) (bad2 (by decide) c3)) (cwV 3 hts gL_turn_X3_turn rfl rfl rfl (by decide +kernel) ⟨Nat.le_of_ble_eq_true rfl, Nat.le_of_ble_eq_true rfl⟩) (preXV hK (hKX.up (by omega)) rfl hw.o rfl hw) rfl rfl hl.1 rfl (lv_room (Nat.le_of_ble_eq_true rfl)) dL_turn_7 ⟨Nat.le_of_ble_eq_true rfl, Nat.le_of_ble_eq_true rfl⟩) hS (fun q _ h9 => hAn q h9) (fun q h9 => hAn q h9) (fun q _ h9 => hAn q h9) (fun E ce q9 u t H1 locs1 ht hvm _ hE hz hk hS hce hcv hcl => by
        subst hE
        refine vx_catch (own := RL) (name := IAE) hown [⟨0, 12, 15, 13⟩] ⟨0, 12, 19, 15⟩ [] htab (fun z hz => by rcases List.mem_cons.mp hz with h8 | h8; rw [h8]; exact Or.inr ⟨by decide, IOB, hts (.classLink RL 13 IOB) (by decide +kernel), hNc⟩; exact absurd h8 List.not_mem_nil) (by decide) (by decide) (hts (.classLink RL 15 IAE) (by decide +kernel)) (va_Nw.use rfl hKX.1.2.1.1) hce hcv hcl ?_
        refine lv_astore (lv' := [(5, .ref q9), (0, .ref (ad 0)), (1, .int (nI k1)), (2, .int (nI k2)), (3, .int x3), (4, .ref o)]) hx hb dL_turn_19 hl (by decide) rfl (fun ls hl => ?_)
        refine lv_iconst (v := nI 2) hx hb dL_turn_21 (by decide) ?_
        refine W.widen (k := 1) (n := 6) (by first | omega | decide) (by first | omega | decide) ?_
        have ho9 := ho9.kept (hk _ ho9.lt (fun h9 => hno h9))
        have ht9 : tw_turn (nI k1) (nI k2) x3 = nI 2 := by unfold tw_turn; rw [if_neg c1, if_neg c2, if_pos ⟨(nI_ltI (by decide) (by omega)).mpr (by omega), c3⟩]
        exact W.iret (v := nI 2) hx hb hr (fun t ht _ => ⟨⟨nI 2, (), rfl, ht9.symm, by dsimp only; rw [ht]; exact ⟨f, ho9, fun h9 => absurd (ht9.symm.trans h9) (by decide)⟩⟩, by subst hAe; exact hS.F ht⟩) (by subst hAe; exact hS.2.2) dL_turn_22
        ) (fun u t H1 locs1 ht hvm hf => hf.elim)
    obtain ⟨k3, hk3, rfl⟩ := inM_ok (n := 200) (by decide) c3
    refine lv_aload hx hb dL_turn_0 (lv_at hl 4 rfl) ?_
    refine lv_iconst (v := nI 0) hx hb dL_turn_2 (by decide) ?_
    refine lv_aload_n hx hb dL_turn_3 rfl (lv_at hl 0 rfl) ?_
    refine lv_iload_n hx hb dL_turn_4 rfl (lv_at hl 1 rfl) ?_
    refine lv_iload_n hx hb dL_turn_5 rfl (lv_at hl 2 rfl) ?_
    refine lv_iload_n hx hb dL_turn_6 rfl (lv_at hl 3 rfl) ?_
    refine va_calli (va_runV (As := [.int (nI k1), .int (nI k2), .int (nI k3)]) (rest := [.int (nI 0), .ref o]) ⟨hx, hb, hml, hown, hts⟩ (conX3_turn l D T ad zz2 zz2 sr0 zr0 k1 k2 k3 (nI k3) (by omega) (by omega) (fun _ => ⟨rfl, (by omega)⟩)) (cwV 3 hts gL_turn_X3_turn rfl rfl rfl (by decide +kernel) ⟨Nat.le_of_ble_eq_true rfl, Nat.le_of_ble_eq_true rfl⟩) (preV hK hw.o rfl hw) rfl rfl hl.1 rfl (lv_room (Nat.le_of_ble_eq_true rfl)) dL_turn_7 ⟨Nat.le_of_ble_eq_true rfl, Nat.le_of_ble_eq_true rfl⟩) hS (fun q _ h9 => hAp q h9) (fun q h9 => hAp q h9) (fun r u t H1 locs1 ht hvm hr9 hB hz1 hk1 hS => ?_)
    replace ho9 := ho9.kept (hk1 _ ho9.lt hnq)
    have hq9 : r = nI 1 := hr9.trans (v_turn k1 k2 k3)
    subst hq9
    refine lv_i2l (v := (nI 1).toInt64) hx hb dL_turn_10 rfl ?_
    refine q_last hx hb hK ho9 0 rfl (by decide) (by decide) hS hAo dL_turn_11 (fun H1 locs1 ho9 hz oq hS => ?_)
    refine lv_goto (tgt := 23) hx hb dL_turn_12 (by decide) ?_
    refine lv_iconst (v := nI 0) hx hb dL_turn_23 (by decide) ?_
    refine W.widen (k := 1) (n := 6) (by first | omega | decide) (by first | omega | decide) ?_
    have ht9 : tw_turn (nI k1) (nI k2) (nI k3) = nI 0 := by unfold tw_turn; rw [if_neg c1, if_neg c2, if_neg (fun h9 => c3 h9.2)]
    exact W.iret (v := nI 0) hx hb hr (fun t ht _ => ⟨⟨nI 0, (), rfl, ht9.symm, by dsimp only; rw [ht]; exact ⟨_, ho9, fun _ => by dsimp only [vp_updL, vf_upd]; rfl⟩⟩, by subst hAe; exact hS.F ht⟩) (by subst hAe; exact hS.2.2) dL_turn_24
  · skip
    refine lv_aload hx hb dL_turn_0 (lv_at hl 4 rfl) ?_
    refine lv_iconst (v := nI 0) hx hb dL_turn_2 (by decide) ?_
    refine lv_aload_n hx hb dL_turn_3 rfl (lv_at hl 0 rfl) ?_
    refine lv_iload_n hx hb dL_turn_4 rfl (lv_at hl 1 rfl) ?_
    refine lv_iload_n hx hb dL_turn_5 rfl (lv_at hl 2 rfl) ?_
    refine lv_iload_n hx hb dL_turn_6 rfl (lv_at hl 3 rfl) ?_
    refine va_calli (va_runV (As := [.int (nI k1), .int (nI k2), .int x3]) (rest := [.int (nI 0), .ref o]) ⟨hx, hb, hml, hown, hts⟩ (conX3_turn l D T ad zz2 zz2 sr0 zr0 k1 k2 0 x3 (by omega) (by omega) (fun h9 => absurd h9 h5)) (cwV 3 hts gL_turn_X3_turn rfl rfl rfl (by decide +kernel) ⟨Nat.le_of_ble_eq_true rfl, Nat.le_of_ble_eq_true rfl⟩) (preV hK hw.o rfl hw) rfl rfl hl.1 rfl (lv_room (Nat.le_of_ble_eq_true rfl)) dL_turn_7 ⟨Nat.le_of_ble_eq_true rfl, Nat.le_of_ble_eq_true rfl⟩) hS (fun q _ h9 => hAp q h9) (fun q h9 => hAp q h9) (fun r u t H1 locs1 ht hvm hr9 hB hz1 hk1 hS => ?_)
    replace ho9 := ho9.kept (hk1 _ ho9.lt hnq)
    have hq9 : r = nI 1 := hr9.trans (v_turn k1 k2 0)
    subst hq9
    refine lv_i2l (v := (nI 1).toInt64) hx hb dL_turn_10 rfl ?_
    refine q_last hx hb hK ho9 0 rfl (by decide) (by decide) hS hAo dL_turn_11 (fun H1 locs1 ho9 hz oq hS => ?_)
    refine lv_goto (tgt := 23) hx hb dL_turn_12 (by decide) ?_
    refine lv_iconst (v := nI 0) hx hb dL_turn_23 (by decide) ?_
    refine W.widen (k := 1) (n := 6) (by first | omega | decide) (by first | omega | decide) ?_
    have ht9 : tw_turn (nI k1) (nI k2) x3 = nI 0 := by unfold tw_turn; rw [if_neg c1, if_neg c2, if_neg (fun h9 => absurd ((nI_ltI (by decide) (by omega)).mp h9.1) (by omega))]
    exact W.iret (v := nI 0) hx hb hr (fun t ht _ => ⟨⟨nI 0, (), rfl, ht9.symm, by dsimp only; rw [ht]; exact ⟨_, ho9, fun _ => by dsimp only [vp_updL, vf_upd]; rfl⟩⟩, by subst hAe; exact hS.F ht⟩) (by subst hAe; exact hS.2.2) dL_turn_24

set_option maxHeartbeats 4000000 in
set_option maxRecDepth 100000 in
theorem wr_thick (l : Launch) (hlt : l.stackTraces = false) (D : va_G) (T : Nat → ClassId) (N0 sz o : Nat) (ad : Nat → Nat) (f : Nat → Int64) (x1 x2 : Int32) (hN : ∀ i : Nat, i < 37 → N0 ≤ ad i) (hNs : N0 ≤ sz) (hoa : ∀ i : Nat, i < 37 → o ≠ ad i) : Met l yL_thick wsL_thick ({ frames := 8, cells := 1, slots := 6, locals := 128 }) (cW D T N0 [.ref (ad 0), .int x1, .int x2, .ref o] (fun H => H.size = sz ∧ PLW D T ad zz2 zz2 sr0 zr0 H ∧ pAt D H o (eL (T 6) 1 f))) (va_Qi (fun (r : Int32) (_ : Unit) => r = tw_thick x1 x2) (fun _ t => LO D T o (tw_thick x1 x2) ((nI 1).toInt64) t.heap) (WA ad o sz)) 1 6 (WA ad o sz) := by
  refine q_ofWH (cc := cL_thick) (maxL := 5) (ret := (some .int)) (hh := [(0, 10, 13, 13), (0, 10, 17, 15)]) (by decide) rfl ?_
  intro p e s m args below meth c s₁ B hml hv9
  obtain ⟨⟨rfl, hK, ⟨hsz, hw, ho9⟩, hKX⟩, hNc⟩ := hv9
  have hx := B.exec
  have hb := B.bytes
  have hr := B.returns
  have hts := atoms_spec (ws := wsL_thick) B.pre
  have hown : s.vm.findClass RL = some m.cls := findClass_of_methodNamed B.named
  have hlocks := B.notSynchronized
  have htab := vx_table (x := yL_thick) B (hts _ List.mem_cons_self)
  generalize hAe : WA ad o sz = A
  have hAs : ∀ q : Nat, SA ad s.heap.size q → A q := fun q h9 => by subst hAe; exact h9.elim Or.inl (fun h8 => Or.inr (Or.inr (by omega)))
  have hAn : ∀ q : Nat, s.heap.size ≤ q → A q := fun q h9 => hAs q (Or.inr h9)
  have hAp : ∀ q : Nat, PLA ad q → A q := fun q h9 => hAs q (Or.inl h9)
  have hAo : A o := by subst hAe; exact Or.inr (Or.inl rfl)
  have hno : ¬ s.heap.size ≤ o := by have h8 := ho9.lt; omega
  have hnq : ¬ PLA ad o := fun ⟨i, hi, h8⟩ => hoa i hi h8
  have hnp : ¬ SA ad s.heap.size o := fun h9 => h9.elim hnq hno
  have hS : va_S A s.heap s.heap [] := va_S.rf
  have hl := lv_entry ([.ref (ad 0), .int x1, .int x2, .ref o]) (n := 5) (Nat.le_of_ble_eq_true rfl)
  rw [lg_entry_eq]
  generalize (lg_sl ([.ref (ad 0), .int x1, .int x2, .ref o]) ++ List.replicate (5 - (lg_sl ([.ref (ad 0), .int x1, .int x2, .ref o])).length) Slot.unset).toArray = ls at hl ⊢
  have hl : lv_has ls 5 [(0, .ref (ad 0)), (1, .int x1), (2, .int x2), (3, .ref o)] := hl
  by_cases c1 : inM x1 (nI 0) (nI 4) = 0
  · skip
    refine lv_aload_n hx hb dL_thick_0 rfl (lv_at hl 3 rfl) ?_
    refine lv_iconst (v := nI 0) hx hb dL_thick_1 (by decide) ?_
    refine lv_aload_n hx hb dL_thick_2 rfl (lv_at hl 0 rfl) ?_
    refine lv_iload_n hx hb dL_thick_3 rfl (lv_at hl 1 rfl) ?_
    refine lv_iload_n hx hb dL_thick_4 rfl (lv_at hl 2 rfl) ?_
    exact vx_callv (vx_runV (As := [.int x1, .int x2]) (rest := [.int (nI 0), .ref o]) ⟨hx, hb, hml, hown, hts⟩ (thX3_thick_1 l hlt D T s.heap.size ad zz2 zz2 sr0 zr0 x1 x2 (bad1 (by decide) c1)) (cwV 2 hts gL_thick_X3_thick rfl rfl rfl (by decide +kernel) ⟨Nat.le_of_ble_eq_true rfl, Nat.le_of_ble_eq_true rfl⟩) (preXV hK (hKX.up (by omega)) rfl hw.o rfl hw) rfl rfl hl.1 rfl (lv_room (Nat.le_of_ble_eq_true rfl)) dL_thick_5 ⟨Nat.le_of_ble_eq_true rfl, Nat.le_of_ble_eq_true rfl⟩) hS (fun q _ h9 => hAn q h9) (fun q h9 => hAn q h9) (fun q _ h9 => hAn q h9) (fun E ce q9 u t H1 locs1 ht hvm _ hE hz hk hS hce hcv hcl => by
      subst hE
      refine vx_catch (own := RL) (name := IOB) hown [] ⟨0, 10, 13, 13⟩ [⟨0, 10, 17, 15⟩] htab (fun z hz => absurd hz List.not_mem_nil) (by decide) (by decide) (hts (.classLink RL 13 IOB) (by decide +kernel)) (va_Nw.use rfl hKX.1.2.1.2) hce hcv hcl ?_
      refine lv_astore (lv' := [(4, .ref q9), (0, .ref (ad 0)), (1, .int x1), (2, .int x2), (3, .ref o)]) hx hb dL_thick_13 hl (by decide) rfl (fun ls hl => ?_)
      refine lv_iconst (v := nI 1) hx hb dL_thick_15 (by decide) ?_
      refine W.widen (k := 1) (n := 6) (by first | omega | decide) (by first | omega | decide) ?_
      have ho9 := ho9.kept (hk _ ho9.lt (fun h9 => hno h9))
      have ht9 : tw_thick x1 x2 = nI 1 := by unfold tw_thick; rw [if_pos c1]
      exact W.iret (v := nI 1) hx hb hr (fun t ht _ => ⟨⟨nI 1, (), rfl, ht9.symm, by dsimp only; rw [ht]; exact ⟨f, ho9, fun h9 => absurd (ht9.symm.trans h9) (by decide)⟩⟩, by subst hAe; exact hS.F ht⟩) (by subst hAe; exact hS.2.2) dL_thick_16
      ) (fun u t H1 locs1 ht hvm hf => hf.elim)
  obtain ⟨k1, hk1, rfl⟩ := inM_ok (n := 4) (by decide) c1
  by_cases c2 : inM x2 (nI 0) (nI 255) = 0
  · skip
    refine lv_aload_n hx hb dL_thick_0 rfl (lv_at hl 3 rfl) ?_
    refine lv_iconst (v := nI 0) hx hb dL_thick_1 (by decide) ?_
    refine lv_aload_n hx hb dL_thick_2 rfl (lv_at hl 0 rfl) ?_
    refine lv_iload_n hx hb dL_thick_3 rfl (lv_at hl 1 rfl) ?_
    refine lv_iload_n hx hb dL_thick_4 rfl (lv_at hl 2 rfl) ?_
    exact vx_callv (vx_runV (As := [.int (nI k1), .int x2]) (rest := [.int (nI 0), .ref o]) ⟨hx, hb, hml, hown, hts⟩ (thX3_thick_2 l hlt D T s.heap.size ad zz2 zz2 sr0 zr0 k1 x2 (by omega) (bad3 c2)) (cwV 2 hts gL_thick_X3_thick rfl rfl rfl (by decide +kernel) ⟨Nat.le_of_ble_eq_true rfl, Nat.le_of_ble_eq_true rfl⟩) (preXV hK (hKX.up (by omega)) rfl hw.o rfl hw) rfl rfl hl.1 rfl (lv_room (Nat.le_of_ble_eq_true rfl)) dL_thick_5 ⟨Nat.le_of_ble_eq_true rfl, Nat.le_of_ble_eq_true rfl⟩) hS (fun q _ h9 => hAn q h9) (fun q h9 => hAn q h9) (fun q _ h9 => hAn q h9) (fun E ce q9 u t H1 locs1 ht hvm _ hE hz hk hS hce hcv hcl => by
      subst hE
      refine vx_catch (own := RL) (name := IAE) hown [⟨0, 10, 13, 13⟩] ⟨0, 10, 17, 15⟩ [] htab (fun z hz => by rcases List.mem_cons.mp hz with h8 | h8; rw [h8]; exact Or.inr ⟨by decide, IOB, hts (.classLink RL 13 IOB) (by decide +kernel), hNc⟩; exact absurd h8 List.not_mem_nil) (by decide) (by decide) (hts (.classLink RL 15 IAE) (by decide +kernel)) (va_Nw.use rfl hKX.1.2.1.1) hce hcv hcl ?_
      refine lv_astore (lv' := [(4, .ref q9), (0, .ref (ad 0)), (1, .int (nI k1)), (2, .int x2), (3, .ref o)]) hx hb dL_thick_17 hl (by decide) rfl (fun ls hl => ?_)
      refine lv_iconst (v := nI 2) hx hb dL_thick_19 (by decide) ?_
      refine W.widen (k := 1) (n := 6) (by first | omega | decide) (by first | omega | decide) ?_
      have ho9 := ho9.kept (hk _ ho9.lt (fun h9 => hno h9))
      have ht9 : tw_thick (nI k1) x2 = nI 2 := by unfold tw_thick; rw [if_neg c1, if_pos c2]
      exact W.iret (v := nI 2) hx hb hr (fun t ht _ => ⟨⟨nI 2, (), rfl, ht9.symm, by dsimp only; rw [ht]; exact ⟨f, ho9, fun h9 => absurd (ht9.symm.trans h9) (by decide)⟩⟩, by subst hAe; exact hS.F ht⟩) (by subst hAe; exact hS.2.2) dL_thick_20
      ) (fun u t H1 locs1 ht hvm hf => hf.elim)
  obtain ⟨k2, hk2, rfl⟩ := inM_ok (n := 255) (by decide) c2
  refine lv_aload_n hx hb dL_thick_0 rfl (lv_at hl 3 rfl) ?_
  refine lv_iconst (v := nI 0) hx hb dL_thick_1 (by decide) ?_
  refine lv_aload_n hx hb dL_thick_2 rfl (lv_at hl 0 rfl) ?_
  refine lv_iload_n hx hb dL_thick_3 rfl (lv_at hl 1 rfl) ?_
  refine lv_iload_n hx hb dL_thick_4 rfl (lv_at hl 2 rfl) ?_
  refine va_calli (va_runV (As := [.int (nI k1), .int (nI k2)]) (rest := [.int (nI 0), .ref o]) ⟨hx, hb, hml, hown, hts⟩ (conX3_thick l D T ad zz2 zz2 sr0 zr0 k1 (by omega) k2 (by omega)) (cwV 2 hts gL_thick_X3_thick rfl rfl rfl (by decide +kernel) ⟨Nat.le_of_ble_eq_true rfl, Nat.le_of_ble_eq_true rfl⟩) (preV hK hw.o rfl hw) rfl rfl hl.1 rfl (lv_room (Nat.le_of_ble_eq_true rfl)) dL_thick_5 ⟨Nat.le_of_ble_eq_true rfl, Nat.le_of_ble_eq_true rfl⟩) hS (fun q _ h9 => hAp q h9) (fun q h9 => hAp q h9) (fun r u t H1 locs1 ht hvm hr9 hB hz1 hk1 hS => ?_)
  replace ho9 := ho9.kept (hk1 _ ho9.lt hnq)
  have hq9 : r = nI 1 := hr9.trans (v_thick k2)
  subst hq9
  refine lv_i2l (v := (nI 1).toInt64) hx hb dL_thick_8 rfl ?_
  refine q_last hx hb hK ho9 0 rfl (by decide) (by decide) hS hAo dL_thick_9 (fun H1 locs1 ho9 hz oq hS => ?_)
  refine lv_goto (tgt := 21) hx hb dL_thick_10 (by decide) ?_
  refine lv_iconst (v := nI 0) hx hb dL_thick_21 (by decide) ?_
  refine W.widen (k := 1) (n := 6) (by first | omega | decide) (by first | omega | decide) ?_
  have ht9 : tw_thick (nI k1) (nI k2) = nI 0 := by unfold tw_thick; rw [if_neg c1, if_neg c2]
  exact W.iret (v := nI 0) hx hb hr (fun t ht _ => ⟨⟨nI 0, (), rfl, ht9.symm, by dsimp only; rw [ht]; exact ⟨_, ho9, fun _ => by dsimp only [vp_updL, vf_upd]; rfl⟩⟩, by subst hAe; exact hS.F ht⟩) (by subst hAe; exact hS.2.2) dL_thick_22

set_option maxHeartbeats 4000000 in
set_option maxRecDepth 100000 in
theorem wr_where (l : Launch) (hlt : l.stackTraces = false) (D : va_G) (T : Nat → ClassId) (N0 sz o : Nat) (ad : Nat → Nat) (f : Nat → Int64) (x1 x2 x3 x4 : Int32) (hN : ∀ i : Nat, i < 37 → N0 ≤ ad i) (hNs : N0 ≤ sz) (hoa : ∀ i : Nat, i < 37 → o ≠ ad i) : Met l yL_where wsL_where ({ frames := 8, cells := 1, slots := 6, locals := 132 }) (cW D T N0 [.ref (ad 0), .int x1, .int x2, .int x3, .int x4, .ref o] (fun H => H.size = sz ∧ PLW D T ad zz2 zz2 sr0 zr0 H ∧ pAt D H o (eL (T 6) 1 f))) (va_Qi (fun (r : Int32) (_ : Unit) => r = tw_where x1 x2 x3 x4) (fun _ t => LO D T o (tw_where x1 x2 x3 x4) ((cntc (inM (nI 0) x3 x4) 201).toInt64) t.heap) (WA ad o sz)) 1 6 (WA ad o sz) := by
  refine q_ofWH (cc := cL_where) (maxL := 7) (ret := (some .int)) (hh := [(0, 14, 17, 13)]) (by decide) rfl ?_
  intro p e s m args below meth c s₁ B hml hv9
  obtain ⟨⟨rfl, hK, ⟨hsz, hw, ho9⟩, hKX⟩, hNc⟩ := hv9
  have hx := B.exec
  have hb := B.bytes
  have hr := B.returns
  have hts := atoms_spec (ws := wsL_where) B.pre
  have hown : s.vm.findClass RL = some m.cls := findClass_of_methodNamed B.named
  have hlocks := B.notSynchronized
  have htab := vx_table (x := yL_where) B (hts _ List.mem_cons_self)
  generalize hAe : WA ad o sz = A
  have hAs : ∀ q : Nat, SA ad s.heap.size q → A q := fun q h9 => by subst hAe; exact h9.elim Or.inl (fun h8 => Or.inr (Or.inr (by omega)))
  have hAn : ∀ q : Nat, s.heap.size ≤ q → A q := fun q h9 => hAs q (Or.inr h9)
  have hAp : ∀ q : Nat, PLA ad q → A q := fun q h9 => hAs q (Or.inl h9)
  have hAo : A o := by subst hAe; exact Or.inr (Or.inl rfl)
  have hno : ¬ s.heap.size ≤ o := by have h8 := ho9.lt; omega
  have hnq : ¬ PLA ad o := fun ⟨i, hi, h8⟩ => hoa i hi h8
  have hnp : ¬ SA ad s.heap.size o := fun h9 => h9.elim hnq hno
  have hS : va_S A s.heap s.heap [] := va_S.rf
  have hl := lv_entry ([.ref (ad 0), .int x1, .int x2, .int x3, .int x4, .ref o]) (n := 7) (Nat.le_of_ble_eq_true rfl)
  rw [lg_entry_eq]
  generalize (lg_sl ([.ref (ad 0), .int x1, .int x2, .int x3, .int x4, .ref o]) ++ List.replicate (7 - (lg_sl ([.ref (ad 0), .int x1, .int x2, .int x3, .int x4, .ref o])).length) Slot.unset).toArray = ls at hl ⊢
  have hl : lv_has ls 7 [(0, .ref (ad 0)), (1, .int x1), (2, .int x2), (3, .int x3), (4, .int x4), (5, .ref o)] := hl
  by_cases c1 : inM x1 (nI 0) (nI 7) = 0
  · skip
    refine lv_aload hx hb dL_where_0 (lv_at hl 5 rfl) ?_
    refine lv_iconst (v := nI 0) hx hb dL_where_2 (by decide) ?_
    refine lv_aload_n hx hb dL_where_3 rfl (lv_at hl 0 rfl) ?_
    refine lv_iload_n hx hb dL_where_4 rfl (lv_at hl 1 rfl) ?_
    refine lv_iload_n hx hb dL_where_5 rfl (lv_at hl 2 rfl) ?_
    refine lv_iload_n hx hb dL_where_6 rfl (lv_at hl 3 rfl) ?_
    refine lv_iload hx hb dL_where_7 (lv_at hl 4 rfl) ?_
    exact vx_callv (vx_runV (As := [.int x1, .int x2, .int x3, .int x4]) (rest := [.int (nI 0), .ref o]) ⟨hx, hb, hml, hown, hts⟩ (thX3_where_1 l hlt D T s.heap.size ad zz2 zz2 sr0 zr0 x1 x2 x3 x4 (bad1 (by decide) c1)) (cwV 4 hts gL_where_X3_where rfl rfl rfl (by decide +kernel) ⟨Nat.le_of_ble_eq_true rfl, Nat.le_of_ble_eq_true rfl⟩) (preXV hK (hKX.up (by omega)) rfl hw.o rfl hw) rfl rfl hl.1 rfl (lv_room (Nat.le_of_ble_eq_true rfl)) dL_where_9 ⟨Nat.le_of_ble_eq_true rfl, Nat.le_of_ble_eq_true rfl⟩) hS (fun q _ h9 => hAn q h9) (fun q h9 => hAn q h9) (fun q _ h9 => hAn q h9) (fun E ce q9 u t H1 locs1 ht hvm _ hE hz hk hS hce hcv hcl => by
      subst hE
      refine vx_catch (own := RL) (name := IOB) hown [] ⟨0, 14, 17, 13⟩ [] htab (fun z hz => absurd hz List.not_mem_nil) (by decide) (by decide) (hts (.classLink RL 13 IOB) (by decide +kernel)) (va_Nw.use rfl hKX.1.2.1.2) hce hcv hcl ?_
      refine lv_astore (lv' := [(6, .ref q9), (0, .ref (ad 0)), (1, .int x1), (2, .int x2), (3, .int x3), (4, .int x4), (5, .ref o)]) hx hb dL_where_17 hl (by decide) rfl (fun ls hl => ?_)
      refine lv_iconst (v := nI 1) hx hb dL_where_19 (by decide) ?_
      refine W.widen (k := 1) (n := 6) (by first | omega | decide) (by first | omega | decide) ?_
      have ho9 := ho9.kept (hk _ ho9.lt (fun h9 => hno h9))
      have ht9 : tw_where x1 x2 x3 x4 = nI 1 := by unfold tw_where; rw [if_pos c1]
      exact W.iret (v := nI 1) hx hb hr (fun t ht _ => ⟨⟨nI 1, (), rfl, ht9.symm, by dsimp only; rw [ht]; exact ⟨f, ho9, fun h9 => absurd (ht9.symm.trans h9) (by decide)⟩⟩, by subst hAe; exact hS.F ht⟩) (by subst hAe; exact hS.2.2) dL_where_20
      ) (fun u t H1 locs1 ht hvm hf => hf.elim)
  obtain ⟨k1, hk1, rfl⟩ := inM_ok (n := 7) (by decide) c1
  by_cases c2 : inM x2 (nI 0) (nI 4) = 0
  · skip
    refine lv_aload hx hb dL_where_0 (lv_at hl 5 rfl) ?_
    refine lv_iconst (v := nI 0) hx hb dL_where_2 (by decide) ?_
    refine lv_aload_n hx hb dL_where_3 rfl (lv_at hl 0 rfl) ?_
    refine lv_iload_n hx hb dL_where_4 rfl (lv_at hl 1 rfl) ?_
    refine lv_iload_n hx hb dL_where_5 rfl (lv_at hl 2 rfl) ?_
    refine lv_iload_n hx hb dL_where_6 rfl (lv_at hl 3 rfl) ?_
    refine lv_iload hx hb dL_where_7 (lv_at hl 4 rfl) ?_
    exact vx_callv (vx_runV (As := [.int (nI k1), .int x2, .int x3, .int x4]) (rest := [.int (nI 0), .ref o]) ⟨hx, hb, hml, hown, hts⟩ (thX3_where_2 l hlt D T s.heap.size ad zz2 zz2 sr0 zr0 k1 x2 x3 x4 (by omega) (bad1 (by decide) c2)) (cwV 4 hts gL_where_X3_where rfl rfl rfl (by decide +kernel) ⟨Nat.le_of_ble_eq_true rfl, Nat.le_of_ble_eq_true rfl⟩) (preXV hK (hKX.up (by omega)) rfl hw.o rfl hw) rfl rfl hl.1 rfl (lv_room (Nat.le_of_ble_eq_true rfl)) dL_where_9 ⟨Nat.le_of_ble_eq_true rfl, Nat.le_of_ble_eq_true rfl⟩) hS (fun q _ h9 => hAn q h9) (fun q h9 => hAn q h9) (fun q _ h9 => hAn q h9) (fun E ce q9 u t H1 locs1 ht hvm _ hE hz hk hS hce hcv hcl => by
      subst hE
      refine vx_catch (own := RL) (name := IOB) hown [] ⟨0, 14, 17, 13⟩ [] htab (fun z hz => absurd hz List.not_mem_nil) (by decide) (by decide) (hts (.classLink RL 13 IOB) (by decide +kernel)) (va_Nw.use rfl hKX.1.2.1.2) hce hcv hcl ?_
      refine lv_astore (lv' := [(6, .ref q9), (0, .ref (ad 0)), (1, .int (nI k1)), (2, .int x2), (3, .int x3), (4, .int x4), (5, .ref o)]) hx hb dL_where_17 hl (by decide) rfl (fun ls hl => ?_)
      refine lv_iconst (v := nI 1) hx hb dL_where_19 (by decide) ?_
      refine W.widen (k := 1) (n := 6) (by first | omega | decide) (by first | omega | decide) ?_
      have ho9 := ho9.kept (hk _ ho9.lt (fun h9 => hno h9))
      have ht9 : tw_where (nI k1) x2 x3 x4 = nI 1 := by unfold tw_where; rw [if_neg c1, if_pos c2]
      exact W.iret (v := nI 1) hx hb hr (fun t ht _ => ⟨⟨nI 1, (), rfl, ht9.symm, by dsimp only; rw [ht]; exact ⟨f, ho9, fun h9 => absurd (ht9.symm.trans h9) (by decide)⟩⟩, by subst hAe; exact hS.F ht⟩) (by subst hAe; exact hS.2.2) dL_where_20
      ) (fun u t H1 locs1 ht hvm hf => hf.elim)
  obtain ⟨k2, hk2, rfl⟩ := inM_ok (n := 4) (by decide) c2
  refine lv_aload hx hb dL_where_0 (lv_at hl 5 rfl) ?_
  refine lv_iconst (v := nI 0) hx hb dL_where_2 (by decide) ?_
  refine lv_aload_n hx hb dL_where_3 rfl (lv_at hl 0 rfl) ?_
  refine lv_iload_n hx hb dL_where_4 rfl (lv_at hl 1 rfl) ?_
  refine lv_iload_n hx hb dL_where_5 rfl (lv_at hl 2 rfl) ?_
  refine lv_iload_n hx hb dL_where_6 rfl (lv_at hl 3 rfl) ?_
  refine lv_iload hx hb dL_where_7 (lv_at hl 4 rfl) ?_
  refine va_calli (va_runV (As := [.int (nI k1), .int (nI k2), .int x3, .int x4]) (rest := [.int (nI 0), .ref o]) ⟨hx, hb, hml, hown, hts⟩ (conX3_where l D T ad zz2 zz2 sr0 zr0 k1 k2 x3 x4 (by omega) (by omega)) (cwV 4 hts gL_where_X3_where rfl rfl rfl (by decide +kernel) ⟨Nat.le_of_ble_eq_true rfl, Nat.le_of_ble_eq_true rfl⟩) (preV hK hw.o rfl hw) rfl rfl hl.1 rfl (lv_room (Nat.le_of_ble_eq_true rfl)) dL_where_9 ⟨Nat.le_of_ble_eq_true rfl, Nat.le_of_ble_eq_true rfl⟩) hS (fun q _ h9 => hAp q h9) (fun q h9 => hAp q h9) (fun r u t H1 locs1 ht hvm hr9 hB hz1 hk1 hS => ?_)
  replace ho9 := ho9.kept (hk1 _ ho9.lt hnq)
  have hq9 : r = cntc (inM (nI 0) x3 x4) 201 := hr9.trans (v_where x3 x4)
  subst hq9
  refine lv_i2l (v := (cntc (inM (nI 0) x3 x4) 201).toInt64) hx hb dL_where_12 rfl ?_
  refine q_last hx hb hK ho9 0 rfl (by decide) (by decide) hS hAo dL_where_13 (fun H1 locs1 ho9 hz oq hS => ?_)
  refine lv_goto (tgt := 21) hx hb dL_where_14 (by decide) ?_
  refine lv_iconst (v := nI 0) hx hb dL_where_21 (by decide) ?_
  refine W.widen (k := 1) (n := 6) (by first | omega | decide) (by first | omega | decide) ?_
  have ht9 : tw_where (nI k1) (nI k2) x3 x4 = nI 0 := by unfold tw_where; rw [if_neg c1, if_neg c2]
  exact W.iret (v := nI 0) hx hb hr (fun t ht _ => ⟨⟨nI 0, (), rfl, ht9.symm, by dsimp only; rw [ht]; exact ⟨_, ho9, fun _ => by dsimp only [vp_updL, vf_upd]; rfl⟩⟩, by subst hAe; exact hS.F ht⟩) (by subst hAe; exact hS.2.2) dL_where_22

set_option maxHeartbeats 4000000 in
set_option maxRecDepth 100000 in
theorem wr_ofFunction (l : Launch) (hlt : l.stackTraces = false) (D : va_G) (T : Nat → ClassId) (N0 sz o : Nat) (ad : Nat → Nat) (f : Nat → Int64) (x1 x2 : Int32) (hN : ∀ i : Nat, i < 37 → N0 ≤ ad i) (hNs : N0 ≤ sz) (hoa : ∀ i : Nat, i < 37 → o ≠ ad i) : Met l yL_ofFunction wsL_ofFunction ({ frames := 8, cells := 1, slots := 6, locals := 127 }) (cW D T N0 [.ref (ad 0), .int x1, .int x2, .ref o] (fun H => H.size = sz ∧ PLW D T ad zz2 zz2 sr0 zr0 H ∧ pAt D H o (eL (T 6) 1 f))) (va_Qi (fun (r : Int32) (_ : Unit) => r = tw_ofFunction x1 x2) (fun _ t => LO D T o (tw_ofFunction x1 x2) ((fnM x2.toNatClampNeg).toInt64) t.heap) (WA ad o sz)) 1 6 (WA ad o sz) := by
  refine q_ofWH (cc := cL_ofFunction) (maxL := 5) (ret := (some .int)) (hh := [(0, 10, 13, 13), (0, 10, 17, 15)]) (by decide) rfl ?_
  intro p e s m args below meth c s₁ B hml hv9
  obtain ⟨⟨rfl, hK, ⟨hsz, hw, ho9⟩, hKX⟩, hNc⟩ := hv9
  have hx := B.exec
  have hb := B.bytes
  have hr := B.returns
  have hts := atoms_spec (ws := wsL_ofFunction) B.pre
  have hown : s.vm.findClass RL = some m.cls := findClass_of_methodNamed B.named
  have hlocks := B.notSynchronized
  have htab := vx_table (x := yL_ofFunction) B (hts _ List.mem_cons_self)
  generalize hAe : WA ad o sz = A
  have hAs : ∀ q : Nat, SA ad s.heap.size q → A q := fun q h9 => by subst hAe; exact h9.elim Or.inl (fun h8 => Or.inr (Or.inr (by omega)))
  have hAn : ∀ q : Nat, s.heap.size ≤ q → A q := fun q h9 => hAs q (Or.inr h9)
  have hAp : ∀ q : Nat, PLA ad q → A q := fun q h9 => hAs q (Or.inl h9)
  have hAo : A o := by subst hAe; exact Or.inr (Or.inl rfl)
  have hno : ¬ s.heap.size ≤ o := by have h8 := ho9.lt; omega
  have hnq : ¬ PLA ad o := fun ⟨i, hi, h8⟩ => hoa i hi h8
  have hnp : ¬ SA ad s.heap.size o := fun h9 => h9.elim hnq hno
  have hS : va_S A s.heap s.heap [] := va_S.rf
  have hl := lv_entry ([.ref (ad 0), .int x1, .int x2, .ref o]) (n := 5) (Nat.le_of_ble_eq_true rfl)
  rw [lg_entry_eq]
  generalize (lg_sl ([.ref (ad 0), .int x1, .int x2, .ref o]) ++ List.replicate (5 - (lg_sl ([.ref (ad 0), .int x1, .int x2, .ref o])).length) Slot.unset).toArray = ls at hl ⊢
  have hl : lv_has ls 5 [(0, .ref (ad 0)), (1, .int x1), (2, .int x2), (3, .ref o)] := hl
  by_cases c1 : inM x1 (nI 0) (nI 4) = 0
  · skip
    refine lv_aload_n hx hb dL_ofFunction_0 rfl (lv_at hl 3 rfl) ?_
    refine lv_iconst (v := nI 0) hx hb dL_ofFunction_1 (by decide) ?_
    refine lv_aload_n hx hb dL_ofFunction_2 rfl (lv_at hl 0 rfl) ?_
    refine lv_iload_n hx hb dL_ofFunction_3 rfl (lv_at hl 1 rfl) ?_
    refine lv_iload_n hx hb dL_ofFunction_4 rfl (lv_at hl 2 rfl) ?_
    exact vx_callv (vx_runV (As := [.int x1, .int x2]) (rest := [.int (nI 0), .ref o]) ⟨hx, hb, hml, hown, hts⟩ (thX3_ofFunction_1 l hlt D T s.heap.size ad zz2 zz2 sr0 zr0 x1 x2 (bad1 (by decide) c1)) (cwV 2 hts gL_ofFunction_X3_ofFunction rfl rfl rfl (by decide +kernel) ⟨Nat.le_of_ble_eq_true rfl, Nat.le_of_ble_eq_true rfl⟩) (preXV hK (hKX.up (by omega)) rfl hw.o rfl hw) rfl rfl hl.1 rfl (lv_room (Nat.le_of_ble_eq_true rfl)) dL_ofFunction_5 ⟨Nat.le_of_ble_eq_true rfl, Nat.le_of_ble_eq_true rfl⟩) hS (fun q _ h9 => hAn q h9) (fun q h9 => hAn q h9) (fun q _ h9 => hAn q h9) (fun E ce q9 u t H1 locs1 ht hvm _ hE hz hk hS hce hcv hcl => by
      subst hE
      refine vx_catch (own := RL) (name := IOB) hown [] ⟨0, 10, 13, 13⟩ [⟨0, 10, 17, 15⟩] htab (fun z hz => absurd hz List.not_mem_nil) (by decide) (by decide) (hts (.classLink RL 13 IOB) (by decide +kernel)) (va_Nw.use rfl hKX.1.2.1.2) hce hcv hcl ?_
      refine lv_astore (lv' := [(4, .ref q9), (0, .ref (ad 0)), (1, .int x1), (2, .int x2), (3, .ref o)]) hx hb dL_ofFunction_13 hl (by decide) rfl (fun ls hl => ?_)
      refine lv_iconst (v := nI 1) hx hb dL_ofFunction_15 (by decide) ?_
      refine W.widen (k := 1) (n := 6) (by first | omega | decide) (by first | omega | decide) ?_
      have ho9 := ho9.kept (hk _ ho9.lt (fun h9 => hno h9))
      have ht9 : tw_ofFunction x1 x2 = nI 1 := by unfold tw_ofFunction; rw [if_pos c1]
      exact W.iret (v := nI 1) hx hb hr (fun t ht _ => ⟨⟨nI 1, (), rfl, ht9.symm, by dsimp only; rw [ht]; exact ⟨f, ho9, fun h9 => absurd (ht9.symm.trans h9) (by decide)⟩⟩, by subst hAe; exact hS.F ht⟩) (by subst hAe; exact hS.2.2) dL_ofFunction_16
      ) (fun u t H1 locs1 ht hvm hf => hf.elim)
  obtain ⟨k1, hk1, rfl⟩ := inM_ok (n := 4) (by decide) c1
  by_cases c2 : inM x2 (nI 0) (nI 4) = 0
  · skip
    refine lv_aload_n hx hb dL_ofFunction_0 rfl (lv_at hl 3 rfl) ?_
    refine lv_iconst (v := nI 0) hx hb dL_ofFunction_1 (by decide) ?_
    refine lv_aload_n hx hb dL_ofFunction_2 rfl (lv_at hl 0 rfl) ?_
    refine lv_iload_n hx hb dL_ofFunction_3 rfl (lv_at hl 1 rfl) ?_
    refine lv_iload_n hx hb dL_ofFunction_4 rfl (lv_at hl 2 rfl) ?_
    exact vx_callv (vx_runV (As := [.int (nI k1), .int x2]) (rest := [.int (nI 0), .ref o]) ⟨hx, hb, hml, hown, hts⟩ (thX3_ofFunction_2 l hlt D T s.heap.size ad zz2 zz2 sr0 zr0 k1 x2 (by omega) (bad3 c2)) (cwV 2 hts gL_ofFunction_X3_ofFunction rfl rfl rfl (by decide +kernel) ⟨Nat.le_of_ble_eq_true rfl, Nat.le_of_ble_eq_true rfl⟩) (preXV hK (hKX.up (by omega)) rfl hw.o rfl hw) rfl rfl hl.1 rfl (lv_room (Nat.le_of_ble_eq_true rfl)) dL_ofFunction_5 ⟨Nat.le_of_ble_eq_true rfl, Nat.le_of_ble_eq_true rfl⟩) hS (fun q _ h9 => hAn q h9) (fun q h9 => hAn q h9) (fun q _ h9 => hAn q h9) (fun E ce q9 u t H1 locs1 ht hvm _ hE hz hk hS hce hcv hcl => by
      subst hE
      refine vx_catch (own := RL) (name := IAE) hown [⟨0, 10, 13, 13⟩] ⟨0, 10, 17, 15⟩ [] htab (fun z hz => by rcases List.mem_cons.mp hz with h8 | h8; rw [h8]; exact Or.inr ⟨by decide, IOB, hts (.classLink RL 13 IOB) (by decide +kernel), hNc⟩; exact absurd h8 List.not_mem_nil) (by decide) (by decide) (hts (.classLink RL 15 IAE) (by decide +kernel)) (va_Nw.use rfl hKX.1.2.1.1) hce hcv hcl ?_
      refine lv_astore (lv' := [(4, .ref q9), (0, .ref (ad 0)), (1, .int (nI k1)), (2, .int x2), (3, .ref o)]) hx hb dL_ofFunction_17 hl (by decide) rfl (fun ls hl => ?_)
      refine lv_iconst (v := nI 2) hx hb dL_ofFunction_19 (by decide) ?_
      refine W.widen (k := 1) (n := 6) (by first | omega | decide) (by first | omega | decide) ?_
      have ho9 := ho9.kept (hk _ ho9.lt (fun h9 => hno h9))
      have ht9 : tw_ofFunction (nI k1) x2 = nI 2 := by unfold tw_ofFunction; rw [if_neg c1, if_pos c2]
      exact W.iret (v := nI 2) hx hb hr (fun t ht _ => ⟨⟨nI 2, (), rfl, ht9.symm, by dsimp only; rw [ht]; exact ⟨f, ho9, fun h9 => absurd (ht9.symm.trans h9) (by decide)⟩⟩, by subst hAe; exact hS.F ht⟩) (by subst hAe; exact hS.2.2) dL_ofFunction_20
      ) (fun u t H1 locs1 ht hvm hf => hf.elim)
  obtain ⟨k2, hk2, rfl⟩ := inM_ok (n := 4) (by decide) c2
  refine lv_aload_n hx hb dL_ofFunction_0 rfl (lv_at hl 3 rfl) ?_
  refine lv_iconst (v := nI 0) hx hb dL_ofFunction_1 (by decide) ?_
  refine lv_aload_n hx hb dL_ofFunction_2 rfl (lv_at hl 0 rfl) ?_
  refine lv_iload_n hx hb dL_ofFunction_3 rfl (lv_at hl 1 rfl) ?_
  refine lv_iload_n hx hb dL_ofFunction_4 rfl (lv_at hl 2 rfl) ?_
  refine vp_callSi (va_runV (As := [.int (nI k1), .int (nI k2)]) (rest := [.int (nI 0), .ref o]) ⟨hx, hb, hml, hown, hts⟩ (conX3_ofFunction l D T ad zz2 zz2 sr0 zr0 k1 (by omega) k2 (by omega)) (cwV 2 hts gL_ofFunction_X3_ofFunction rfl rfl rfl (by decide +kernel) ⟨Nat.le_of_ble_eq_true rfl, Nat.le_of_ble_eq_true rfl⟩) (preV hK hw.o rfl hw) rfl rfl hl.1 rfl (lv_room (Nat.le_of_ble_eq_true rfl)) dL_ofFunction_5 ⟨Nat.le_of_ble_eq_true rfl, Nat.le_of_ble_eq_true rfl⟩).run (fun r hr9 => ?_)
  have hq9 : r = fnM k2 := hr9.trans (v_ofFunction (by omega))
  subst hq9
  refine lv_i2l (v := (fnM k2).toInt64) hx hb dL_ofFunction_8 rfl ?_
  refine q_last hx hb hK ho9 0 rfl (by decide) (by decide) hS hAo dL_ofFunction_9 (fun H1 locs1 ho9 hz oq hS => ?_)
  refine lv_goto (tgt := 21) hx hb dL_ofFunction_10 (by decide) ?_
  refine lv_iconst (v := nI 0) hx hb dL_ofFunction_21 (by decide) ?_
  refine W.widen (k := 1) (n := 6) (by first | omega | decide) (by first | omega | decide) ?_
  have ht9 : tw_ofFunction (nI k1) (nI k2) = nI 0 := by unfold tw_ofFunction; rw [if_neg c1, if_neg c2]
  exact W.iret (v := nI 0) hx hb hr (fun t ht _ => ⟨⟨nI 0, (), rfl, ht9.symm, by dsimp only; rw [ht]; exact ⟨_, ho9, fun _ => by dsimp only [vp_updL, vf_upd]; rw [if_pos rfl]; rw [nI_clamp (by omega)]⟩⟩, by subst hAe; exact hS.F ht⟩) (by subst hAe; exact hS.2.2) dL_ofFunction_22

set_option maxHeartbeats 4000000 in
set_option maxRecDepth 100000 in
theorem wr_value (l : Launch) (hlt : l.stackTraces = false) (D : va_G) (T : Nat → ClassId) (N0 sz o : Nat) (ad : Nat → Nat) (f : Nat → Int64) (x1 x2 : Int32) (hN : ∀ i : Nat, i < 37 → N0 ≤ ad i) (hNs : N0 ≤ sz) (hoa : ∀ i : Nat, i < 37 → o ≠ ad i) : Met l yL_value wsL_value ({ frames := 8, cells := 1, slots := 6, locals := 127 }) (cW D T N0 [.ref (ad 0), .int x1, .int x2, .ref o] (fun H => H.size = sz ∧ PLW D T ad zz2 zz2 sr0 zr0 H ∧ pAt D H o (eL (T 6) 1 f))) (va_Qi (fun (r : Int32) (_ : Unit) => r = tw_value x1 x2) (fun _ t => LO D T o (tw_value x1 x2) ((nI 0).toInt64) t.heap) (WA ad o sz)) 1 6 (WA ad o sz) := by
  refine q_ofWH (cc := cL_value) (maxL := 5) (ret := (some .int)) (hh := [(0, 10, 13, 13)]) (by decide) rfl ?_
  intro p e s m args below meth c s₁ B hml hv9
  obtain ⟨⟨rfl, hK, ⟨hsz, hw, ho9⟩, hKX⟩, hNc⟩ := hv9
  have hx := B.exec
  have hb := B.bytes
  have hr := B.returns
  have hts := atoms_spec (ws := wsL_value) B.pre
  have hown : s.vm.findClass RL = some m.cls := findClass_of_methodNamed B.named
  have hlocks := B.notSynchronized
  have htab := vx_table (x := yL_value) B (hts _ List.mem_cons_self)
  generalize hAe : WA ad o sz = A
  have hAs : ∀ q : Nat, SA ad s.heap.size q → A q := fun q h9 => by subst hAe; exact h9.elim Or.inl (fun h8 => Or.inr (Or.inr (by omega)))
  have hAn : ∀ q : Nat, s.heap.size ≤ q → A q := fun q h9 => hAs q (Or.inr h9)
  have hAp : ∀ q : Nat, PLA ad q → A q := fun q h9 => hAs q (Or.inl h9)
  have hAo : A o := by subst hAe; exact Or.inr (Or.inl rfl)
  have hno : ¬ s.heap.size ≤ o := by have h8 := ho9.lt; omega
  have hnq : ¬ PLA ad o := fun ⟨i, hi, h8⟩ => hoa i hi h8
  have hnp : ¬ SA ad s.heap.size o := fun h9 => h9.elim hnq hno
  have hS : va_S A s.heap s.heap [] := va_S.rf
  have hl := lv_entry ([.ref (ad 0), .int x1, .int x2, .ref o]) (n := 5) (Nat.le_of_ble_eq_true rfl)
  rw [lg_entry_eq]
  generalize (lg_sl ([.ref (ad 0), .int x1, .int x2, .ref o]) ++ List.replicate (5 - (lg_sl ([.ref (ad 0), .int x1, .int x2, .ref o])).length) Slot.unset).toArray = ls at hl ⊢
  have hl : lv_has ls 5 [(0, .ref (ad 0)), (1, .int x1), (2, .int x2), (3, .ref o)] := hl
  by_cases c1 : inM x1 (nI 0) (nI 4) = 0
  · skip
    refine lv_aload_n hx hb dL_value_0 rfl (lv_at hl 3 rfl) ?_
    refine lv_iconst (v := nI 0) hx hb dL_value_1 (by decide) ?_
    refine lv_aload_n hx hb dL_value_2 rfl (lv_at hl 0 rfl) ?_
    refine lv_iload_n hx hb dL_value_3 rfl (lv_at hl 1 rfl) ?_
    refine lv_iload_n hx hb dL_value_4 rfl (lv_at hl 2 rfl) ?_
    exact vx_callv (vx_runV (As := [.int x1, .int x2]) (rest := [.int (nI 0), .ref o]) ⟨hx, hb, hml, hown, hts⟩ (thX3_value_1 l hlt D T s.heap.size ad zz2 zz2 sr0 zr0 x1 x2 (bad1 (by decide) c1)) (cwV 2 hts gL_value_X3_value rfl rfl rfl (by decide +kernel) ⟨Nat.le_of_ble_eq_true rfl, Nat.le_of_ble_eq_true rfl⟩) (preXV hK (hKX.up (by omega)) rfl hw.o rfl hw) rfl rfl hl.1 rfl (lv_room (Nat.le_of_ble_eq_true rfl)) dL_value_5 ⟨Nat.le_of_ble_eq_true rfl, Nat.le_of_ble_eq_true rfl⟩) hS (fun q _ h9 => hAn q h9) (fun q h9 => hAn q h9) (fun q _ h9 => hAn q h9) (fun E ce q9 u t H1 locs1 ht hvm _ hE hz hk hS hce hcv hcl => by
      subst hE
      refine vx_catch (own := RL) (name := IOB) hown [] ⟨0, 10, 13, 13⟩ [] htab (fun z hz => absurd hz List.not_mem_nil) (by decide) (by decide) (hts (.classLink RL 13 IOB) (by decide +kernel)) (va_Nw.use rfl hKX.1.2.1.2) hce hcv hcl ?_
      refine lv_astore (lv' := [(4, .ref q9), (0, .ref (ad 0)), (1, .int x1), (2, .int x2), (3, .ref o)]) hx hb dL_value_13 hl (by decide) rfl (fun ls hl => ?_)
      refine lv_iconst (v := nI 1) hx hb dL_value_15 (by decide) ?_
      refine W.widen (k := 1) (n := 6) (by first | omega | decide) (by first | omega | decide) ?_
      have ho9 := ho9.kept (hk _ ho9.lt (fun h9 => hno h9))
      have ht9 : tw_value x1 x2 = nI 1 := by unfold tw_value; rw [if_pos c1]
      exact W.iret (v := nI 1) hx hb hr (fun t ht _ => ⟨⟨nI 1, (), rfl, ht9.symm, by dsimp only; rw [ht]; exact ⟨f, ho9, fun h9 => absurd (ht9.symm.trans h9) (by decide)⟩⟩, by subst hAe; exact hS.F ht⟩) (by subst hAe; exact hS.2.2) dL_value_16
      ) (fun u t H1 locs1 ht hvm hf => hf.elim)
  obtain ⟨k1, hk1, rfl⟩ := inM_ok (n := 4) (by decide) c1
  by_cases c2 : inM x2 (nI 0) (nI 200) = 0
  · skip
    refine lv_aload_n hx hb dL_value_0 rfl (lv_at hl 3 rfl) ?_
    refine lv_iconst (v := nI 0) hx hb dL_value_1 (by decide) ?_
    refine lv_aload_n hx hb dL_value_2 rfl (lv_at hl 0 rfl) ?_
    refine lv_iload_n hx hb dL_value_3 rfl (lv_at hl 1 rfl) ?_
    refine lv_iload_n hx hb dL_value_4 rfl (lv_at hl 2 rfl) ?_
    exact vx_callv (vx_runV (As := [.int (nI k1), .int x2]) (rest := [.int (nI 0), .ref o]) ⟨hx, hb, hml, hown, hts⟩ (thX3_value_2 l hlt D T s.heap.size ad zz2 zz2 sr0 zr0 k1 x2 (by omega) (bad2 (by decide) c2)) (cwV 2 hts gL_value_X3_value rfl rfl rfl (by decide +kernel) ⟨Nat.le_of_ble_eq_true rfl, Nat.le_of_ble_eq_true rfl⟩) (preXV hK (hKX.up (by omega)) rfl hw.o rfl hw) rfl rfl hl.1 rfl (lv_room (Nat.le_of_ble_eq_true rfl)) dL_value_5 ⟨Nat.le_of_ble_eq_true rfl, Nat.le_of_ble_eq_true rfl⟩) hS (fun q _ h9 => hAn q h9) (fun q h9 => hAn q h9) (fun q _ h9 => hAn q h9) (fun E ce q9 u t H1 locs1 ht hvm _ hE hz hk hS hce hcv hcl => by
      subst hE
      refine vx_catch (own := RL) (name := IOB) hown [] ⟨0, 10, 13, 13⟩ [] htab (fun z hz => absurd hz List.not_mem_nil) (by decide) (by decide) (hts (.classLink RL 13 IOB) (by decide +kernel)) (va_Nw.use rfl hKX.1.2.1.2) hce hcv hcl ?_
      refine lv_astore (lv' := [(4, .ref q9), (0, .ref (ad 0)), (1, .int (nI k1)), (2, .int x2), (3, .ref o)]) hx hb dL_value_13 hl (by decide) rfl (fun ls hl => ?_)
      refine lv_iconst (v := nI 1) hx hb dL_value_15 (by decide) ?_
      refine W.widen (k := 1) (n := 6) (by first | omega | decide) (by first | omega | decide) ?_
      have ho9 := ho9.kept (hk _ ho9.lt (fun h9 => hno h9))
      have ht9 : tw_value (nI k1) x2 = nI 1 := by unfold tw_value; rw [if_neg c1, if_pos c2]
      exact W.iret (v := nI 1) hx hb hr (fun t ht _ => ⟨⟨nI 1, (), rfl, ht9.symm, by dsimp only; rw [ht]; exact ⟨f, ho9, fun h9 => absurd (ht9.symm.trans h9) (by decide)⟩⟩, by subst hAe; exact hS.F ht⟩) (by subst hAe; exact hS.2.2) dL_value_16
      ) (fun u t H1 locs1 ht hvm hf => hf.elim)
  obtain ⟨k2, hk2, rfl⟩ := inM_ok (n := 200) (by decide) c2
  refine lv_aload_n hx hb dL_value_0 rfl (lv_at hl 3 rfl) ?_
  refine lv_iconst (v := nI 0) hx hb dL_value_1 (by decide) ?_
  refine lv_aload_n hx hb dL_value_2 rfl (lv_at hl 0 rfl) ?_
  refine lv_iload_n hx hb dL_value_3 rfl (lv_at hl 1 rfl) ?_
  refine lv_iload_n hx hb dL_value_4 rfl (lv_at hl 2 rfl) ?_
  refine vp_callSi (va_runV (As := [.int (nI k1), .int (nI k2)]) (rest := [.int (nI 0), .ref o]) ⟨hx, hb, hml, hown, hts⟩ (conX3_value l D T ad zz2 zz2 sr0 zr0 k1 (by omega) k2 (by omega)) (cwV 2 hts gL_value_X3_value rfl rfl rfl (by decide +kernel) ⟨Nat.le_of_ble_eq_true rfl, Nat.le_of_ble_eq_true rfl⟩) (preV hK hw.o rfl hw) rfl rfl hl.1 rfl (lv_room (Nat.le_of_ble_eq_true rfl)) dL_value_5 ⟨Nat.le_of_ble_eq_true rfl, Nat.le_of_ble_eq_true rfl⟩).run (fun r hr9 => ?_)
  have hq9 : r = nI 0 := hr9.trans (at0 _)
  subst hq9
  refine lv_i2l (v := (nI 0).toInt64) hx hb dL_value_8 rfl ?_
  refine q_last hx hb hK ho9 0 rfl (by decide) (by decide) hS hAo dL_value_9 (fun H1 locs1 ho9 hz oq hS => ?_)
  refine lv_goto (tgt := 17) hx hb dL_value_10 (by decide) ?_
  refine lv_iconst (v := nI 0) hx hb dL_value_17 (by decide) ?_
  refine W.widen (k := 1) (n := 6) (by first | omega | decide) (by first | omega | decide) ?_
  have ht9 : tw_value (nI k1) (nI k2) = nI 0 := by unfold tw_value; rw [if_neg c1, if_neg c2]
  exact W.iret (v := nI 0) hx hb hr (fun t ht _ => ⟨⟨nI 0, (), rfl, ht9.symm, by dsimp only; rw [ht]; exact ⟨_, ho9, fun _ => by dsimp only [vp_updL, vf_upd]; rfl⟩⟩, by subst hAe; exact hS.F ht⟩) (by subst hAe; exact hS.2.2) dL_value_18

set_option maxHeartbeats 4000000 in
set_option maxRecDepth 100000 in
theorem wr_area (l : Launch) (hlt : l.stackTraces = false) (D : va_G) (T : Nat → ClassId) (N0 sz o : Nat) (ad : Nat → Nat) (f : Nat → Int64) (x1 x2 : Int32) (hN : ∀ i : Nat, i < 37 → N0 ≤ ad i) (hNs : N0 ≤ sz) (hoa : ∀ i : Nat, i < 37 → o ≠ ad i) : Met l yL_area wsL_area ({ frames := 8, cells := 1, slots := 6, locals := 127 }) (cW D T N0 [.ref (ad 0), .int x1, .int x2, .ref o] (fun H => H.size = sz ∧ PLW D T ad zz2 zz2 sr0 zr0 H ∧ pAt D H o (eL (T 6) 1 f))) (va_Qi (fun (r : Int32) (_ : Unit) => r = tw_area x1 x2) (fun _ t => LO D T o (tw_area x1 x2) ((nI 0).toInt64) t.heap) (WA ad o sz)) 1 6 (WA ad o sz) := by
  refine q_ofWH (cc := cL_area) (maxL := 5) (ret := (some .int)) (hh := [(0, 10, 13, 13)]) (by decide) rfl ?_
  intro p e s m args below meth c s₁ B hml hv9
  obtain ⟨⟨rfl, hK, ⟨hsz, hw, ho9⟩, hKX⟩, hNc⟩ := hv9
  have hx := B.exec
  have hb := B.bytes
  have hr := B.returns
  have hts := atoms_spec (ws := wsL_area) B.pre
  have hown : s.vm.findClass RL = some m.cls := findClass_of_methodNamed B.named
  have hlocks := B.notSynchronized
  have htab := vx_table (x := yL_area) B (hts _ List.mem_cons_self)
  generalize hAe : WA ad o sz = A
  have hAs : ∀ q : Nat, SA ad s.heap.size q → A q := fun q h9 => by subst hAe; exact h9.elim Or.inl (fun h8 => Or.inr (Or.inr (by omega)))
  have hAn : ∀ q : Nat, s.heap.size ≤ q → A q := fun q h9 => hAs q (Or.inr h9)
  have hAp : ∀ q : Nat, PLA ad q → A q := fun q h9 => hAs q (Or.inl h9)
  have hAo : A o := by subst hAe; exact Or.inr (Or.inl rfl)
  have hno : ¬ s.heap.size ≤ o := by have h8 := ho9.lt; omega
  have hnq : ¬ PLA ad o := fun ⟨i, hi, h8⟩ => hoa i hi h8
  have hnp : ¬ SA ad s.heap.size o := fun h9 => h9.elim hnq hno
  have hS : va_S A s.heap s.heap [] := va_S.rf
  have hl := lv_entry ([.ref (ad 0), .int x1, .int x2, .ref o]) (n := 5) (Nat.le_of_ble_eq_true rfl)
  rw [lg_entry_eq]
  generalize (lg_sl ([.ref (ad 0), .int x1, .int x2, .ref o]) ++ List.replicate (5 - (lg_sl ([.ref (ad 0), .int x1, .int x2, .ref o])).length) Slot.unset).toArray = ls at hl ⊢
  have hl : lv_has ls 5 [(0, .ref (ad 0)), (1, .int x1), (2, .int x2), (3, .ref o)] := hl
  by_cases c1 : inM x1 (nI 0) (nI 4) = 0
  · skip
    refine lv_aload_n hx hb dL_area_0 rfl (lv_at hl 3 rfl) ?_
    refine lv_iconst (v := nI 0) hx hb dL_area_1 (by decide) ?_
    refine lv_aload_n hx hb dL_area_2 rfl (lv_at hl 0 rfl) ?_
    refine lv_iload_n hx hb dL_area_3 rfl (lv_at hl 1 rfl) ?_
    refine lv_iload_n hx hb dL_area_4 rfl (lv_at hl 2 rfl) ?_
    exact vx_callv (vx_runV (As := [.int x1, .int x2]) (rest := [.int (nI 0), .ref o]) ⟨hx, hb, hml, hown, hts⟩ (thX3_area_1 l hlt D T s.heap.size ad zz2 zz2 sr0 zr0 x1 x2 (bad1 (by decide) c1)) (cwV 2 hts gL_area_X3_area rfl rfl rfl (by decide +kernel) ⟨Nat.le_of_ble_eq_true rfl, Nat.le_of_ble_eq_true rfl⟩) (preXV hK (hKX.up (by omega)) rfl hw.o rfl hw) rfl rfl hl.1 rfl (lv_room (Nat.le_of_ble_eq_true rfl)) dL_area_5 ⟨Nat.le_of_ble_eq_true rfl, Nat.le_of_ble_eq_true rfl⟩) hS (fun q _ h9 => hAn q h9) (fun q h9 => hAn q h9) (fun q _ h9 => hAn q h9) (fun E ce q9 u t H1 locs1 ht hvm _ hE hz hk hS hce hcv hcl => by
      subst hE
      refine vx_catch (own := RL) (name := IOB) hown [] ⟨0, 10, 13, 13⟩ [] htab (fun z hz => absurd hz List.not_mem_nil) (by decide) (by decide) (hts (.classLink RL 13 IOB) (by decide +kernel)) (va_Nw.use rfl hKX.1.2.1.2) hce hcv hcl ?_
      refine lv_astore (lv' := [(4, .ref q9), (0, .ref (ad 0)), (1, .int x1), (2, .int x2), (3, .ref o)]) hx hb dL_area_13 hl (by decide) rfl (fun ls hl => ?_)
      refine lv_iconst (v := nI 1) hx hb dL_area_15 (by decide) ?_
      refine W.widen (k := 1) (n := 6) (by first | omega | decide) (by first | omega | decide) ?_
      have ho9 := ho9.kept (hk _ ho9.lt (fun h9 => hno h9))
      have ht9 : tw_area x1 x2 = nI 1 := by unfold tw_area; rw [if_pos c1]
      exact W.iret (v := nI 1) hx hb hr (fun t ht _ => ⟨⟨nI 1, (), rfl, ht9.symm, by dsimp only; rw [ht]; exact ⟨f, ho9, fun h9 => absurd (ht9.symm.trans h9) (by decide)⟩⟩, by subst hAe; exact hS.F ht⟩) (by subst hAe; exact hS.2.2) dL_area_16
      ) (fun u t H1 locs1 ht hvm hf => hf.elim)
  obtain ⟨k1, hk1, rfl⟩ := inM_ok (n := 4) (by decide) c1
  by_cases c2 : inM x2 (nI 0) (nI 7) = 0
  · skip
    refine lv_aload_n hx hb dL_area_0 rfl (lv_at hl 3 rfl) ?_
    refine lv_iconst (v := nI 0) hx hb dL_area_1 (by decide) ?_
    refine lv_aload_n hx hb dL_area_2 rfl (lv_at hl 0 rfl) ?_
    refine lv_iload_n hx hb dL_area_3 rfl (lv_at hl 1 rfl) ?_
    refine lv_iload_n hx hb dL_area_4 rfl (lv_at hl 2 rfl) ?_
    exact vx_callv (vx_runV (As := [.int (nI k1), .int x2]) (rest := [.int (nI 0), .ref o]) ⟨hx, hb, hml, hown, hts⟩ (thX3_area_2 l hlt D T s.heap.size ad zz2 zz2 sr0 zr0 k1 x2 (by omega) (bad1 (by decide) c2)) (cwV 2 hts gL_area_X3_area rfl rfl rfl (by decide +kernel) ⟨Nat.le_of_ble_eq_true rfl, Nat.le_of_ble_eq_true rfl⟩) (preXV hK (hKX.up (by omega)) rfl hw.o rfl hw) rfl rfl hl.1 rfl (lv_room (Nat.le_of_ble_eq_true rfl)) dL_area_5 ⟨Nat.le_of_ble_eq_true rfl, Nat.le_of_ble_eq_true rfl⟩) hS (fun q _ h9 => hAn q h9) (fun q h9 => hAn q h9) (fun q _ h9 => hAn q h9) (fun E ce q9 u t H1 locs1 ht hvm _ hE hz hk hS hce hcv hcl => by
      subst hE
      refine vx_catch (own := RL) (name := IOB) hown [] ⟨0, 10, 13, 13⟩ [] htab (fun z hz => absurd hz List.not_mem_nil) (by decide) (by decide) (hts (.classLink RL 13 IOB) (by decide +kernel)) (va_Nw.use rfl hKX.1.2.1.2) hce hcv hcl ?_
      refine lv_astore (lv' := [(4, .ref q9), (0, .ref (ad 0)), (1, .int (nI k1)), (2, .int x2), (3, .ref o)]) hx hb dL_area_13 hl (by decide) rfl (fun ls hl => ?_)
      refine lv_iconst (v := nI 1) hx hb dL_area_15 (by decide) ?_
      refine W.widen (k := 1) (n := 6) (by first | omega | decide) (by first | omega | decide) ?_
      have ho9 := ho9.kept (hk _ ho9.lt (fun h9 => hno h9))
      have ht9 : tw_area (nI k1) x2 = nI 1 := by unfold tw_area; rw [if_neg c1, if_pos c2]
      exact W.iret (v := nI 1) hx hb hr (fun t ht _ => ⟨⟨nI 1, (), rfl, ht9.symm, by dsimp only; rw [ht]; exact ⟨f, ho9, fun h9 => absurd (ht9.symm.trans h9) (by decide)⟩⟩, by subst hAe; exact hS.F ht⟩) (by subst hAe; exact hS.2.2) dL_area_16
      ) (fun u t H1 locs1 ht hvm hf => hf.elim)
  obtain ⟨k2, hk2, rfl⟩ := inM_ok (n := 7) (by decide) c2
  refine lv_aload_n hx hb dL_area_0 rfl (lv_at hl 3 rfl) ?_
  refine lv_iconst (v := nI 0) hx hb dL_area_1 (by decide) ?_
  refine lv_aload_n hx hb dL_area_2 rfl (lv_at hl 0 rfl) ?_
  refine lv_iload_n hx hb dL_area_3 rfl (lv_at hl 1 rfl) ?_
  refine lv_iload_n hx hb dL_area_4 rfl (lv_at hl 2 rfl) ?_
  refine vp_callSi (va_runV (As := [.int (nI k1), .int (nI k2)]) (rest := [.int (nI 0), .ref o]) ⟨hx, hb, hml, hown, hts⟩ (conX3_area l D T ad zz2 zz2 sr0 zr0 k1 (by omega) k2 (by omega)) (cwV 2 hts gL_area_X3_area rfl rfl rfl (by decide +kernel) ⟨Nat.le_of_ble_eq_true rfl, Nat.le_of_ble_eq_true rfl⟩) (preV hK hw.o rfl hw) rfl rfl hl.1 rfl (lv_room (Nat.le_of_ble_eq_true rfl)) dL_area_5 ⟨Nat.le_of_ble_eq_true rfl, Nat.le_of_ble_eq_true rfl⟩).run (fun r hr9 => ?_)
  have hq9 : r = nI 0 := hr9.trans (aro_0 100)
  subst hq9
  refine lv_i2l (v := (nI 0).toInt64) hx hb dL_area_8 rfl ?_
  refine q_last hx hb hK ho9 0 rfl (by decide) (by decide) hS hAo dL_area_9 (fun H1 locs1 ho9 hz oq hS => ?_)
  refine lv_goto (tgt := 17) hx hb dL_area_10 (by decide) ?_
  refine lv_iconst (v := nI 0) hx hb dL_area_17 (by decide) ?_
  refine W.widen (k := 1) (n := 6) (by first | omega | decide) (by first | omega | decide) ?_
  have ht9 : tw_area (nI k1) (nI k2) = nI 0 := by unfold tw_area; rw [if_neg c1, if_neg c2]
  exact W.iret (v := nI 0) hx hb hr (fun t ht _ => ⟨⟨nI 0, (), rfl, ht9.symm, by dsimp only; rw [ht]; exact ⟨_, ho9, fun _ => by dsimp only [vp_updL, vf_upd]; rfl⟩⟩, by subst hAe; exact hS.F ht⟩) (by subst hAe; exact hS.2.2) dL_area_18

set_option maxHeartbeats 4000000 in
set_option maxRecDepth 100000 in
theorem wr_mean (l : Launch) (hlt : l.stackTraces = false) (D : va_G) (T : Nat → ClassId) (N0 sz o : Nat) (ad : Nat → Nat) (f : Nat → UInt64) (x1 x2 : Int32) (hN : ∀ i : Nat, i < 37 → N0 ≤ ad i) (hNs : N0 ≤ sz) (hoa : ∀ i : Nat, i < 37 → o ≠ ad i) : Met l yL_mean wsL_mean ({ frames := 8, cells := 1, slots := 6, locals := 129 }) (cW D T N0 [.ref (ad 0), .int x1, .int x2, .ref o] (fun H => H.size = sz ∧ PLW D T ad zz2 zz2 sr0 zr0 H ∧ pAt D H o (eD (T 7) 1 f))) (va_Qi (fun (r : Int32) (_ : Unit) => r = tw_mean x1 x2) (fun _ t => LD D T o (tw_mean x1 x2) (FP.dconst0) t.heap) (WA ad o sz)) 1 6 (WA ad o sz) := by
  refine q_ofWH (cc := cL_mean) (maxL := 5) (ret := (some .int)) (hh := [(0, 9, 12, 13)]) (by decide) rfl ?_
  intro p e s m args below meth c s₁ B hml hv9
  obtain ⟨⟨rfl, hK, ⟨hsz, hw, ho9⟩, hKX⟩, hNc⟩ := hv9
  have hx := B.exec
  have hb := B.bytes
  have hr := B.returns
  have hts := atoms_spec (ws := wsL_mean) B.pre
  have hown : s.vm.findClass RL = some m.cls := findClass_of_methodNamed B.named
  have hlocks := B.notSynchronized
  have htab := vx_table (x := yL_mean) B (hts _ List.mem_cons_self)
  generalize hAe : WA ad o sz = A
  have hAs : ∀ q : Nat, SA ad s.heap.size q → A q := fun q h9 => by subst hAe; exact h9.elim Or.inl (fun h8 => Or.inr (Or.inr (by omega)))
  have hAn : ∀ q : Nat, s.heap.size ≤ q → A q := fun q h9 => hAs q (Or.inr h9)
  have hAp : ∀ q : Nat, PLA ad q → A q := fun q h9 => hAs q (Or.inl h9)
  have hAo : A o := by subst hAe; exact Or.inr (Or.inl rfl)
  have hno : ¬ s.heap.size ≤ o := by have h8 := ho9.lt; omega
  have hnq : ¬ PLA ad o := fun ⟨i, hi, h8⟩ => hoa i hi h8
  have hnp : ¬ SA ad s.heap.size o := fun h9 => h9.elim hnq hno
  have hS : va_S A s.heap s.heap [] := va_S.rf
  have hl := lv_entry ([.ref (ad 0), .int x1, .int x2, .ref o]) (n := 5) (Nat.le_of_ble_eq_true rfl)
  rw [lg_entry_eq]
  generalize (lg_sl ([.ref (ad 0), .int x1, .int x2, .ref o]) ++ List.replicate (5 - (lg_sl ([.ref (ad 0), .int x1, .int x2, .ref o])).length) Slot.unset).toArray = ls at hl ⊢
  have hl : lv_has ls 5 [(0, .ref (ad 0)), (1, .int x1), (2, .int x2), (3, .ref o)] := hl
  by_cases c1 : inM x1 (nI 0) (nI 4) = 0
  · skip
    refine lv_aload_n hx hb dL_mean_0 rfl (lv_at hl 3 rfl) ?_
    refine lv_iconst (v := nI 0) hx hb dL_mean_1 (by decide) ?_
    refine lv_aload_n hx hb dL_mean_2 rfl (lv_at hl 0 rfl) ?_
    refine lv_iload_n hx hb dL_mean_3 rfl (lv_at hl 1 rfl) ?_
    refine lv_iload_n hx hb dL_mean_4 rfl (lv_at hl 2 rfl) ?_
    exact vx_callv (vx_runV (As := [.int x1, .int x2]) (rest := [.int (nI 0), .ref o]) ⟨hx, hb, hml, hown, hts⟩ (thX3_mean_1 l hlt D T s.heap.size ad zz2 zz2 sr0 zr0 x1 x2 (bad1 (by decide) c1)) (cwV 2 hts gL_mean_X3_mean rfl rfl rfl (by decide +kernel) ⟨Nat.le_of_ble_eq_true rfl, Nat.le_of_ble_eq_true rfl⟩) (preXV hK (hKX.up (by omega)) rfl hw.o rfl hw) rfl rfl hl.1 rfl (lv_room (Nat.le_of_ble_eq_true rfl)) dL_mean_5 ⟨Nat.le_of_ble_eq_true rfl, Nat.le_of_ble_eq_true rfl⟩) hS (fun q _ h9 => hAn q h9) (fun q h9 => hAn q h9) (fun q _ h9 => hAn q h9) (fun E ce q9 u t H1 locs1 ht hvm _ hE hz hk hS hce hcv hcl => by
      subst hE
      refine vx_catch (own := RL) (name := IOB) hown [] ⟨0, 9, 12, 13⟩ [] htab (fun z hz => absurd hz List.not_mem_nil) (by decide) (by decide) (hts (.classLink RL 13 IOB) (by decide +kernel)) (va_Nw.use rfl hKX.1.2.1.2) hce hcv hcl ?_
      refine lv_astore (lv' := [(4, .ref q9), (0, .ref (ad 0)), (1, .int x1), (2, .int x2), (3, .ref o)]) hx hb dL_mean_12 hl (by decide) rfl (fun ls hl => ?_)
      refine lv_iconst (v := nI 1) hx hb dL_mean_14 (by decide) ?_
      refine W.widen (k := 1) (n := 6) (by first | omega | decide) (by first | omega | decide) ?_
      have ho9 := ho9.kept (hk _ ho9.lt (fun h9 => hno h9))
      have ht9 : tw_mean x1 x2 = nI 1 := by unfold tw_mean; rw [if_pos c1]
      exact W.iret (v := nI 1) hx hb hr (fun t ht _ => ⟨⟨nI 1, (), rfl, ht9.symm, by dsimp only; rw [ht]; exact ⟨f, ho9, fun h9 => absurd (ht9.symm.trans h9) (by decide)⟩⟩, by subst hAe; exact hS.F ht⟩) (by subst hAe; exact hS.2.2) dL_mean_15
      ) (fun u t H1 locs1 ht hvm hf => hf.elim)
  obtain ⟨k1, hk1, rfl⟩ := inM_ok (n := 4) (by decide) c1
  by_cases c2 : inM x2 (nI 0) (nI 7) = 0
  · skip
    refine lv_aload_n hx hb dL_mean_0 rfl (lv_at hl 3 rfl) ?_
    refine lv_iconst (v := nI 0) hx hb dL_mean_1 (by decide) ?_
    refine lv_aload_n hx hb dL_mean_2 rfl (lv_at hl 0 rfl) ?_
    refine lv_iload_n hx hb dL_mean_3 rfl (lv_at hl 1 rfl) ?_
    refine lv_iload_n hx hb dL_mean_4 rfl (lv_at hl 2 rfl) ?_
    exact vx_callv (vx_runV (As := [.int (nI k1), .int x2]) (rest := [.int (nI 0), .ref o]) ⟨hx, hb, hml, hown, hts⟩ (thX3_mean_2 l hlt D T s.heap.size ad zz2 zz2 sr0 zr0 k1 x2 (by omega) (bad1 (by decide) c2)) (cwV 2 hts gL_mean_X3_mean rfl rfl rfl (by decide +kernel) ⟨Nat.le_of_ble_eq_true rfl, Nat.le_of_ble_eq_true rfl⟩) (preXV hK (hKX.up (by omega)) rfl hw.o rfl hw) rfl rfl hl.1 rfl (lv_room (Nat.le_of_ble_eq_true rfl)) dL_mean_5 ⟨Nat.le_of_ble_eq_true rfl, Nat.le_of_ble_eq_true rfl⟩) hS (fun q _ h9 => hAn q h9) (fun q h9 => hAn q h9) (fun q _ h9 => hAn q h9) (fun E ce q9 u t H1 locs1 ht hvm _ hE hz hk hS hce hcv hcl => by
      subst hE
      refine vx_catch (own := RL) (name := IOB) hown [] ⟨0, 9, 12, 13⟩ [] htab (fun z hz => absurd hz List.not_mem_nil) (by decide) (by decide) (hts (.classLink RL 13 IOB) (by decide +kernel)) (va_Nw.use rfl hKX.1.2.1.2) hce hcv hcl ?_
      refine lv_astore (lv' := [(4, .ref q9), (0, .ref (ad 0)), (1, .int (nI k1)), (2, .int x2), (3, .ref o)]) hx hb dL_mean_12 hl (by decide) rfl (fun ls hl => ?_)
      refine lv_iconst (v := nI 1) hx hb dL_mean_14 (by decide) ?_
      refine W.widen (k := 1) (n := 6) (by first | omega | decide) (by first | omega | decide) ?_
      have ho9 := ho9.kept (hk _ ho9.lt (fun h9 => hno h9))
      have ht9 : tw_mean (nI k1) x2 = nI 1 := by unfold tw_mean; rw [if_neg c1, if_pos c2]
      exact W.iret (v := nI 1) hx hb hr (fun t ht _ => ⟨⟨nI 1, (), rfl, ht9.symm, by dsimp only; rw [ht]; exact ⟨f, ho9, fun h9 => absurd (ht9.symm.trans h9) (by decide)⟩⟩, by subst hAe; exact hS.F ht⟩) (by subst hAe; exact hS.2.2) dL_mean_15
      ) (fun u t H1 locs1 ht hvm hf => hf.elim)
  obtain ⟨k2, hk2, rfl⟩ := inM_ok (n := 7) (by decide) c2
  refine lv_aload_n hx hb dL_mean_0 rfl (lv_at hl 3 rfl) ?_
  refine lv_iconst (v := nI 0) hx hb dL_mean_1 (by decide) ?_
  refine lv_aload_n hx hb dL_mean_2 rfl (lv_at hl 0 rfl) ?_
  refine lv_iload_n hx hb dL_mean_3 rfl (lv_at hl 1 rfl) ?_
  refine lv_iload_n hx hb dL_mean_4 rfl (lv_at hl 2 rfl) ?_
  refine vp_callSd (va_runV (As := [.int (nI k1), .int (nI k2)]) (rest := [.int (nI 0), .ref o]) ⟨hx, hb, hml, hown, hts⟩ (conX3_mean l D T ad zz2 zz2 sr0 zr0 k1 (by omega) k2 (by omega) (len_z 100)) (cwV 2 hts gL_mean_X3_mean rfl rfl rfl (by decide +kernel) ⟨Nat.le_of_ble_eq_true rfl, Nat.le_of_ble_eq_true rfl⟩) (preV hK hw.o rfl hw) rfl rfl hl.1 rfl (lv_room (Nat.le_of_ble_eq_true rfl)) dL_mean_5 ⟨Nat.le_of_ble_eq_true rfl, Nat.le_of_ble_eq_true rfl⟩).run (fun r hr9 => ?_)
  have hq9 : r = FP.dconst0 := hr9.trans (rfl)
  subst hq9
  refine q_dast hx hb hK ho9 0 rfl (by decide) (by decide) hS hAo dL_mean_8 (fun H1 locs1 ho9 hz oq hS => ?_)
  refine lv_goto (tgt := 16) hx hb dL_mean_9 (by decide) ?_
  refine lv_iconst (v := nI 0) hx hb dL_mean_16 (by decide) ?_
  refine W.widen (k := 1) (n := 6) (by first | omega | decide) (by first | omega | decide) ?_
  have ht9 : tw_mean (nI k1) (nI k2) = nI 0 := by unfold tw_mean; rw [if_neg c1, if_neg c2]
  exact W.iret (v := nI 0) hx hb hr (fun t ht _ => ⟨⟨nI 0, (), rfl, ht9.symm, by dsimp only; rw [ht]; exact ⟨_, ho9, fun _ => by dsimp only [vp_updL, vf_upd]; rfl⟩⟩, by subst hAe; exact hS.F ht⟩) (by subst hAe; exact hS.2.2) dL_mean_17

set_option maxHeartbeats 4000000 in
set_option maxRecDepth 100000 in
theorem wr_thicker (l : Launch) (hlt : l.stackTraces = false) (D : va_G) (T : Nat → ClassId) (N0 sz o : Nat) (ad : Nat → Nat) (f : Nat → Int64) (x1 x2 : Int32) (hN : ∀ i : Nat, i < 37 → N0 ≤ ad i) (hNs : N0 ≤ sz) (hoa : ∀ i : Nat, i < 37 → o ≠ ad i) : Met l yL_thicker wsL_thicker ({ frames := 8, cells := 1, slots := 6, locals := 124 }) (cW D T N0 [.ref (ad 0), .int x1, .int x2, .ref o] (fun H => H.size = sz ∧ PLW D T ad zz2 zz2 sr0 zr0 H ∧ pAt D H o (eL (T 6) 1 f))) (va_Qi (fun (r : Int32) (_ : Unit) => r = tw_thicker x1 x2) (fun _ t => LO D T o (tw_thicker x1 x2) ((thkM x2 201).toInt64) t.heap) (WA ad o sz)) 1 6 (WA ad o sz) := by
  refine q_ofWH (cc := cL_thicker) (maxL := 5) (ret := (some .int)) (hh := [(0, 10, 13, 15)]) (by decide) rfl ?_
  intro p e s m args below meth c s₁ B hml hv9
  obtain ⟨⟨rfl, hK, ⟨hsz, hw, ho9⟩, hKX⟩, hNc⟩ := hv9
  have hx := B.exec
  have hb := B.bytes
  have hr := B.returns
  have hts := atoms_spec (ws := wsL_thicker) B.pre
  have hown : s.vm.findClass RL = some m.cls := findClass_of_methodNamed B.named
  have hlocks := B.notSynchronized
  have htab := vx_table (x := yL_thicker) B (hts _ List.mem_cons_self)
  generalize hAe : WA ad o sz = A
  have hAs : ∀ q : Nat, SA ad s.heap.size q → A q := fun q h9 => by subst hAe; exact h9.elim Or.inl (fun h8 => Or.inr (Or.inr (by omega)))
  have hAn : ∀ q : Nat, s.heap.size ≤ q → A q := fun q h9 => hAs q (Or.inr h9)
  have hAp : ∀ q : Nat, PLA ad q → A q := fun q h9 => hAs q (Or.inl h9)
  have hAo : A o := by subst hAe; exact Or.inr (Or.inl rfl)
  have hno : ¬ s.heap.size ≤ o := by have h8 := ho9.lt; omega
  have hnq : ¬ PLA ad o := fun ⟨i, hi, h8⟩ => hoa i hi h8
  have hnp : ¬ SA ad s.heap.size o := fun h9 => h9.elim hnq hno
  have hS : va_S A s.heap s.heap [] := va_S.rf
  have hl := lv_entry ([.ref (ad 0), .int x1, .int x2, .ref o]) (n := 5) (Nat.le_of_ble_eq_true rfl)
  rw [lg_entry_eq]
  generalize (lg_sl ([.ref (ad 0), .int x1, .int x2, .ref o]) ++ List.replicate (5 - (lg_sl ([.ref (ad 0), .int x1, .int x2, .ref o])).length) Slot.unset).toArray = ls at hl ⊢
  have hl : lv_has ls 5 [(0, .ref (ad 0)), (1, .int x1), (2, .int x2), (3, .ref o)] := hl
  by_cases c1 : inM x1 (nI 0) (nI 255) = 0
  · skip
    refine lv_aload_n hx hb dL_thicker_0 rfl (lv_at hl 3 rfl) ?_
    refine lv_iconst (v := nI 0) hx hb dL_thicker_1 (by decide) ?_
    refine lv_aload_n hx hb dL_thicker_2 rfl (lv_at hl 0 rfl) ?_
    refine lv_iload_n hx hb dL_thicker_3 rfl (lv_at hl 1 rfl) ?_
    refine lv_iload_n hx hb dL_thicker_4 rfl (lv_at hl 2 rfl) ?_
    exact vx_callv (vx_runV (As := [.int x1, .int x2]) (rest := [.int (nI 0), .ref o]) ⟨hx, hb, hml, hown, hts⟩ (thX3_thicker_1 l hlt D T s.heap.size ad zz2 zz2 sr0 zr0 x1 x2 (bad3 c1)) (cwV 2 hts gL_thicker_X3_thicker rfl rfl rfl (by decide +kernel) ⟨Nat.le_of_ble_eq_true rfl, Nat.le_of_ble_eq_true rfl⟩) (preXV hK (hKX.up (by omega)) rfl hw.o rfl hw) rfl rfl hl.1 rfl (lv_room (Nat.le_of_ble_eq_true rfl)) dL_thicker_5 ⟨Nat.le_of_ble_eq_true rfl, Nat.le_of_ble_eq_true rfl⟩) hS (fun q _ h9 => hAn q h9) (fun q h9 => hAn q h9) (fun q _ h9 => hAn q h9) (fun E ce q9 u t H1 locs1 ht hvm _ hE hz hk hS hce hcv hcl => by
      subst hE
      refine vx_catch (own := RL) (name := IAE) hown [] ⟨0, 10, 13, 15⟩ [] htab (fun z hz => absurd hz List.not_mem_nil) (by decide) (by decide) (hts (.classLink RL 15 IAE) (by decide +kernel)) (va_Nw.use rfl hKX.1.2.1.1) hce hcv hcl ?_
      refine lv_astore (lv' := [(4, .ref q9), (0, .ref (ad 0)), (1, .int x1), (2, .int x2), (3, .ref o)]) hx hb dL_thicker_13 hl (by decide) rfl (fun ls hl => ?_)
      refine lv_iconst (v := nI 1) hx hb dL_thicker_15 (by decide) ?_
      refine W.widen (k := 1) (n := 6) (by first | omega | decide) (by first | omega | decide) ?_
      have ho9 := ho9.kept (hk _ ho9.lt (fun h9 => hno h9))
      have ht9 : tw_thicker x1 x2 = nI 1 := by unfold tw_thicker; rw [if_pos c1]
      exact W.iret (v := nI 1) hx hb hr (fun t ht _ => ⟨⟨nI 1, (), rfl, ht9.symm, by dsimp only; rw [ht]; exact ⟨f, ho9, fun h9 => absurd (ht9.symm.trans h9) (by decide)⟩⟩, by subst hAe; exact hS.F ht⟩) (by subst hAe; exact hS.2.2) dL_thicker_16
      ) (fun u t H1 locs1 ht hvm hf => hf.elim)
  obtain ⟨k1, hk1, rfl⟩ := inM_ok (n := 255) (by decide) c1
  refine lv_aload_n hx hb dL_thicker_0 rfl (lv_at hl 3 rfl) ?_
  refine lv_iconst (v := nI 0) hx hb dL_thicker_1 (by decide) ?_
  refine lv_aload_n hx hb dL_thicker_2 rfl (lv_at hl 0 rfl) ?_
  refine lv_iload_n hx hb dL_thicker_3 rfl (lv_at hl 1 rfl) ?_
  refine lv_iload_n hx hb dL_thicker_4 rfl (lv_at hl 2 rfl) ?_
  refine vp_callSi (va_runV (As := [.int (nI k1), .int x2]) (rest := [.int (nI 0), .ref o]) ⟨hx, hb, hml, hown, hts⟩ (conX3_thicker l D T ad zz2 zz2 sr0 zr0 k1 x2 (by omega)) (cwV 2 hts gL_thicker_X3_thicker rfl rfl rfl (by decide +kernel) ⟨Nat.le_of_ble_eq_true rfl, Nat.le_of_ble_eq_true rfl⟩) (preV hK hw.o rfl hw) rfl rfl hl.1 rfl (lv_room (Nat.le_of_ble_eq_true rfl)) dL_thicker_5 ⟨Nat.le_of_ble_eq_true rfl, Nat.le_of_ble_eq_true rfl⟩).run (fun r hr9 => ?_)
  have hq9 : r = thkM x2 201 := hr9.trans (cth_0 k1 x2 201)
  subst hq9
  refine lv_i2l (v := (thkM x2 201).toInt64) hx hb dL_thicker_8 rfl ?_
  refine q_last hx hb hK ho9 0 rfl (by decide) (by decide) hS hAo dL_thicker_9 (fun H1 locs1 ho9 hz oq hS => ?_)
  refine lv_goto (tgt := 17) hx hb dL_thicker_10 (by decide) ?_
  refine lv_iconst (v := nI 0) hx hb dL_thicker_17 (by decide) ?_
  refine W.widen (k := 1) (n := 6) (by first | omega | decide) (by first | omega | decide) ?_
  have ht9 : tw_thicker (nI k1) x2 = nI 0 := by unfold tw_thicker; rw [if_neg c1]
  exact W.iret (v := nI 0) hx hb hr (fun t ht _ => ⟨⟨nI 0, (), rfl, ht9.symm, by dsimp only; rw [ht]; exact ⟨_, ho9, fun _ => by dsimp only [vp_updL, vf_upd]; rfl⟩⟩, by subst hAe; exact hS.F ht⟩) (by subst hAe; exact hS.2.2) dL_thicker_18

set_option maxHeartbeats 4000000 in
set_option maxRecDepth 100000 in
theorem wr_cover (l : Launch) (hlt : l.stackTraces = false) (D : va_G) (T : Nat → ClassId) (N0 sz o : Nat) (ad : Nat → Nat) (f : Nat → Int64) (x1 x2 : Int32) (hN : ∀ i : Nat, i < 37 → N0 ≤ ad i) (hNs : N0 ≤ sz) (hoa : ∀ i : Nat, i < 37 → o ≠ ad i) : Met l yL_cover wsL_cover ({ frames := 8, cells := 1, slots := 6, locals := 127 }) (cW D T N0 [.ref (ad 0), .int x1, .int x2, .ref o] (fun H => H.size = sz ∧ PLW D T ad zz2 zz2 sr0 zr0 H ∧ pAt D H o (eL (T 6) 1 f))) (va_Qi (fun (r : Int32) (_ : Unit) => r = tw_cover x1 x2) (fun _ t => LO D T o (tw_cover x1 x2) ((nI 0).toInt64) t.heap) (WA ad o sz)) 1 6 (WA ad o sz) := by
  refine q_ofWH (cc := cL_cover) (maxL := 5) (ret := (some .int)) (hh := [(0, 10, 13, 13), (0, 10, 17, 15)]) (by decide) rfl ?_
  intro p e s m args below meth c s₁ B hml hv9
  obtain ⟨⟨rfl, hK, ⟨hsz, hw, ho9⟩, hKX⟩, hNc⟩ := hv9
  have hx := B.exec
  have hb := B.bytes
  have hr := B.returns
  have hts := atoms_spec (ws := wsL_cover) B.pre
  have hown : s.vm.findClass RL = some m.cls := findClass_of_methodNamed B.named
  have hlocks := B.notSynchronized
  have htab := vx_table (x := yL_cover) B (hts _ List.mem_cons_self)
  generalize hAe : WA ad o sz = A
  have hAs : ∀ q : Nat, SA ad s.heap.size q → A q := fun q h9 => by subst hAe; exact h9.elim Or.inl (fun h8 => Or.inr (Or.inr (by omega)))
  have hAn : ∀ q : Nat, s.heap.size ≤ q → A q := fun q h9 => hAs q (Or.inr h9)
  have hAp : ∀ q : Nat, PLA ad q → A q := fun q h9 => hAs q (Or.inl h9)
  have hAo : A o := by subst hAe; exact Or.inr (Or.inl rfl)
  have hno : ¬ s.heap.size ≤ o := by have h8 := ho9.lt; omega
  have hnq : ¬ PLA ad o := fun ⟨i, hi, h8⟩ => hoa i hi h8
  have hnp : ¬ SA ad s.heap.size o := fun h9 => h9.elim hnq hno
  have hS : va_S A s.heap s.heap [] := va_S.rf
  have hl := lv_entry ([.ref (ad 0), .int x1, .int x2, .ref o]) (n := 5) (Nat.le_of_ble_eq_true rfl)
  rw [lg_entry_eq]
  generalize (lg_sl ([.ref (ad 0), .int x1, .int x2, .ref o]) ++ List.replicate (5 - (lg_sl ([.ref (ad 0), .int x1, .int x2, .ref o])).length) Slot.unset).toArray = ls at hl ⊢
  have hl : lv_has ls 5 [(0, .ref (ad 0)), (1, .int x1), (2, .int x2), (3, .ref o)] := hl
  by_cases c1 : inM x2 (nI 0) (nI 7) = 0
  · skip
    refine lv_aload_n hx hb dL_cover_0 rfl (lv_at hl 3 rfl) ?_
    refine lv_iconst (v := nI 0) hx hb dL_cover_1 (by decide) ?_
    refine lv_aload_n hx hb dL_cover_2 rfl (lv_at hl 0 rfl) ?_
    refine lv_iload_n hx hb dL_cover_3 rfl (lv_at hl 1 rfl) ?_
    refine lv_iload_n hx hb dL_cover_4 rfl (lv_at hl 2 rfl) ?_
    exact vx_callv (vx_runV (As := [.int x1, .int x2]) (rest := [.int (nI 0), .ref o]) ⟨hx, hb, hml, hown, hts⟩ (thX3_cover_1 l hlt D T s.heap.size ad zz2 zz2 sr0 zr0 x1 x2 (bad1 (by decide) c1)) (cwV 2 hts gL_cover_X3_cover rfl rfl rfl (by decide +kernel) ⟨Nat.le_of_ble_eq_true rfl, Nat.le_of_ble_eq_true rfl⟩) (preXV hK (hKX.up (by omega)) rfl hw.o rfl hw) rfl rfl hl.1 rfl (lv_room (Nat.le_of_ble_eq_true rfl)) dL_cover_5 ⟨Nat.le_of_ble_eq_true rfl, Nat.le_of_ble_eq_true rfl⟩) hS (fun q _ h9 => hAn q h9) (fun q h9 => hAn q h9) (fun q _ h9 => hAn q h9) (fun E ce q9 u t H1 locs1 ht hvm _ hE hz hk hS hce hcv hcl => by
      subst hE
      refine vx_catch (own := RL) (name := IOB) hown [] ⟨0, 10, 13, 13⟩ [⟨0, 10, 17, 15⟩] htab (fun z hz => absurd hz List.not_mem_nil) (by decide) (by decide) (hts (.classLink RL 13 IOB) (by decide +kernel)) (va_Nw.use rfl hKX.1.2.1.2) hce hcv hcl ?_
      refine lv_astore (lv' := [(4, .ref q9), (0, .ref (ad 0)), (1, .int x1), (2, .int x2), (3, .ref o)]) hx hb dL_cover_13 hl (by decide) rfl (fun ls hl => ?_)
      refine lv_iconst (v := nI 1) hx hb dL_cover_15 (by decide) ?_
      refine W.widen (k := 1) (n := 6) (by first | omega | decide) (by first | omega | decide) ?_
      have ho9 := ho9.kept (hk _ ho9.lt (fun h9 => hno h9))
      have ht9 : tw_cover x1 x2 = nI 1 := by unfold tw_cover; rw [if_pos c1]
      exact W.iret (v := nI 1) hx hb hr (fun t ht _ => ⟨⟨nI 1, (), rfl, ht9.symm, by dsimp only; rw [ht]; exact ⟨f, ho9, fun h9 => absurd (ht9.symm.trans h9) (by decide)⟩⟩, by subst hAe; exact hS.F ht⟩) (by subst hAe; exact hS.2.2) dL_cover_16
      ) (fun u t H1 locs1 ht hvm hf => hf.elim)
  obtain ⟨k2, hk2, rfl⟩ := inM_ok (n := 7) (by decide) c1
  by_cases c2 : inM x1 (nI 0) (nI 255) = 0
  · skip
    refine lv_aload_n hx hb dL_cover_0 rfl (lv_at hl 3 rfl) ?_
    refine lv_iconst (v := nI 0) hx hb dL_cover_1 (by decide) ?_
    refine lv_aload_n hx hb dL_cover_2 rfl (lv_at hl 0 rfl) ?_
    refine lv_iload_n hx hb dL_cover_3 rfl (lv_at hl 1 rfl) ?_
    refine lv_iload_n hx hb dL_cover_4 rfl (lv_at hl 2 rfl) ?_
    exact vx_callv (vx_runV (As := [.int x1, .int (nI k2)]) (rest := [.int (nI 0), .ref o]) ⟨hx, hb, hml, hown, hts⟩ (thX3_cover_2 l hlt D T s.heap.size ad zz2 zz2 sr0 zr0 k2 x1 (by omega) (bad3 c2)) (cwV 2 hts gL_cover_X3_cover rfl rfl rfl (by decide +kernel) ⟨Nat.le_of_ble_eq_true rfl, Nat.le_of_ble_eq_true rfl⟩) (preXV hK (hKX.up (by omega)) rfl hw.o rfl hw) rfl rfl hl.1 rfl (lv_room (Nat.le_of_ble_eq_true rfl)) dL_cover_5 ⟨Nat.le_of_ble_eq_true rfl, Nat.le_of_ble_eq_true rfl⟩) hS (fun q _ h9 => hAn q h9) (fun q h9 => hAn q h9) (fun q _ h9 => hAn q h9) (fun E ce q9 u t H1 locs1 ht hvm _ hE hz hk hS hce hcv hcl => by
      subst hE
      refine vx_catch (own := RL) (name := IAE) hown [⟨0, 10, 13, 13⟩] ⟨0, 10, 17, 15⟩ [] htab (fun z hz => by rcases List.mem_cons.mp hz with h8 | h8; rw [h8]; exact Or.inr ⟨by decide, IOB, hts (.classLink RL 13 IOB) (by decide +kernel), hNc⟩; exact absurd h8 List.not_mem_nil) (by decide) (by decide) (hts (.classLink RL 15 IAE) (by decide +kernel)) (va_Nw.use rfl hKX.1.2.1.1) hce hcv hcl ?_
      refine lv_astore (lv' := [(4, .ref q9), (0, .ref (ad 0)), (1, .int x1), (2, .int (nI k2)), (3, .ref o)]) hx hb dL_cover_17 hl (by decide) rfl (fun ls hl => ?_)
      refine lv_iconst (v := nI 2) hx hb dL_cover_19 (by decide) ?_
      refine W.widen (k := 1) (n := 6) (by first | omega | decide) (by first | omega | decide) ?_
      have ho9 := ho9.kept (hk _ ho9.lt (fun h9 => hno h9))
      have ht9 : tw_cover x1 (nI k2) = nI 2 := by unfold tw_cover; rw [if_neg c1, if_pos c2]
      exact W.iret (v := nI 2) hx hb hr (fun t ht _ => ⟨⟨nI 2, (), rfl, ht9.symm, by dsimp only; rw [ht]; exact ⟨f, ho9, fun h9 => absurd (ht9.symm.trans h9) (by decide)⟩⟩, by subst hAe; exact hS.F ht⟩) (by subst hAe; exact hS.2.2) dL_cover_20
      ) (fun u t H1 locs1 ht hvm hf => hf.elim)
  obtain ⟨k1, hk1, rfl⟩ := inM_ok (n := 255) (by decide) c2
  refine lv_aload_n hx hb dL_cover_0 rfl (lv_at hl 3 rfl) ?_
  refine lv_iconst (v := nI 0) hx hb dL_cover_1 (by decide) ?_
  refine lv_aload_n hx hb dL_cover_2 rfl (lv_at hl 0 rfl) ?_
  refine lv_iload_n hx hb dL_cover_3 rfl (lv_at hl 1 rfl) ?_
  refine lv_iload_n hx hb dL_cover_4 rfl (lv_at hl 2 rfl) ?_
  refine vp_callSi (va_runV (As := [.int (nI k1), .int (nI k2)]) (rest := [.int (nI 0), .ref o]) ⟨hx, hb, hml, hown, hts⟩ (conX3_cover l D T ad zz2 zz2 sr0 zr0 k2 k1 (by omega) (by omega) emp0) (cwV 2 hts gL_cover_X3_cover rfl rfl rfl (by decide +kernel) ⟨Nat.le_of_ble_eq_true rfl, Nat.le_of_ble_eq_true rfl⟩) (preV hK hw.o rfl hw) rfl rfl hl.1 rfl (lv_room (Nat.le_of_ble_eq_true rfl)) dL_cover_5 ⟨Nat.le_of_ble_eq_true rfl, Nat.le_of_ble_eq_true rfl⟩).run (fun r hr9 => ?_)
  have hq9 : r = nI 0 := hr9.trans (rfl)
  subst hq9
  refine lv_i2l (v := (nI 0).toInt64) hx hb dL_cover_8 rfl ?_
  refine q_last hx hb hK ho9 0 rfl (by decide) (by decide) hS hAo dL_cover_9 (fun H1 locs1 ho9 hz oq hS => ?_)
  refine lv_goto (tgt := 21) hx hb dL_cover_10 (by decide) ?_
  refine lv_iconst (v := nI 0) hx hb dL_cover_21 (by decide) ?_
  refine W.widen (k := 1) (n := 6) (by first | omega | decide) (by first | omega | decide) ?_
  have ht9 : tw_cover (nI k1) (nI k2) = nI 0 := by unfold tw_cover; rw [if_neg c1, if_neg c2]
  exact W.iret (v := nI 0) hx hb hr (fun t ht _ => ⟨⟨nI 0, (), rfl, ht9.symm, by dsimp only; rw [ht]; exact ⟨_, ho9, fun _ => by dsimp only [vp_updL, vf_upd]; rfl⟩⟩, by subst hAe; exact hS.F ht⟩) (by subst hAe; exact hS.2.2) dL_cover_22

set_option maxHeartbeats 4000000 in
set_option maxRecDepth 100000 in
theorem wr_covers (l : Launch) (hlt : l.stackTraces = false) (D : va_G) (T : Nat → ClassId) (N0 sz o : Nat) (ad : Nat → Nat) (f : Nat → Int64) (x1 x2 x3 : Int32) (hN : ∀ i : Nat, i < 37 → N0 ≤ ad i) (hNs : N0 ≤ sz) (hoa : ∀ i : Nat, i < 37 → o ≠ ad i) : Met l yL_covers wsL_covers ({ frames := 8, cells := 1, slots := 6, locals := 129 }) (cW D T N0 [.ref (ad 0), .int x1, .int x2, .int x3, .ref o] (fun H => H.size = sz ∧ PLW D T ad zz2 zz2 sr0 zr0 H ∧ pAt D H o (eL (T 6) 1 f))) (va_Qi (fun (r : Int32) (_ : Unit) => r = tw_covers x1 x2 x3) (fun _ t => LO D T o (tw_covers x1 x2 x3) ((nI 0).toInt64) t.heap) (WA ad o sz)) 1 6 (WA ad o sz) := by
  refine q_ofWH (cc := cL_covers) (maxL := 6) (ret := (some .int)) (hh := [(0, 12, 15, 13), (0, 12, 19, 15)]) (by decide) rfl ?_
  intro p e s m args below meth c s₁ B hml hv9
  obtain ⟨⟨rfl, hK, ⟨hsz, hw, ho9⟩, hKX⟩, hNc⟩ := hv9
  have hx := B.exec
  have hb := B.bytes
  have hr := B.returns
  have hts := atoms_spec (ws := wsL_covers) B.pre
  have hown : s.vm.findClass RL = some m.cls := findClass_of_methodNamed B.named
  have hlocks := B.notSynchronized
  have htab := vx_table (x := yL_covers) B (hts _ List.mem_cons_self)
  generalize hAe : WA ad o sz = A
  have hAs : ∀ q : Nat, SA ad s.heap.size q → A q := fun q h9 => by subst hAe; exact h9.elim Or.inl (fun h8 => Or.inr (Or.inr (by omega)))
  have hAn : ∀ q : Nat, s.heap.size ≤ q → A q := fun q h9 => hAs q (Or.inr h9)
  have hAp : ∀ q : Nat, PLA ad q → A q := fun q h9 => hAs q (Or.inl h9)
  have hAo : A o := by subst hAe; exact Or.inr (Or.inl rfl)
  have hno : ¬ s.heap.size ≤ o := by have h8 := ho9.lt; omega
  have hnq : ¬ PLA ad o := fun ⟨i, hi, h8⟩ => hoa i hi h8
  have hnp : ¬ SA ad s.heap.size o := fun h9 => h9.elim hnq hno
  have hS : va_S A s.heap s.heap [] := va_S.rf
  have hl := lv_entry ([.ref (ad 0), .int x1, .int x2, .int x3, .ref o]) (n := 6) (Nat.le_of_ble_eq_true rfl)
  rw [lg_entry_eq]
  generalize (lg_sl ([.ref (ad 0), .int x1, .int x2, .int x3, .ref o]) ++ List.replicate (6 - (lg_sl ([.ref (ad 0), .int x1, .int x2, .int x3, .ref o])).length) Slot.unset).toArray = ls at hl ⊢
  have hl : lv_has ls 6 [(0, .ref (ad 0)), (1, .int x1), (2, .int x2), (3, .int x3), (4, .ref o)] := hl
  by_cases c1 : inM x2 (nI 0) (nI 7) = 0
  · skip
    refine lv_aload hx hb dL_covers_0 (lv_at hl 4 rfl) ?_
    refine lv_iconst (v := nI 0) hx hb dL_covers_2 (by decide) ?_
    refine lv_aload_n hx hb dL_covers_3 rfl (lv_at hl 0 rfl) ?_
    refine lv_iload_n hx hb dL_covers_4 rfl (lv_at hl 1 rfl) ?_
    refine lv_iload_n hx hb dL_covers_5 rfl (lv_at hl 2 rfl) ?_
    refine lv_iload_n hx hb dL_covers_6 rfl (lv_at hl 3 rfl) ?_
    exact vx_callv (vx_runV (As := [.int x1, .int x2, .int x3]) (rest := [.int (nI 0), .ref o]) ⟨hx, hb, hml, hown, hts⟩ (thX3_covers_1 l hlt D T s.heap.size ad zz2 zz2 sr0 zr0 x1 x2 x3 (bad1 (by decide) c1)) (cwV 3 hts gL_covers_X3_covers rfl rfl rfl (by decide +kernel) ⟨Nat.le_of_ble_eq_true rfl, Nat.le_of_ble_eq_true rfl⟩) (preXV hK (hKX.up (by omega)) rfl hw.o rfl hw) rfl rfl hl.1 rfl (lv_room (Nat.le_of_ble_eq_true rfl)) dL_covers_7 ⟨Nat.le_of_ble_eq_true rfl, Nat.le_of_ble_eq_true rfl⟩) hS (fun q _ h9 => hAn q h9) (fun q h9 => hAn q h9) (fun q _ h9 => hAn q h9) (fun E ce q9 u t H1 locs1 ht hvm _ hE hz hk hS hce hcv hcl => by
      subst hE
      refine vx_catch (own := RL) (name := IOB) hown [] ⟨0, 12, 15, 13⟩ [⟨0, 12, 19, 15⟩] htab (fun z hz => absurd hz List.not_mem_nil) (by decide) (by decide) (hts (.classLink RL 13 IOB) (by decide +kernel)) (va_Nw.use rfl hKX.1.2.1.2) hce hcv hcl ?_
      refine lv_astore (lv' := [(5, .ref q9), (0, .ref (ad 0)), (1, .int x1), (2, .int x2), (3, .int x3), (4, .ref o)]) hx hb dL_covers_15 hl (by decide) rfl (fun ls hl => ?_)
      refine lv_iconst (v := nI 1) hx hb dL_covers_17 (by decide) ?_
      refine W.widen (k := 1) (n := 6) (by first | omega | decide) (by first | omega | decide) ?_
      have ho9 := ho9.kept (hk _ ho9.lt (fun h9 => hno h9))
      have ht9 : tw_covers x1 x2 x3 = nI 1 := by unfold tw_covers; rw [if_pos c1]
      exact W.iret (v := nI 1) hx hb hr (fun t ht _ => ⟨⟨nI 1, (), rfl, ht9.symm, by dsimp only; rw [ht]; exact ⟨f, ho9, fun h9 => absurd (ht9.symm.trans h9) (by decide)⟩⟩, by subst hAe; exact hS.F ht⟩) (by subst hAe; exact hS.2.2) dL_covers_18
      ) (fun u t H1 locs1 ht hvm hf => hf.elim)
  obtain ⟨k2, hk2, rfl⟩ := inM_ok (n := 7) (by decide) c1
  by_cases c2 : inM x1 (nI 0) (nI 255) = 0
  · skip
    refine lv_aload hx hb dL_covers_0 (lv_at hl 4 rfl) ?_
    refine lv_iconst (v := nI 0) hx hb dL_covers_2 (by decide) ?_
    refine lv_aload_n hx hb dL_covers_3 rfl (lv_at hl 0 rfl) ?_
    refine lv_iload_n hx hb dL_covers_4 rfl (lv_at hl 1 rfl) ?_
    refine lv_iload_n hx hb dL_covers_5 rfl (lv_at hl 2 rfl) ?_
    refine lv_iload_n hx hb dL_covers_6 rfl (lv_at hl 3 rfl) ?_
    exact vx_callv (vx_runV (As := [.int x1, .int (nI k2), .int x3]) (rest := [.int (nI 0), .ref o]) ⟨hx, hb, hml, hown, hts⟩ (thX3_covers_2 l hlt D T s.heap.size ad zz2 zz2 sr0 zr0 k2 x1 x3 (by omega) (bad3 c2)) (cwV 3 hts gL_covers_X3_covers rfl rfl rfl (by decide +kernel) ⟨Nat.le_of_ble_eq_true rfl, Nat.le_of_ble_eq_true rfl⟩) (preXV hK (hKX.up (by omega)) rfl hw.o rfl hw) rfl rfl hl.1 rfl (lv_room (Nat.le_of_ble_eq_true rfl)) dL_covers_7 ⟨Nat.le_of_ble_eq_true rfl, Nat.le_of_ble_eq_true rfl⟩) hS (fun q _ h9 => hAn q h9) (fun q h9 => hAn q h9) (fun q _ h9 => hAn q h9) (fun E ce q9 u t H1 locs1 ht hvm _ hE hz hk hS hce hcv hcl => by
      subst hE
      refine vx_catch (own := RL) (name := IAE) hown [⟨0, 12, 15, 13⟩] ⟨0, 12, 19, 15⟩ [] htab (fun z hz => by rcases List.mem_cons.mp hz with h8 | h8; rw [h8]; exact Or.inr ⟨by decide, IOB, hts (.classLink RL 13 IOB) (by decide +kernel), hNc⟩; exact absurd h8 List.not_mem_nil) (by decide) (by decide) (hts (.classLink RL 15 IAE) (by decide +kernel)) (va_Nw.use rfl hKX.1.2.1.1) hce hcv hcl ?_
      refine lv_astore (lv' := [(5, .ref q9), (0, .ref (ad 0)), (1, .int x1), (2, .int (nI k2)), (3, .int x3), (4, .ref o)]) hx hb dL_covers_19 hl (by decide) rfl (fun ls hl => ?_)
      refine lv_iconst (v := nI 2) hx hb dL_covers_21 (by decide) ?_
      refine W.widen (k := 1) (n := 6) (by first | omega | decide) (by first | omega | decide) ?_
      have ho9 := ho9.kept (hk _ ho9.lt (fun h9 => hno h9))
      have ht9 : tw_covers x1 (nI k2) x3 = nI 2 := by unfold tw_covers; rw [if_neg c1, if_pos c2]
      exact W.iret (v := nI 2) hx hb hr (fun t ht _ => ⟨⟨nI 2, (), rfl, ht9.symm, by dsimp only; rw [ht]; exact ⟨f, ho9, fun h9 => absurd (ht9.symm.trans h9) (by decide)⟩⟩, by subst hAe; exact hS.F ht⟩) (by subst hAe; exact hS.2.2) dL_covers_22
      ) (fun u t H1 locs1 ht hvm hf => hf.elim)
  obtain ⟨k1, hk1, rfl⟩ := inM_ok (n := 255) (by decide) c2
  refine lv_aload hx hb dL_covers_0 (lv_at hl 4 rfl) ?_
  refine lv_iconst (v := nI 0) hx hb dL_covers_2 (by decide) ?_
  refine lv_aload_n hx hb dL_covers_3 rfl (lv_at hl 0 rfl) ?_
  refine lv_iload_n hx hb dL_covers_4 rfl (lv_at hl 1 rfl) ?_
  refine lv_iload_n hx hb dL_covers_5 rfl (lv_at hl 2 rfl) ?_
  refine lv_iload_n hx hb dL_covers_6 rfl (lv_at hl 3 rfl) ?_
  exact vx_callv (vx_runV (As := [.int (nI k1), .int (nI k2), .int x3]) (rest := [.int (nI 0), .ref o]) ⟨hx, hb, hml, hown, hts⟩ (thX3_covers_3 l hlt D T s.heap.size ad zz2 zz2 sr0 zr0 k2 k1 x3 (by omega) (by omega) emp0) (cwV 3 hts gL_covers_X3_covers rfl rfl rfl (by decide +kernel) ⟨Nat.le_of_ble_eq_true rfl, Nat.le_of_ble_eq_true rfl⟩) (preXV hK (hKX.up (by omega)) rfl hw.o rfl hw) rfl rfl hl.1 rfl (lv_room (Nat.le_of_ble_eq_true rfl)) dL_covers_7 ⟨Nat.le_of_ble_eq_true rfl, Nat.le_of_ble_eq_true rfl⟩) hS (fun q _ h9 => hAn q h9) (fun q h9 => hAn q h9) (fun q _ h9 => hAn q h9) (fun E ce q9 u t H1 locs1 ht hvm _ hE hz hk hS hce hcv hcl => by
    subst hE
    refine vx_catch (own := RL) (name := IOB) hown [] ⟨0, 12, 15, 13⟩ [⟨0, 12, 19, 15⟩] htab (fun z hz => absurd hz List.not_mem_nil) (by decide) (by decide) (hts (.classLink RL 13 IOB) (by decide +kernel)) (va_Nw.use rfl hKX.1.2.1.2) hce hcv hcl ?_
    refine lv_astore (lv' := [(5, .ref q9), (0, .ref (ad 0)), (1, .int (nI k1)), (2, .int (nI k2)), (3, .int x3), (4, .ref o)]) hx hb dL_covers_15 hl (by decide) rfl (fun ls hl => ?_)
    refine lv_iconst (v := nI 1) hx hb dL_covers_17 (by decide) ?_
    refine W.widen (k := 1) (n := 6) (by first | omega | decide) (by first | omega | decide) ?_
    have ho9 := ho9.kept (hk _ ho9.lt (fun h9 => hno h9))
    have ht9 : tw_covers (nI k1) (nI k2) x3 = nI 1 := by unfold tw_covers; rw [if_neg c1, if_neg c2]
    exact W.iret (v := nI 1) hx hb hr (fun t ht _ => ⟨⟨nI 1, (), rfl, ht9.symm, by dsimp only; rw [ht]; exact ⟨f, ho9, fun h9 => absurd (ht9.symm.trans h9) (by decide)⟩⟩, by subst hAe; exact hS.F ht⟩) (by subst hAe; exact hS.2.2) dL_covers_18
    ) (fun u t H1 locs1 ht hvm hf => hf.elim)

set_option maxHeartbeats 4000000 in
set_option maxRecDepth 100000 in
theorem wr_apart (l : Launch) (hlt : l.stackTraces = false) (D : va_G) (T : Nat → ClassId) (N0 sz o : Nat) (ad : Nat → Nat) (f : Nat → Int64) (x1 : Int32) (hN : ∀ i : Nat, i < 37 → N0 ≤ ad i) (hNs : N0 ≤ sz) (hoa : ∀ i : Nat, i < 37 → o ≠ ad i) : Met l yL_apart wsL_apart ({ frames := 8, cells := 1, slots := 6, locals := 123 }) (cW D T N0 [.ref (ad 0), .int x1, .ref o] (fun H => H.size = sz ∧ PLW D T ad zz2 zz2 sr0 zr0 H ∧ pAt D H o (eL (T 6) 1 f))) (va_Qi (fun (r : Int32) (_ : Unit) => r = tw_apart x1) (fun _ t => LO D T o (tw_apart x1) ((nI 0).toInt64) t.heap) (WA ad o sz)) 1 6 (WA ad o sz) := by
  refine q_ofWH (cc := cL_apart) (maxL := 4) (ret := (some .int)) (hh := [(0, 9, 12, 15)]) (by decide) rfl ?_
  intro p e s m args below meth c s₁ B hml hv9
  obtain ⟨⟨rfl, hK, ⟨hsz, hw, ho9⟩, hKX⟩, hNc⟩ := hv9
  have hx := B.exec
  have hb := B.bytes
  have hr := B.returns
  have hts := atoms_spec (ws := wsL_apart) B.pre
  have hown : s.vm.findClass RL = some m.cls := findClass_of_methodNamed B.named
  have hlocks := B.notSynchronized
  have htab := vx_table (x := yL_apart) B (hts _ List.mem_cons_self)
  generalize hAe : WA ad o sz = A
  have hAs : ∀ q : Nat, SA ad s.heap.size q → A q := fun q h9 => by subst hAe; exact h9.elim Or.inl (fun h8 => Or.inr (Or.inr (by omega)))
  have hAn : ∀ q : Nat, s.heap.size ≤ q → A q := fun q h9 => hAs q (Or.inr h9)
  have hAp : ∀ q : Nat, PLA ad q → A q := fun q h9 => hAs q (Or.inl h9)
  have hAo : A o := by subst hAe; exact Or.inr (Or.inl rfl)
  have hno : ¬ s.heap.size ≤ o := by have h8 := ho9.lt; omega
  have hnq : ¬ PLA ad o := fun ⟨i, hi, h8⟩ => hoa i hi h8
  have hnp : ¬ SA ad s.heap.size o := fun h9 => h9.elim hnq hno
  have hS : va_S A s.heap s.heap [] := va_S.rf
  have hl := lv_entry ([.ref (ad 0), .int x1, .ref o]) (n := 4) (Nat.le_of_ble_eq_true rfl)
  rw [lg_entry_eq]
  generalize (lg_sl ([.ref (ad 0), .int x1, .ref o]) ++ List.replicate (4 - (lg_sl ([.ref (ad 0), .int x1, .ref o])).length) Slot.unset).toArray = ls at hl ⊢
  have hl : lv_has ls 4 [(0, .ref (ad 0)), (1, .int x1), (2, .ref o)] := hl
  by_cases c1 : inM x1 (nI 0) (nI 255) = 0
  · skip
    refine lv_aload_n hx hb dL_apart_0 rfl (lv_at hl 2 rfl) ?_
    refine lv_iconst (v := nI 0) hx hb dL_apart_1 (by decide) ?_
    refine lv_aload_n hx hb dL_apart_2 rfl (lv_at hl 0 rfl) ?_
    refine lv_iload_n hx hb dL_apart_3 rfl (lv_at hl 1 rfl) ?_
    exact vx_callv (vx_runV (As := [.int x1]) (rest := [.int (nI 0), .ref o]) ⟨hx, hb, hml, hown, hts⟩ (thX3_apart_1 l hlt D T s.heap.size ad zz2 zz2 sr0 zr0 x1 (bad3 c1)) (cwV 1 hts gL_apart_X3_apart rfl rfl rfl (by decide +kernel) ⟨Nat.le_of_ble_eq_true rfl, Nat.le_of_ble_eq_true rfl⟩) (preXV hK (hKX.up (by omega)) rfl hw.o rfl hw) rfl rfl hl.1 rfl (lv_room (Nat.le_of_ble_eq_true rfl)) dL_apart_4 ⟨Nat.le_of_ble_eq_true rfl, Nat.le_of_ble_eq_true rfl⟩) hS (fun q _ h9 => hAn q h9) (fun q h9 => hAn q h9) (fun q _ h9 => hAn q h9) (fun E ce q9 u t H1 locs1 ht hvm _ hE hz hk hS hce hcv hcl => by
      subst hE
      refine vx_catch (own := RL) (name := IAE) hown [] ⟨0, 9, 12, 15⟩ [] htab (fun z hz => absurd hz List.not_mem_nil) (by decide) (by decide) (hts (.classLink RL 15 IAE) (by decide +kernel)) (va_Nw.use rfl hKX.1.2.1.1) hce hcv hcl ?_
      refine lv_astore_n (lv' := [(3, .ref q9), (0, .ref (ad 0)), (1, .int x1), (2, .ref o)]) hx hb dL_apart_12 rfl hl (by decide) rfl (fun ls hl => ?_)
      refine lv_iconst (v := nI 1) hx hb dL_apart_13 (by decide) ?_
      refine W.widen (k := 1) (n := 6) (by first | omega | decide) (by first | omega | decide) ?_
      have ho9 := ho9.kept (hk _ ho9.lt (fun h9 => hno h9))
      have ht9 : tw_apart x1 = nI 1 := by unfold tw_apart; rw [if_pos c1]
      exact W.iret (v := nI 1) hx hb hr (fun t ht _ => ⟨⟨nI 1, (), rfl, ht9.symm, by dsimp only; rw [ht]; exact ⟨f, ho9, fun h9 => absurd (ht9.symm.trans h9) (by decide)⟩⟩, by subst hAe; exact hS.F ht⟩) (by subst hAe; exact hS.2.2) dL_apart_14
      ) (fun u t H1 locs1 ht hvm hf => hf.elim)
  obtain ⟨k1, hk1, rfl⟩ := inM_ok (n := 255) (by decide) c1
  refine lv_aload_n hx hb dL_apart_0 rfl (lv_at hl 2 rfl) ?_
  refine lv_iconst (v := nI 0) hx hb dL_apart_1 (by decide) ?_
  refine lv_aload_n hx hb dL_apart_2 rfl (lv_at hl 0 rfl) ?_
  refine lv_iload_n hx hb dL_apart_3 rfl (lv_at hl 1 rfl) ?_
  refine vp_callSi (va_runV (As := [.int (nI k1)]) (rest := [.int (nI 0), .ref o]) ⟨hx, hb, hml, hown, hts⟩ (conX3_apart l D T ad zz2 zz2 sr0 zr0 k1 (by omega) emp0) (cwV 1 hts gL_apart_X3_apart rfl rfl rfl (by decide +kernel) ⟨Nat.le_of_ble_eq_true rfl, Nat.le_of_ble_eq_true rfl⟩) (preV hK hw.o rfl hw) rfl rfl hl.1 rfl (lv_room (Nat.le_of_ble_eq_true rfl)) dL_apart_4 ⟨Nat.le_of_ble_eq_true rfl, Nat.le_of_ble_eq_true rfl⟩).run (fun r hr9 => ?_)
  have hq9 : r = nI 0 := hr9.trans (rfl)
  subst hq9
  refine lv_i2l (v := (nI 0).toInt64) hx hb dL_apart_7 rfl ?_
  refine q_last hx hb hK ho9 0 rfl (by decide) (by decide) hS hAo dL_apart_8 (fun H1 locs1 ho9 hz oq hS => ?_)
  refine lv_goto (tgt := 15) hx hb dL_apart_9 (by decide) ?_
  refine lv_iconst (v := nI 0) hx hb dL_apart_15 (by decide) ?_
  refine W.widen (k := 1) (n := 6) (by first | omega | decide) (by first | omega | decide) ?_
  have ht9 : tw_apart (nI k1) = nI 0 := by unfold tw_apart; rw [if_neg c1]
  exact W.iret (v := nI 0) hx hb hr (fun t ht _ => ⟨⟨nI 0, (), rfl, ht9.symm, by dsimp only; rw [ht]; exact ⟨_, ho9, fun _ => by dsimp only [vp_updL, vf_upd]; rfl⟩⟩, by subst hAe; exact hS.F ht⟩) (by subst hAe; exact hS.2.2) dL_apart_16

set_option maxHeartbeats 4000000 in
set_option maxRecDepth 100000 in
theorem wr_pins (l : Launch) (hlt : l.stackTraces = false) (D : va_G) (T : Nat → ClassId) (N0 sz o : Nat) (ad : Nat → Nat) (f : Nat → Int64) (x1 : Int32) (hN : ∀ i : Nat, i < 37 → N0 ≤ ad i) (hNs : N0 ≤ sz) (hoa : ∀ i : Nat, i < 37 → o ≠ ad i) : Met l yL_pins wsL_pins ({ frames := 8, cells := 1, slots := 6, locals := 123 }) (cW D T N0 [.ref (ad 0), .int x1, .ref o] (fun H => H.size = sz ∧ PLW D T ad zz2 zz2 sr0 zr0 H ∧ pAt D H o (eL (T 6) 1 f))) (va_Qi (fun (r : Int32) (_ : Unit) => r = tw_pins x1) (fun _ t => LO D T o (tw_pins x1) ((nI 0).toInt64) t.heap) (WA ad o sz)) 1 6 (WA ad o sz) := by
  refine q_ofWH (cc := cL_pins) (maxL := 4) (ret := (some .int)) (hh := [(0, 9, 12, 15)]) (by decide) rfl ?_
  intro p e s m args below meth c s₁ B hml hv9
  obtain ⟨⟨rfl, hK, ⟨hsz, hw, ho9⟩, hKX⟩, hNc⟩ := hv9
  have hx := B.exec
  have hb := B.bytes
  have hr := B.returns
  have hts := atoms_spec (ws := wsL_pins) B.pre
  have hown : s.vm.findClass RL = some m.cls := findClass_of_methodNamed B.named
  have hlocks := B.notSynchronized
  have htab := vx_table (x := yL_pins) B (hts _ List.mem_cons_self)
  generalize hAe : WA ad o sz = A
  have hAs : ∀ q : Nat, SA ad s.heap.size q → A q := fun q h9 => by subst hAe; exact h9.elim Or.inl (fun h8 => Or.inr (Or.inr (by omega)))
  have hAn : ∀ q : Nat, s.heap.size ≤ q → A q := fun q h9 => hAs q (Or.inr h9)
  have hAp : ∀ q : Nat, PLA ad q → A q := fun q h9 => hAs q (Or.inl h9)
  have hAo : A o := by subst hAe; exact Or.inr (Or.inl rfl)
  have hno : ¬ s.heap.size ≤ o := by have h8 := ho9.lt; omega
  have hnq : ¬ PLA ad o := fun ⟨i, hi, h8⟩ => hoa i hi h8
  have hnp : ¬ SA ad s.heap.size o := fun h9 => h9.elim hnq hno
  have hS : va_S A s.heap s.heap [] := va_S.rf
  have hl := lv_entry ([.ref (ad 0), .int x1, .ref o]) (n := 4) (Nat.le_of_ble_eq_true rfl)
  rw [lg_entry_eq]
  generalize (lg_sl ([.ref (ad 0), .int x1, .ref o]) ++ List.replicate (4 - (lg_sl ([.ref (ad 0), .int x1, .ref o])).length) Slot.unset).toArray = ls at hl ⊢
  have hl : lv_has ls 4 [(0, .ref (ad 0)), (1, .int x1), (2, .ref o)] := hl
  by_cases c1 : inM x1 (nI 0) (nI 255) = 0
  · skip
    refine lv_aload_n hx hb dL_pins_0 rfl (lv_at hl 2 rfl) ?_
    refine lv_iconst (v := nI 0) hx hb dL_pins_1 (by decide) ?_
    refine lv_aload_n hx hb dL_pins_2 rfl (lv_at hl 0 rfl) ?_
    refine lv_iload_n hx hb dL_pins_3 rfl (lv_at hl 1 rfl) ?_
    exact vx_callv (vx_runV (As := [.int x1]) (rest := [.int (nI 0), .ref o]) ⟨hx, hb, hml, hown, hts⟩ (thX3_pins_1 l hlt D T s.heap.size ad zz2 zz2 sr0 zr0 x1 (bad3 c1)) (cwV 1 hts gL_pins_X3_pins rfl rfl rfl (by decide +kernel) ⟨Nat.le_of_ble_eq_true rfl, Nat.le_of_ble_eq_true rfl⟩) (preXV hK (hKX.up (by omega)) rfl hw.o rfl hw) rfl rfl hl.1 rfl (lv_room (Nat.le_of_ble_eq_true rfl)) dL_pins_4 ⟨Nat.le_of_ble_eq_true rfl, Nat.le_of_ble_eq_true rfl⟩) hS (fun q _ h9 => hAn q h9) (fun q h9 => hAn q h9) (fun q _ h9 => hAn q h9) (fun E ce q9 u t H1 locs1 ht hvm _ hE hz hk hS hce hcv hcl => by
      subst hE
      refine vx_catch (own := RL) (name := IAE) hown [] ⟨0, 9, 12, 15⟩ [] htab (fun z hz => absurd hz List.not_mem_nil) (by decide) (by decide) (hts (.classLink RL 15 IAE) (by decide +kernel)) (va_Nw.use rfl hKX.1.2.1.1) hce hcv hcl ?_
      refine lv_astore_n (lv' := [(3, .ref q9), (0, .ref (ad 0)), (1, .int x1), (2, .ref o)]) hx hb dL_pins_12 rfl hl (by decide) rfl (fun ls hl => ?_)
      refine lv_iconst (v := nI 1) hx hb dL_pins_13 (by decide) ?_
      refine W.widen (k := 1) (n := 6) (by first | omega | decide) (by first | omega | decide) ?_
      have ho9 := ho9.kept (hk _ ho9.lt (fun h9 => hno h9))
      have ht9 : tw_pins x1 = nI 1 := by unfold tw_pins; rw [if_pos c1]
      exact W.iret (v := nI 1) hx hb hr (fun t ht _ => ⟨⟨nI 1, (), rfl, ht9.symm, by dsimp only; rw [ht]; exact ⟨f, ho9, fun h9 => absurd (ht9.symm.trans h9) (by decide)⟩⟩, by subst hAe; exact hS.F ht⟩) (by subst hAe; exact hS.2.2) dL_pins_14
      ) (fun u t H1 locs1 ht hvm hf => hf.elim)
  obtain ⟨k1, hk1, rfl⟩ := inM_ok (n := 255) (by decide) c1
  refine lv_aload_n hx hb dL_pins_0 rfl (lv_at hl 2 rfl) ?_
  refine lv_iconst (v := nI 0) hx hb dL_pins_1 (by decide) ?_
  refine lv_aload_n hx hb dL_pins_2 rfl (lv_at hl 0 rfl) ?_
  refine lv_iload_n hx hb dL_pins_3 rfl (lv_at hl 1 rfl) ?_
  refine vp_callSi (va_runV (As := [.int (nI k1)]) (rest := [.int (nI 0), .ref o]) ⟨hx, hb, hml, hown, hts⟩ (conX3_pins l D T ad zz2 zz2 sr0 zr0 k1 (by omega) emp0) (cwV 1 hts gL_pins_X3_pins rfl rfl rfl (by decide +kernel) ⟨Nat.le_of_ble_eq_true rfl, Nat.le_of_ble_eq_true rfl⟩) (preV hK hw.o rfl hw) rfl rfl hl.1 rfl (lv_room (Nat.le_of_ble_eq_true rfl)) dL_pins_4 ⟨Nat.le_of_ble_eq_true rfl, Nat.le_of_ble_eq_true rfl⟩).run (fun r hr9 => ?_)
  have hq9 : r = nI 0 := hr9.trans (rfl)
  subst hq9
  refine lv_i2l (v := (nI 0).toInt64) hx hb dL_pins_7 rfl ?_
  refine q_last hx hb hK ho9 0 rfl (by decide) (by decide) hS hAo dL_pins_8 (fun H1 locs1 ho9 hz oq hS => ?_)
  refine lv_goto (tgt := 15) hx hb dL_pins_9 (by decide) ?_
  refine lv_iconst (v := nI 0) hx hb dL_pins_15 (by decide) ?_
  refine W.widen (k := 1) (n := 6) (by first | omega | decide) (by first | omega | decide) ?_
  have ht9 : tw_pins (nI k1) = nI 0 := by unfold tw_pins; rw [if_neg c1]
  exact W.iret (v := nI 0) hx hb hr (fun t ht _ => ⟨⟨nI 0, (), rfl, ht9.symm, by dsimp only; rw [ht]; exact ⟨_, ho9, fun _ => by dsimp only [vp_updL, vf_upd]; rfl⟩⟩, by subst hAe; exact hS.F ht⟩) (by subst hAe; exact hS.2.2) dL_pins_16

set_option maxHeartbeats 4000000 in
set_option maxRecDepth 100000 in
theorem wr_meetWith (l : Launch) (hlt : l.stackTraces = false) (D : va_G) (T : Nat → ClassId) (N0 sz o : Nat) (ad : Nat → Nat) (f : Nat → Int64) (x1 x2 x3 : Int32) (hN : ∀ i : Nat, i < 37 → N0 ≤ ad i) (hNs : N0 ≤ sz) (hoa : ∀ i : Nat, i < 37 → o ≠ ad i) : Met l yL_meetWith wsL_meetWith ({ frames := 8, cells := 1, slots := 6, locals := 131 }) (cW D T N0 [.ref (ad 0), .int x1, .int x2, .int x3, .ref o] (fun H => H.size = sz ∧ PLW D T ad zz2 zz2 sr0 zr0 H ∧ pAt D H o (eL (T 6) 1 f))) (va_Qi (fun (r : Int32) (_ : Unit) => r = tw_meetWith x1 x2 x3) (fun _ t => LO D T o (tw_meetWith x1 x2 x3) ((nI 0).toInt64) t.heap) (WA ad o sz)) 1 6 (WA ad o sz) := by
  refine q_ofWH (cc := cL_meetWith) (maxL := 6) (ret := (some .int)) (hh := [(0, 12, 15, 13), (0, 12, 19, 15)]) (by decide) rfl ?_
  intro p e s m args below meth c s₁ B hml hv9
  obtain ⟨⟨rfl, hK, ⟨hsz, hw, ho9⟩, hKX⟩, hNc⟩ := hv9
  have hx := B.exec
  have hb := B.bytes
  have hr := B.returns
  have hts := atoms_spec (ws := wsL_meetWith) B.pre
  have hown : s.vm.findClass RL = some m.cls := findClass_of_methodNamed B.named
  have hlocks := B.notSynchronized
  have htab := vx_table (x := yL_meetWith) B (hts _ List.mem_cons_self)
  generalize hAe : WA ad o sz = A
  have hAs : ∀ q : Nat, SA ad s.heap.size q → A q := fun q h9 => by subst hAe; exact h9.elim Or.inl (fun h8 => Or.inr (Or.inr (by omega)))
  have hAn : ∀ q : Nat, s.heap.size ≤ q → A q := fun q h9 => hAs q (Or.inr h9)
  have hAp : ∀ q : Nat, PLA ad q → A q := fun q h9 => hAs q (Or.inl h9)
  have hAo : A o := by subst hAe; exact Or.inr (Or.inl rfl)
  have hno : ¬ s.heap.size ≤ o := by have h8 := ho9.lt; omega
  have hnq : ¬ PLA ad o := fun ⟨i, hi, h8⟩ => hoa i hi h8
  have hnp : ¬ SA ad s.heap.size o := fun h9 => h9.elim hnq hno
  have hS : va_S A s.heap s.heap [] := va_S.rf
  have hl := lv_entry ([.ref (ad 0), .int x1, .int x2, .int x3, .ref o]) (n := 6) (Nat.le_of_ble_eq_true rfl)
  rw [lg_entry_eq]
  generalize (lg_sl ([.ref (ad 0), .int x1, .int x2, .int x3, .ref o]) ++ List.replicate (6 - (lg_sl ([.ref (ad 0), .int x1, .int x2, .int x3, .ref o])).length) Slot.unset).toArray = ls at hl ⊢
  have hl : lv_has ls 6 [(0, .ref (ad 0)), (1, .int x1), (2, .int x2), (3, .int x3), (4, .ref o)] := hl
  by_cases c1 : inM x1 (nI 0) (nI 7) = 0
  · skip
    refine lv_aload hx hb dL_meetWith_0 (lv_at hl 4 rfl) ?_
    refine lv_iconst (v := nI 0) hx hb dL_meetWith_2 (by decide) ?_
    refine lv_aload_n hx hb dL_meetWith_3 rfl (lv_at hl 0 rfl) ?_
    refine lv_iload_n hx hb dL_meetWith_4 rfl (lv_at hl 1 rfl) ?_
    refine lv_iload_n hx hb dL_meetWith_5 rfl (lv_at hl 2 rfl) ?_
    refine lv_iload_n hx hb dL_meetWith_6 rfl (lv_at hl 3 rfl) ?_
    exact vx_callv (vx_runV (As := [.int x1, .int x2, .int x3]) (rest := [.int (nI 0), .ref o]) ⟨hx, hb, hml, hown, hts⟩ (thX3_meetWith_1 l hlt D T s.heap.size ad zz2 zz2 sr0 zr0 x1 x2 x3 (bad1 (by decide) c1)) (cwV 3 hts gL_meetWith_X3_meetWith rfl rfl rfl (by decide +kernel) ⟨Nat.le_of_ble_eq_true rfl, Nat.le_of_ble_eq_true rfl⟩) (preXV hK (hKX.up (by omega)) rfl hw.o rfl hw) rfl rfl hl.1 rfl (lv_room (Nat.le_of_ble_eq_true rfl)) dL_meetWith_7 ⟨Nat.le_of_ble_eq_true rfl, Nat.le_of_ble_eq_true rfl⟩) hS (fun q _ h9 => hAn q h9) (fun q h9 => hAn q h9) (fun q _ h9 => hAn q h9) (fun E ce q9 u t H1 locs1 ht hvm _ hE hz hk hS hce hcv hcl => by
      subst hE
      refine vx_catch (own := RL) (name := IOB) hown [] ⟨0, 12, 15, 13⟩ [⟨0, 12, 19, 15⟩] htab (fun z hz => absurd hz List.not_mem_nil) (by decide) (by decide) (hts (.classLink RL 13 IOB) (by decide +kernel)) (va_Nw.use rfl hKX.1.2.1.2) hce hcv hcl ?_
      refine lv_astore (lv' := [(5, .ref q9), (0, .ref (ad 0)), (1, .int x1), (2, .int x2), (3, .int x3), (4, .ref o)]) hx hb dL_meetWith_15 hl (by decide) rfl (fun ls hl => ?_)
      refine lv_iconst (v := nI 1) hx hb dL_meetWith_17 (by decide) ?_
      refine W.widen (k := 1) (n := 6) (by first | omega | decide) (by first | omega | decide) ?_
      have ho9 := ho9.kept (hk _ ho9.lt (fun h9 => hno h9))
      have ht9 : tw_meetWith x1 x2 x3 = nI 1 := by unfold tw_meetWith; rw [if_pos c1]
      exact W.iret (v := nI 1) hx hb hr (fun t ht _ => ⟨⟨nI 1, (), rfl, ht9.symm, by dsimp only; rw [ht]; exact ⟨f, ho9, fun h9 => absurd (ht9.symm.trans h9) (by decide)⟩⟩, by subst hAe; exact hS.F ht⟩) (by subst hAe; exact hS.2.2) dL_meetWith_18
      ) (fun u t H1 locs1 ht hvm hf => hf.elim)
  obtain ⟨k1, hk1, rfl⟩ := inM_ok (n := 7) (by decide) c1
  by_cases c2 : inM x3 (nI 0) (nI 7) = 0
  · skip
    refine lv_aload hx hb dL_meetWith_0 (lv_at hl 4 rfl) ?_
    refine lv_iconst (v := nI 0) hx hb dL_meetWith_2 (by decide) ?_
    refine lv_aload_n hx hb dL_meetWith_3 rfl (lv_at hl 0 rfl) ?_
    refine lv_iload_n hx hb dL_meetWith_4 rfl (lv_at hl 1 rfl) ?_
    refine lv_iload_n hx hb dL_meetWith_5 rfl (lv_at hl 2 rfl) ?_
    refine lv_iload_n hx hb dL_meetWith_6 rfl (lv_at hl 3 rfl) ?_
    exact vx_callv (vx_runV (As := [.int (nI k1), .int x2, .int x3]) (rest := [.int (nI 0), .ref o]) ⟨hx, hb, hml, hown, hts⟩ (thX3_meetWith_2 l hlt D T s.heap.size ad zz2 zz2 sr0 zr0 k1 x2 x3 (by omega) (bad1 (by decide) c2)) (cwV 3 hts gL_meetWith_X3_meetWith rfl rfl rfl (by decide +kernel) ⟨Nat.le_of_ble_eq_true rfl, Nat.le_of_ble_eq_true rfl⟩) (preXV hK (hKX.up (by omega)) rfl hw.o rfl hw) rfl rfl hl.1 rfl (lv_room (Nat.le_of_ble_eq_true rfl)) dL_meetWith_7 ⟨Nat.le_of_ble_eq_true rfl, Nat.le_of_ble_eq_true rfl⟩) hS (fun q _ h9 => hAn q h9) (fun q h9 => hAn q h9) (fun q _ h9 => hAn q h9) (fun E ce q9 u t H1 locs1 ht hvm _ hE hz hk hS hce hcv hcl => by
      subst hE
      refine vx_catch (own := RL) (name := IOB) hown [] ⟨0, 12, 15, 13⟩ [⟨0, 12, 19, 15⟩] htab (fun z hz => absurd hz List.not_mem_nil) (by decide) (by decide) (hts (.classLink RL 13 IOB) (by decide +kernel)) (va_Nw.use rfl hKX.1.2.1.2) hce hcv hcl ?_
      refine lv_astore (lv' := [(5, .ref q9), (0, .ref (ad 0)), (1, .int (nI k1)), (2, .int x2), (3, .int x3), (4, .ref o)]) hx hb dL_meetWith_15 hl (by decide) rfl (fun ls hl => ?_)
      refine lv_iconst (v := nI 1) hx hb dL_meetWith_17 (by decide) ?_
      refine W.widen (k := 1) (n := 6) (by first | omega | decide) (by first | omega | decide) ?_
      have ho9 := ho9.kept (hk _ ho9.lt (fun h9 => hno h9))
      have ht9 : tw_meetWith (nI k1) x2 x3 = nI 1 := by unfold tw_meetWith; rw [if_neg c1, if_pos c2]
      exact W.iret (v := nI 1) hx hb hr (fun t ht _ => ⟨⟨nI 1, (), rfl, ht9.symm, by dsimp only; rw [ht]; exact ⟨f, ho9, fun h9 => absurd (ht9.symm.trans h9) (by decide)⟩⟩, by subst hAe; exact hS.F ht⟩) (by subst hAe; exact hS.2.2) dL_meetWith_18
      ) (fun u t H1 locs1 ht hvm hf => hf.elim)
  obtain ⟨k3, hk3, rfl⟩ := inM_ok (n := 7) (by decide) c2
  by_cases c3 : inM x2 (-100) (nI 100) = 0
  · skip
    refine lv_aload hx hb dL_meetWith_0 (lv_at hl 4 rfl) ?_
    refine lv_iconst (v := nI 0) hx hb dL_meetWith_2 (by decide) ?_
    refine lv_aload_n hx hb dL_meetWith_3 rfl (lv_at hl 0 rfl) ?_
    refine lv_iload_n hx hb dL_meetWith_4 rfl (lv_at hl 1 rfl) ?_
    refine lv_iload_n hx hb dL_meetWith_5 rfl (lv_at hl 2 rfl) ?_
    refine lv_iload_n hx hb dL_meetWith_6 rfl (lv_at hl 3 rfl) ?_
    exact vx_callv (vx_runV (As := [.int (nI k1), .int x2, .int (nI k3)]) (rest := [.int (nI 0), .ref o]) ⟨hx, hb, hml, hown, hts⟩ (thX3_meetWith_3 l hlt D T s.heap.size ad zz2 zz2 sr0 zr0 k1 k3 x2 (by omega) (by omega) (bad3 c3)) (cwV 3 hts gL_meetWith_X3_meetWith rfl rfl rfl (by decide +kernel) ⟨Nat.le_of_ble_eq_true rfl, Nat.le_of_ble_eq_true rfl⟩) (preXV hK (hKX.up (by omega)) rfl hw.o rfl hw) rfl rfl hl.1 rfl (lv_room (Nat.le_of_ble_eq_true rfl)) dL_meetWith_7 ⟨Nat.le_of_ble_eq_true rfl, Nat.le_of_ble_eq_true rfl⟩) hS (fun q _ h9 => hAn q h9) (fun q h9 => hAn q h9) (fun q _ h9 => hAn q h9) (fun E ce q9 u t H1 locs1 ht hvm _ hE hz hk hS hce hcv hcl => by
      subst hE
      refine vx_catch (own := RL) (name := IAE) hown [⟨0, 12, 15, 13⟩] ⟨0, 12, 19, 15⟩ [] htab (fun z hz => by rcases List.mem_cons.mp hz with h8 | h8; rw [h8]; exact Or.inr ⟨by decide, IOB, hts (.classLink RL 13 IOB) (by decide +kernel), hNc⟩; exact absurd h8 List.not_mem_nil) (by decide) (by decide) (hts (.classLink RL 15 IAE) (by decide +kernel)) (va_Nw.use rfl hKX.1.2.1.1) hce hcv hcl ?_
      refine lv_astore (lv' := [(5, .ref q9), (0, .ref (ad 0)), (1, .int (nI k1)), (2, .int x2), (3, .int (nI k3)), (4, .ref o)]) hx hb dL_meetWith_19 hl (by decide) rfl (fun ls hl => ?_)
      refine lv_iconst (v := nI 2) hx hb dL_meetWith_21 (by decide) ?_
      refine W.widen (k := 1) (n := 6) (by first | omega | decide) (by first | omega | decide) ?_
      have ho9 := ho9.kept (hk _ ho9.lt (fun h9 => hno h9))
      have ht9 : tw_meetWith (nI k1) x2 (nI k3) = nI 2 := by unfold tw_meetWith; rw [if_neg c1, if_neg c2, if_pos c3]
      exact W.iret (v := nI 2) hx hb hr (fun t ht _ => ⟨⟨nI 2, (), rfl, ht9.symm, by dsimp only; rw [ht]; exact ⟨f, ho9, fun h9 => absurd (ht9.symm.trans h9) (by decide)⟩⟩, by subst hAe; exact hS.F ht⟩) (by subst hAe; exact hS.2.2) dL_meetWith_22
      ) (fun u t H1 locs1 ht hvm hf => hf.elim)
  refine lv_aload hx hb dL_meetWith_0 (lv_at hl 4 rfl) ?_
  refine lv_iconst (v := nI 0) hx hb dL_meetWith_2 (by decide) ?_
  refine lv_aload_n hx hb dL_meetWith_3 rfl (lv_at hl 0 rfl) ?_
  refine lv_iload_n hx hb dL_meetWith_4 rfl (lv_at hl 1 rfl) ?_
  refine lv_iload_n hx hb dL_meetWith_5 rfl (lv_at hl 2 rfl) ?_
  refine lv_iload_n hx hb dL_meetWith_6 rfl (lv_at hl 3 rfl) ?_
  refine vp_callSi (va_runV (As := [.int (nI k1), .int x2, .int (nI k3)]) (rest := [.int (nI 0), .ref o]) ⟨hx, hb, hml, hown, hts⟩ (conX3_meetWith l D T ad zz2 zz2 sr0 zr0 k1 k3 x2 (by omega) (by omega) (inM_in c3).1 (inM_in c3).2) (cwV 3 hts gL_meetWith_X3_meetWith rfl rfl rfl (by decide +kernel) ⟨Nat.le_of_ble_eq_true rfl, Nat.le_of_ble_eq_true rfl⟩) (preV hK hw.o rfl hw) rfl rfl hl.1 rfl (lv_room (Nat.le_of_ble_eq_true rfl)) dL_meetWith_7 ⟨Nat.le_of_ble_eq_true rfl, Nat.le_of_ble_eq_true rfl⟩).run (fun r hr9 => ?_)
  have hq9 : r = nI 0 := hr9.trans (mt_0 _ 100)
  subst hq9
  refine lv_i2l (v := (nI 0).toInt64) hx hb dL_meetWith_10 rfl ?_
  refine q_last hx hb hK ho9 0 rfl (by decide) (by decide) hS hAo dL_meetWith_11 (fun H1 locs1 ho9 hz oq hS => ?_)
  refine lv_goto (tgt := 23) hx hb dL_meetWith_12 (by decide) ?_
  refine lv_iconst (v := nI 0) hx hb dL_meetWith_23 (by decide) ?_
  refine W.widen (k := 1) (n := 6) (by first | omega | decide) (by first | omega | decide) ?_
  have ht9 : tw_meetWith (nI k1) x2 (nI k3) = nI 0 := by unfold tw_meetWith; rw [if_neg c1, if_neg c2, if_neg c3]
  exact W.iret (v := nI 0) hx hb hr (fun t ht _ => ⟨⟨nI 0, (), rfl, ht9.symm, by dsimp only; rw [ht]; exact ⟨_, ho9, fun _ => by dsimp only [vp_updL, vf_upd]; rfl⟩⟩, by subst hAe; exact hS.F ht⟩) (by subst hAe; exact hS.2.2) dL_meetWith_24

set_option maxHeartbeats 4000000 in
set_option maxRecDepth 100000 in
theorem wr_clear (l : Launch) (hlt : l.stackTraces = false) (D : va_G) (T : Nat → ClassId) (N0 sz o : Nat) (ad : Nat → Nat) (f : Nat → Int64) (x1 x2 : Int32) (hN : ∀ i : Nat, i < 37 → N0 ≤ ad i) (hNs : N0 ≤ sz) (hoa : ∀ i : Nat, i < 37 → o ≠ ad i) : Met l yL_clear wsL_clear ({ frames := 8, cells := 1, slots := 6, locals := 129 }) (cW D T N0 [.ref (ad 0), .int x1, .int x2, .ref o] (fun H => H.size = sz ∧ PLW D T ad zz2 zz2 sr0 zr0 H ∧ pAt D H o (eL (T 6) 1 f))) (va_Qi (fun (r : Int32) (_ : Unit) => r = tw_clear x1 x2) (fun _ t => LO D T o (tw_clear x1 x2) ((nI 0).toInt64) t.heap) (WA ad o sz)) 1 6 (WA ad o sz) := by
  refine q_ofWH (cc := cL_clear) (maxL := 5) (ret := (some .int)) (hh := [(0, 10, 13, 13)]) (by decide) rfl ?_
  intro p e s m args below meth c s₁ B hml hv9
  obtain ⟨⟨rfl, hK, ⟨hsz, hw, ho9⟩, hKX⟩, hNc⟩ := hv9
  have hx := B.exec
  have hb := B.bytes
  have hr := B.returns
  have hts := atoms_spec (ws := wsL_clear) B.pre
  have hown : s.vm.findClass RL = some m.cls := findClass_of_methodNamed B.named
  have hlocks := B.notSynchronized
  have htab := vx_table (x := yL_clear) B (hts _ List.mem_cons_self)
  generalize hAe : WA ad o sz = A
  have hAs : ∀ q : Nat, SA ad s.heap.size q → A q := fun q h9 => by subst hAe; exact h9.elim Or.inl (fun h8 => Or.inr (Or.inr (by omega)))
  have hAn : ∀ q : Nat, s.heap.size ≤ q → A q := fun q h9 => hAs q (Or.inr h9)
  have hAp : ∀ q : Nat, PLA ad q → A q := fun q h9 => hAs q (Or.inl h9)
  have hAo : A o := by subst hAe; exact Or.inr (Or.inl rfl)
  have hno : ¬ s.heap.size ≤ o := by have h8 := ho9.lt; omega
  have hnq : ¬ PLA ad o := fun ⟨i, hi, h8⟩ => hoa i hi h8
  have hnp : ¬ SA ad s.heap.size o := fun h9 => h9.elim hnq hno
  have hS : va_S A s.heap s.heap [] := va_S.rf
  have hl := lv_entry ([.ref (ad 0), .int x1, .int x2, .ref o]) (n := 5) (Nat.le_of_ble_eq_true rfl)
  rw [lg_entry_eq]
  generalize (lg_sl ([.ref (ad 0), .int x1, .int x2, .ref o]) ++ List.replicate (5 - (lg_sl ([.ref (ad 0), .int x1, .int x2, .ref o])).length) Slot.unset).toArray = ls at hl ⊢
  have hl : lv_has ls 5 [(0, .ref (ad 0)), (1, .int x1), (2, .int x2), (3, .ref o)] := hl
  by_cases c1 : inM x1 (nI 0) (nI 7) = 0
  · skip
    refine lv_aload_n hx hb dL_clear_0 rfl (lv_at hl 3 rfl) ?_
    refine lv_iconst (v := nI 0) hx hb dL_clear_1 (by decide) ?_
    refine lv_aload_n hx hb dL_clear_2 rfl (lv_at hl 0 rfl) ?_
    refine lv_iload_n hx hb dL_clear_3 rfl (lv_at hl 1 rfl) ?_
    refine lv_iload_n hx hb dL_clear_4 rfl (lv_at hl 2 rfl) ?_
    exact vx_callv (vx_runV (As := [.int x1, .int x2]) (rest := [.int (nI 0), .ref o]) ⟨hx, hb, hml, hown, hts⟩ (thX3_clear_1 l hlt D T s.heap.size ad zz2 zz2 sr0 zr0 x1 x2 (bad1 (by decide) c1)) (cwV 2 hts gL_clear_X3_clear rfl rfl rfl (by decide +kernel) ⟨Nat.le_of_ble_eq_true rfl, Nat.le_of_ble_eq_true rfl⟩) (preXV hK (hKX.up (by omega)) rfl hw.o rfl hw) rfl rfl hl.1 rfl (lv_room (Nat.le_of_ble_eq_true rfl)) dL_clear_5 ⟨Nat.le_of_ble_eq_true rfl, Nat.le_of_ble_eq_true rfl⟩) hS (fun q _ h9 => hAn q h9) (fun q h9 => hAn q h9) (fun q _ h9 => hAn q h9) (fun E ce q9 u t H1 locs1 ht hvm _ hE hz hk hS hce hcv hcl => by
      subst hE
      refine vx_catch (own := RL) (name := IOB) hown [] ⟨0, 10, 13, 13⟩ [] htab (fun z hz => absurd hz List.not_mem_nil) (by decide) (by decide) (hts (.classLink RL 13 IOB) (by decide +kernel)) (va_Nw.use rfl hKX.1.2.1.2) hce hcv hcl ?_
      refine lv_astore (lv' := [(4, .ref q9), (0, .ref (ad 0)), (1, .int x1), (2, .int x2), (3, .ref o)]) hx hb dL_clear_13 hl (by decide) rfl (fun ls hl => ?_)
      refine lv_iconst (v := nI 1) hx hb dL_clear_15 (by decide) ?_
      refine W.widen (k := 1) (n := 6) (by first | omega | decide) (by first | omega | decide) ?_
      have ho9 := ho9.kept (hk _ ho9.lt (fun h9 => hno h9))
      have ht9 : tw_clear x1 x2 = nI 1 := by unfold tw_clear; rw [if_pos c1]
      exact W.iret (v := nI 1) hx hb hr (fun t ht _ => ⟨⟨nI 1, (), rfl, ht9.symm, by dsimp only; rw [ht]; exact ⟨f, ho9, fun h9 => absurd (ht9.symm.trans h9) (by decide)⟩⟩, by subst hAe; exact hS.F ht⟩) (by subst hAe; exact hS.2.2) dL_clear_16
      ) (fun u t H1 locs1 ht hvm hf => hf.elim)
  obtain ⟨k1, hk1, rfl⟩ := inM_ok (n := 7) (by decide) c1
  by_cases c2 : inM x2 (nI 0) (nI 7) = 0
  · skip
    refine lv_aload_n hx hb dL_clear_0 rfl (lv_at hl 3 rfl) ?_
    refine lv_iconst (v := nI 0) hx hb dL_clear_1 (by decide) ?_
    refine lv_aload_n hx hb dL_clear_2 rfl (lv_at hl 0 rfl) ?_
    refine lv_iload_n hx hb dL_clear_3 rfl (lv_at hl 1 rfl) ?_
    refine lv_iload_n hx hb dL_clear_4 rfl (lv_at hl 2 rfl) ?_
    exact vx_callv (vx_runV (As := [.int (nI k1), .int x2]) (rest := [.int (nI 0), .ref o]) ⟨hx, hb, hml, hown, hts⟩ (thX3_clear_2 l hlt D T s.heap.size ad zz2 zz2 sr0 zr0 k1 x2 (by omega) (bad1 (by decide) c2)) (cwV 2 hts gL_clear_X3_clear rfl rfl rfl (by decide +kernel) ⟨Nat.le_of_ble_eq_true rfl, Nat.le_of_ble_eq_true rfl⟩) (preXV hK (hKX.up (by omega)) rfl hw.o rfl hw) rfl rfl hl.1 rfl (lv_room (Nat.le_of_ble_eq_true rfl)) dL_clear_5 ⟨Nat.le_of_ble_eq_true rfl, Nat.le_of_ble_eq_true rfl⟩) hS (fun q _ h9 => hAn q h9) (fun q h9 => hAn q h9) (fun q _ h9 => hAn q h9) (fun E ce q9 u t H1 locs1 ht hvm _ hE hz hk hS hce hcv hcl => by
      subst hE
      refine vx_catch (own := RL) (name := IOB) hown [] ⟨0, 10, 13, 13⟩ [] htab (fun z hz => absurd hz List.not_mem_nil) (by decide) (by decide) (hts (.classLink RL 13 IOB) (by decide +kernel)) (va_Nw.use rfl hKX.1.2.1.2) hce hcv hcl ?_
      refine lv_astore (lv' := [(4, .ref q9), (0, .ref (ad 0)), (1, .int (nI k1)), (2, .int x2), (3, .ref o)]) hx hb dL_clear_13 hl (by decide) rfl (fun ls hl => ?_)
      refine lv_iconst (v := nI 1) hx hb dL_clear_15 (by decide) ?_
      refine W.widen (k := 1) (n := 6) (by first | omega | decide) (by first | omega | decide) ?_
      have ho9 := ho9.kept (hk _ ho9.lt (fun h9 => hno h9))
      have ht9 : tw_clear (nI k1) x2 = nI 1 := by unfold tw_clear; rw [if_neg c1, if_pos c2]
      exact W.iret (v := nI 1) hx hb hr (fun t ht _ => ⟨⟨nI 1, (), rfl, ht9.symm, by dsimp only; rw [ht]; exact ⟨f, ho9, fun h9 => absurd (ht9.symm.trans h9) (by decide)⟩⟩, by subst hAe; exact hS.F ht⟩) (by subst hAe; exact hS.2.2) dL_clear_16
      ) (fun u t H1 locs1 ht hvm hf => hf.elim)
  obtain ⟨k2, hk2, rfl⟩ := inM_ok (n := 7) (by decide) c2
  refine lv_aload_n hx hb dL_clear_0 rfl (lv_at hl 3 rfl) ?_
  refine lv_iconst (v := nI 0) hx hb dL_clear_1 (by decide) ?_
  refine lv_aload_n hx hb dL_clear_2 rfl (lv_at hl 0 rfl) ?_
  refine lv_iload_n hx hb dL_clear_3 rfl (lv_at hl 1 rfl) ?_
  refine lv_iload_n hx hb dL_clear_4 rfl (lv_at hl 2 rfl) ?_
  refine vp_callSi (va_runV (As := [.int (nI k1), .int (nI k2)]) (rest := [.int (nI 0), .ref o]) ⟨hx, hb, hml, hown, hts⟩ (conX3_clear l D T ad zz2 zz2 sr0 zr0 k1 k2 (by omega) (by omega)) (cwV 2 hts gL_clear_X3_clear rfl rfl rfl (by decide +kernel) ⟨Nat.le_of_ble_eq_true rfl, Nat.le_of_ble_eq_true rfl⟩) (preV hK hw.o rfl hw) rfl rfl hl.1 rfl (lv_room (Nat.le_of_ble_eq_true rfl)) dL_clear_5 ⟨Nat.le_of_ble_eq_true rfl, Nat.le_of_ble_eq_true rfl⟩).run (fun r hr9 => ?_)
  have hq9 : r = nI 0 := clr_0 hr9
  subst hq9
  refine lv_i2l (v := (nI 0).toInt64) hx hb dL_clear_8 rfl ?_
  refine q_last hx hb hK ho9 0 rfl (by decide) (by decide) hS hAo dL_clear_9 (fun H1 locs1 ho9 hz oq hS => ?_)
  refine lv_goto (tgt := 17) hx hb dL_clear_10 (by decide) ?_
  refine lv_iconst (v := nI 0) hx hb dL_clear_17 (by decide) ?_
  refine W.widen (k := 1) (n := 6) (by first | omega | decide) (by first | omega | decide) ?_
  have ht9 : tw_clear (nI k1) (nI k2) = nI 0 := by unfold tw_clear; rw [if_neg c1, if_neg c2]
  exact W.iret (v := nI 0) hx hb hr (fun t ht _ => ⟨⟨nI 0, (), rfl, ht9.symm, by dsimp only; rw [ht]; exact ⟨_, ho9, fun _ => by dsimp only [vp_updL, vf_upd]; rfl⟩⟩, by subst hAe; exact hS.F ht⟩) (by subst hAe; exact hS.2.2) dL_clear_18

set_option maxHeartbeats 4000000 in
set_option maxRecDepth 100000 in
theorem wr_best (l : Launch) (hlt : l.stackTraces = false) (D : va_G) (T : Nat → ClassId) (N0 sz o : Nat) (ad : Nat → Nat) (f : Nat → Int64) (x1 x2 : Int32) (hN : ∀ i : Nat, i < 37 → N0 ≤ ad i) (hNs : N0 ≤ sz) (hoa : ∀ i : Nat, i < 37 → o ≠ ad i) : Met l yL_best wsL_best ({ frames := 8, cells := 1, slots := 6, locals := 131 }) (cW D T N0 [.ref (ad 0), .int x1, .int x2, .ref o] (fun H => H.size = sz ∧ PLW D T ad zz2 zz2 sr0 zr0 H ∧ pAt D H o (eL (T 6) 1 f))) (va_Qi (fun (r : Int32) (_ : Unit) => r = tw_best x1 x2) (fun _ t => LO D T o (tw_best x1 x2) ((nI 0).toInt64) t.heap) (WA ad o sz)) 1 6 (WA ad o sz) := by
  refine q_ofWH (cc := cL_best) (maxL := 5) (ret := (some .int)) (hh := [(0, 10, 13, 13), (0, 10, 17, 15)]) (by decide) rfl ?_
  intro p e s m args below meth c s₁ B hml hv9
  obtain ⟨⟨rfl, hK, ⟨hsz, hw, ho9⟩, hKX⟩, hNc⟩ := hv9
  have hx := B.exec
  have hb := B.bytes
  have hr := B.returns
  have hts := atoms_spec (ws := wsL_best) B.pre
  have hown : s.vm.findClass RL = some m.cls := findClass_of_methodNamed B.named
  have hlocks := B.notSynchronized
  have htab := vx_table (x := yL_best) B (hts _ List.mem_cons_self)
  generalize hAe : WA ad o sz = A
  have hAs : ∀ q : Nat, SA ad s.heap.size q → A q := fun q h9 => by subst hAe; exact h9.elim Or.inl (fun h8 => Or.inr (Or.inr (by omega)))
  have hAn : ∀ q : Nat, s.heap.size ≤ q → A q := fun q h9 => hAs q (Or.inr h9)
  have hAp : ∀ q : Nat, PLA ad q → A q := fun q h9 => hAs q (Or.inl h9)
  have hAo : A o := by subst hAe; exact Or.inr (Or.inl rfl)
  have hno : ¬ s.heap.size ≤ o := by have h8 := ho9.lt; omega
  have hnq : ¬ PLA ad o := fun ⟨i, hi, h8⟩ => hoa i hi h8
  have hnp : ¬ SA ad s.heap.size o := fun h9 => h9.elim hnq hno
  have hS : va_S A s.heap s.heap [] := va_S.rf
  have hl := lv_entry ([.ref (ad 0), .int x1, .int x2, .ref o]) (n := 5) (Nat.le_of_ble_eq_true rfl)
  rw [lg_entry_eq]
  generalize (lg_sl ([.ref (ad 0), .int x1, .int x2, .ref o]) ++ List.replicate (5 - (lg_sl ([.ref (ad 0), .int x1, .int x2, .ref o])).length) Slot.unset).toArray = ls at hl ⊢
  have hl : lv_has ls 5 [(0, .ref (ad 0)), (1, .int x1), (2, .int x2), (3, .ref o)] := hl
  by_cases c1 : inM x1 (nI 0) (nI 4) = 0
  · skip
    refine lv_aload_n hx hb dL_best_0 rfl (lv_at hl 3 rfl) ?_
    refine lv_iconst (v := nI 0) hx hb dL_best_1 (by decide) ?_
    refine lv_aload_n hx hb dL_best_2 rfl (lv_at hl 0 rfl) ?_
    refine lv_iload_n hx hb dL_best_3 rfl (lv_at hl 1 rfl) ?_
    refine lv_iload_n hx hb dL_best_4 rfl (lv_at hl 2 rfl) ?_
    exact vx_callv (vx_runV (As := [.int x1, .int x2]) (rest := [.int (nI 0), .ref o]) ⟨hx, hb, hml, hown, hts⟩ (thX3_best_1 l hlt D T s.heap.size ad zz2 zz2 sr0 zr0 x1 x2 (bad1 (by decide) c1)) (cwV 2 hts gL_best_X3_best rfl rfl rfl (by decide +kernel) ⟨Nat.le_of_ble_eq_true rfl, Nat.le_of_ble_eq_true rfl⟩) (preXV hK (hKX.up (by omega)) rfl hw.o rfl hw) rfl rfl hl.1 rfl (lv_room (Nat.le_of_ble_eq_true rfl)) dL_best_5 ⟨Nat.le_of_ble_eq_true rfl, Nat.le_of_ble_eq_true rfl⟩) hS (fun q _ h9 => hAn q h9) (fun q h9 => hAn q h9) (fun q _ h9 => hAn q h9) (fun E ce q9 u t H1 locs1 ht hvm _ hE hz hk hS hce hcv hcl => by
      subst hE
      refine vx_catch (own := RL) (name := IOB) hown [] ⟨0, 10, 13, 13⟩ [⟨0, 10, 17, 15⟩] htab (fun z hz => absurd hz List.not_mem_nil) (by decide) (by decide) (hts (.classLink RL 13 IOB) (by decide +kernel)) (va_Nw.use rfl hKX.1.2.1.2) hce hcv hcl ?_
      refine lv_astore (lv' := [(4, .ref q9), (0, .ref (ad 0)), (1, .int x1), (2, .int x2), (3, .ref o)]) hx hb dL_best_13 hl (by decide) rfl (fun ls hl => ?_)
      refine lv_iconst (v := nI 1) hx hb dL_best_15 (by decide) ?_
      refine W.widen (k := 1) (n := 6) (by first | omega | decide) (by first | omega | decide) ?_
      have ho9 := ho9.kept (hk _ ho9.lt (fun h9 => hno h9))
      have ht9 : tw_best x1 x2 = nI 1 := by unfold tw_best; rw [if_pos c1]
      exact W.iret (v := nI 1) hx hb hr (fun t ht _ => ⟨⟨nI 1, (), rfl, ht9.symm, by dsimp only; rw [ht]; exact ⟨f, ho9, fun h9 => absurd (ht9.symm.trans h9) (by decide)⟩⟩, by subst hAe; exact hS.F ht⟩) (by subst hAe; exact hS.2.2) dL_best_16
      ) (fun u t H1 locs1 ht hvm hf => hf.elim)
  obtain ⟨k1, hk1, rfl⟩ := inM_ok (n := 4) (by decide) c1
  by_cases c2 : inM x2 (nI 1) (nI 100) = 0
  · skip
    refine lv_aload_n hx hb dL_best_0 rfl (lv_at hl 3 rfl) ?_
    refine lv_iconst (v := nI 0) hx hb dL_best_1 (by decide) ?_
    refine lv_aload_n hx hb dL_best_2 rfl (lv_at hl 0 rfl) ?_
    refine lv_iload_n hx hb dL_best_3 rfl (lv_at hl 1 rfl) ?_
    refine lv_iload_n hx hb dL_best_4 rfl (lv_at hl 2 rfl) ?_
    exact vx_callv (vx_runV (As := [.int (nI k1), .int x2]) (rest := [.int (nI 0), .ref o]) ⟨hx, hb, hml, hown, hts⟩ (thX3_best_2 l hlt D T s.heap.size ad zz2 zz2 sr0 zr0 k1 x2 (by omega) (bad3 c2)) (cwV 2 hts gL_best_X3_best rfl rfl rfl (by decide +kernel) ⟨Nat.le_of_ble_eq_true rfl, Nat.le_of_ble_eq_true rfl⟩) (preXV hK (hKX.up (by omega)) rfl hw.o rfl hw) rfl rfl hl.1 rfl (lv_room (Nat.le_of_ble_eq_true rfl)) dL_best_5 ⟨Nat.le_of_ble_eq_true rfl, Nat.le_of_ble_eq_true rfl⟩) hS (fun q _ h9 => hAn q h9) (fun q h9 => hAn q h9) (fun q _ h9 => hAn q h9) (fun E ce q9 u t H1 locs1 ht hvm _ hE hz hk hS hce hcv hcl => by
      subst hE
      refine vx_catch (own := RL) (name := IAE) hown [⟨0, 10, 13, 13⟩] ⟨0, 10, 17, 15⟩ [] htab (fun z hz => by rcases List.mem_cons.mp hz with h8 | h8; rw [h8]; exact Or.inr ⟨by decide, IOB, hts (.classLink RL 13 IOB) (by decide +kernel), hNc⟩; exact absurd h8 List.not_mem_nil) (by decide) (by decide) (hts (.classLink RL 15 IAE) (by decide +kernel)) (va_Nw.use rfl hKX.1.2.1.1) hce hcv hcl ?_
      refine lv_astore (lv' := [(4, .ref q9), (0, .ref (ad 0)), (1, .int (nI k1)), (2, .int x2), (3, .ref o)]) hx hb dL_best_17 hl (by decide) rfl (fun ls hl => ?_)
      refine lv_iconst (v := nI 2) hx hb dL_best_19 (by decide) ?_
      refine W.widen (k := 1) (n := 6) (by first | omega | decide) (by first | omega | decide) ?_
      have ho9 := ho9.kept (hk _ ho9.lt (fun h9 => hno h9))
      have ht9 : tw_best (nI k1) x2 = nI 2 := by unfold tw_best; rw [if_neg c1, if_pos c2]
      exact W.iret (v := nI 2) hx hb hr (fun t ht _ => ⟨⟨nI 2, (), rfl, ht9.symm, by dsimp only; rw [ht]; exact ⟨f, ho9, fun h9 => absurd (ht9.symm.trans h9) (by decide)⟩⟩, by subst hAe; exact hS.F ht⟩) (by subst hAe; exact hS.2.2) dL_best_20
      ) (fun u t H1 locs1 ht hvm hf => hf.elim)
  obtain ⟨k2, hj2, hk2, rfl⟩ := inM_okL (m := 1) (n := 100) (by decide) (by decide) c2
  refine lv_aload_n hx hb dL_best_0 rfl (lv_at hl 3 rfl) ?_
  refine lv_iconst (v := nI 0) hx hb dL_best_1 (by decide) ?_
  refine lv_aload_n hx hb dL_best_2 rfl (lv_at hl 0 rfl) ?_
  refine lv_iload_n hx hb dL_best_3 rfl (lv_at hl 1 rfl) ?_
  refine lv_iload_n hx hb dL_best_4 rfl (lv_at hl 2 rfl) ?_
  refine vp_callSi (va_runV (As := [.int (nI k1), .int (nI k2)]) (rest := [.int (nI 0), .ref o]) ⟨hx, hb, hml, hown, hts⟩ (conX3_best l D T ad zz2 zz2 sr0 zr0 k1 (by omega) k2 (by omega) (by omega)) (cwV 2 hts gL_best_X3_best rfl rfl rfl (by decide +kernel) ⟨Nat.le_of_ble_eq_true rfl, Nat.le_of_ble_eq_true rfl⟩) (preV hK hw.o rfl hw) rfl rfl hl.1 rfl (lv_room (Nat.le_of_ble_eq_true rfl)) dL_best_5 ⟨Nat.le_of_ble_eq_true rfl, Nat.le_of_ble_eq_true rfl⟩).run (fun r hr9 => ?_)
  have hq9 : r = nI 0 := hr9.trans (bst_1 k2 _)
  subst hq9
  refine lv_i2l (v := (nI 0).toInt64) hx hb dL_best_8 rfl ?_
  refine q_last hx hb hK ho9 0 rfl (by decide) (by decide) hS hAo dL_best_9 (fun H1 locs1 ho9 hz oq hS => ?_)
  refine lv_goto (tgt := 21) hx hb dL_best_10 (by decide) ?_
  refine lv_iconst (v := nI 0) hx hb dL_best_21 (by decide) ?_
  refine W.widen (k := 1) (n := 6) (by first | omega | decide) (by first | omega | decide) ?_
  have ht9 : tw_best (nI k1) (nI k2) = nI 0 := by unfold tw_best; rw [if_neg c1, if_neg c2]
  exact W.iret (v := nI 0) hx hb hr (fun t ht _ => ⟨⟨nI 0, (), rfl, ht9.symm, by dsimp only; rw [ht]; exact ⟨_, ho9, fun _ => by dsimp only [vp_updL, vf_upd]; rfl⟩⟩, by subst hAe; exact hS.F ht⟩) (by subst hAe; exact hS.2.2) dL_best_22

set_option maxHeartbeats 4000000 in
set_option maxRecDepth 100000 in
theorem wr_saves (l : Launch) (hlt : l.stackTraces = false) (D : va_G) (T : Nat → ClassId) (N0 sz o : Nat) (ad : Nat → Nat) (f : Nat → Int64) (x1 x2 x3 : Int32) (hN : ∀ i : Nat, i < 37 → N0 ≤ ad i) (hNs : N0 ≤ sz) (hoa : ∀ i : Nat, i < 37 → o ≠ ad i) : Met l yL_saves wsL_saves ({ frames := 8, cells := 1, slots := 6, locals := 130 }) (cW D T N0 [.ref (ad 0), .int x1, .int x2, .int x3, .ref o] (fun H => H.size = sz ∧ PLW D T ad zz2 zz2 sr0 zr0 H ∧ pAt D H o (eL (T 6) 1 f))) (va_Qi (fun (r : Int32) (_ : Unit) => r = tw_saves x1 x2 x3) (fun _ t => LO D T o (tw_saves x1 x2 x3) ((nI 0).toInt64) t.heap) (WA ad o sz)) 1 6 (WA ad o sz) := by
  refine q_ofWH (cc := cL_saves) (maxL := 6) (ret := (some .int)) (hh := [(0, 12, 15, 13), (0, 12, 19, 15)]) (by decide) rfl ?_
  intro p e s m args below meth c s₁ B hml hv9
  obtain ⟨⟨rfl, hK, ⟨hsz, hw, ho9⟩, hKX⟩, hNc⟩ := hv9
  have hx := B.exec
  have hb := B.bytes
  have hr := B.returns
  have hts := atoms_spec (ws := wsL_saves) B.pre
  have hown : s.vm.findClass RL = some m.cls := findClass_of_methodNamed B.named
  have hlocks := B.notSynchronized
  have htab := vx_table (x := yL_saves) B (hts _ List.mem_cons_self)
  generalize hAe : WA ad o sz = A
  have hAs : ∀ q : Nat, SA ad s.heap.size q → A q := fun q h9 => by subst hAe; exact h9.elim Or.inl (fun h8 => Or.inr (Or.inr (by omega)))
  have hAn : ∀ q : Nat, s.heap.size ≤ q → A q := fun q h9 => hAs q (Or.inr h9)
  have hAp : ∀ q : Nat, PLA ad q → A q := fun q h9 => hAs q (Or.inl h9)
  have hAo : A o := by subst hAe; exact Or.inr (Or.inl rfl)
  have hno : ¬ s.heap.size ≤ o := by have h8 := ho9.lt; omega
  have hnq : ¬ PLA ad o := fun ⟨i, hi, h8⟩ => hoa i hi h8
  have hnp : ¬ SA ad s.heap.size o := fun h9 => h9.elim hnq hno
  have hS : va_S A s.heap s.heap [] := va_S.rf
  have hl := lv_entry ([.ref (ad 0), .int x1, .int x2, .int x3, .ref o]) (n := 6) (Nat.le_of_ble_eq_true rfl)
  rw [lg_entry_eq]
  generalize (lg_sl ([.ref (ad 0), .int x1, .int x2, .int x3, .ref o]) ++ List.replicate (6 - (lg_sl ([.ref (ad 0), .int x1, .int x2, .int x3, .ref o])).length) Slot.unset).toArray = ls at hl ⊢
  have hl : lv_has ls 6 [(0, .ref (ad 0)), (1, .int x1), (2, .int x2), (3, .int x3), (4, .ref o)] := hl
  by_cases c1 : inM x2 (nI 0) (nI 7) = 0
  · skip
    refine lv_aload hx hb dL_saves_0 (lv_at hl 4 rfl) ?_
    refine lv_iconst (v := nI 0) hx hb dL_saves_2 (by decide) ?_
    refine lv_aload_n hx hb dL_saves_3 rfl (lv_at hl 0 rfl) ?_
    refine lv_iload_n hx hb dL_saves_4 rfl (lv_at hl 1 rfl) ?_
    refine lv_iload_n hx hb dL_saves_5 rfl (lv_at hl 2 rfl) ?_
    refine lv_iload_n hx hb dL_saves_6 rfl (lv_at hl 3 rfl) ?_
    exact vx_callv (vx_runV (As := [.int x1, .int x2, .int x3]) (rest := [.int (nI 0), .ref o]) ⟨hx, hb, hml, hown, hts⟩ (thX3_saves_1 l hlt D T s.heap.size ad zz2 zz2 sr0 zr0 x1 x2 x3 (bad1 (by decide) c1)) (cwV 3 hts gL_saves_X3_saves rfl rfl rfl (by decide +kernel) ⟨Nat.le_of_ble_eq_true rfl, Nat.le_of_ble_eq_true rfl⟩) (preXV hK (hKX.up (by omega)) rfl hw.o rfl hw) rfl rfl hl.1 rfl (lv_room (Nat.le_of_ble_eq_true rfl)) dL_saves_7 ⟨Nat.le_of_ble_eq_true rfl, Nat.le_of_ble_eq_true rfl⟩) hS (fun q _ h9 => hAn q h9) (fun q h9 => hAn q h9) (fun q _ h9 => hAn q h9) (fun E ce q9 u t H1 locs1 ht hvm _ hE hz hk hS hce hcv hcl => by
      subst hE
      refine vx_catch (own := RL) (name := IOB) hown [] ⟨0, 12, 15, 13⟩ [⟨0, 12, 19, 15⟩] htab (fun z hz => absurd hz List.not_mem_nil) (by decide) (by decide) (hts (.classLink RL 13 IOB) (by decide +kernel)) (va_Nw.use rfl hKX.1.2.1.2) hce hcv hcl ?_
      refine lv_astore (lv' := [(5, .ref q9), (0, .ref (ad 0)), (1, .int x1), (2, .int x2), (3, .int x3), (4, .ref o)]) hx hb dL_saves_15 hl (by decide) rfl (fun ls hl => ?_)
      refine lv_iconst (v := nI 1) hx hb dL_saves_17 (by decide) ?_
      refine W.widen (k := 1) (n := 6) (by first | omega | decide) (by first | omega | decide) ?_
      have ho9 := ho9.kept (hk _ ho9.lt (fun h9 => hno h9))
      have ht9 : tw_saves x1 x2 x3 = nI 1 := by unfold tw_saves; rw [if_pos c1]
      exact W.iret (v := nI 1) hx hb hr (fun t ht _ => ⟨⟨nI 1, (), rfl, ht9.symm, by dsimp only; rw [ht]; exact ⟨f, ho9, fun h9 => absurd (ht9.symm.trans h9) (by decide)⟩⟩, by subst hAe; exact hS.F ht⟩) (by subst hAe; exact hS.2.2) dL_saves_18
      ) (fun u t H1 locs1 ht hvm hf => hf.elim)
  obtain ⟨k2, hk2, rfl⟩ := inM_ok (n := 7) (by decide) c1
  by_cases c2 : inM x3 (nI 0) (nI 7) = 0
  · skip
    refine lv_aload hx hb dL_saves_0 (lv_at hl 4 rfl) ?_
    refine lv_iconst (v := nI 0) hx hb dL_saves_2 (by decide) ?_
    refine lv_aload_n hx hb dL_saves_3 rfl (lv_at hl 0 rfl) ?_
    refine lv_iload_n hx hb dL_saves_4 rfl (lv_at hl 1 rfl) ?_
    refine lv_iload_n hx hb dL_saves_5 rfl (lv_at hl 2 rfl) ?_
    refine lv_iload_n hx hb dL_saves_6 rfl (lv_at hl 3 rfl) ?_
    exact vx_callv (vx_runV (As := [.int x1, .int (nI k2), .int x3]) (rest := [.int (nI 0), .ref o]) ⟨hx, hb, hml, hown, hts⟩ (thX3_saves_2 l hlt D T s.heap.size ad zz2 zz2 sr0 zr0 k2 x1 x3 (by omega) (bad2 (by decide) c2)) (cwV 3 hts gL_saves_X3_saves rfl rfl rfl (by decide +kernel) ⟨Nat.le_of_ble_eq_true rfl, Nat.le_of_ble_eq_true rfl⟩) (preXV hK (hKX.up (by omega)) rfl hw.o rfl hw) rfl rfl hl.1 rfl (lv_room (Nat.le_of_ble_eq_true rfl)) dL_saves_7 ⟨Nat.le_of_ble_eq_true rfl, Nat.le_of_ble_eq_true rfl⟩) hS (fun q _ h9 => hAn q h9) (fun q h9 => hAn q h9) (fun q _ h9 => hAn q h9) (fun E ce q9 u t H1 locs1 ht hvm _ hE hz hk hS hce hcv hcl => by
      subst hE
      refine vx_catch (own := RL) (name := IOB) hown [] ⟨0, 12, 15, 13⟩ [⟨0, 12, 19, 15⟩] htab (fun z hz => absurd hz List.not_mem_nil) (by decide) (by decide) (hts (.classLink RL 13 IOB) (by decide +kernel)) (va_Nw.use rfl hKX.1.2.1.2) hce hcv hcl ?_
      refine lv_astore (lv' := [(5, .ref q9), (0, .ref (ad 0)), (1, .int x1), (2, .int (nI k2)), (3, .int x3), (4, .ref o)]) hx hb dL_saves_15 hl (by decide) rfl (fun ls hl => ?_)
      refine lv_iconst (v := nI 1) hx hb dL_saves_17 (by decide) ?_
      refine W.widen (k := 1) (n := 6) (by first | omega | decide) (by first | omega | decide) ?_
      have ho9 := ho9.kept (hk _ ho9.lt (fun h9 => hno h9))
      have ht9 : tw_saves x1 (nI k2) x3 = nI 1 := by unfold tw_saves; rw [if_neg c1, if_pos c2]
      exact W.iret (v := nI 1) hx hb hr (fun t ht _ => ⟨⟨nI 1, (), rfl, ht9.symm, by dsimp only; rw [ht]; exact ⟨f, ho9, fun h9 => absurd (ht9.symm.trans h9) (by decide)⟩⟩, by subst hAe; exact hS.F ht⟩) (by subst hAe; exact hS.2.2) dL_saves_18
      ) (fun u t H1 locs1 ht hvm hf => hf.elim)
  obtain ⟨k3, hk3, rfl⟩ := inM_ok (n := 7) (by decide) c2
  by_cases c3 : inM x1 (nI 0) (nI 255) = 0
  · skip
    refine lv_aload hx hb dL_saves_0 (lv_at hl 4 rfl) ?_
    refine lv_iconst (v := nI 0) hx hb dL_saves_2 (by decide) ?_
    refine lv_aload_n hx hb dL_saves_3 rfl (lv_at hl 0 rfl) ?_
    refine lv_iload_n hx hb dL_saves_4 rfl (lv_at hl 1 rfl) ?_
    refine lv_iload_n hx hb dL_saves_5 rfl (lv_at hl 2 rfl) ?_
    refine lv_iload_n hx hb dL_saves_6 rfl (lv_at hl 3 rfl) ?_
    exact vx_callv (vx_runV (As := [.int x1, .int (nI k2), .int (nI k3)]) (rest := [.int (nI 0), .ref o]) ⟨hx, hb, hml, hown, hts⟩ (thX3_saves_3 l hlt D T s.heap.size ad zz2 zz2 sr0 zr0 k2 k3 x1 (by omega) (by omega) (bad3 c3)) (cwV 3 hts gL_saves_X3_saves rfl rfl rfl (by decide +kernel) ⟨Nat.le_of_ble_eq_true rfl, Nat.le_of_ble_eq_true rfl⟩) (preXV hK (hKX.up (by omega)) rfl hw.o rfl hw) rfl rfl hl.1 rfl (lv_room (Nat.le_of_ble_eq_true rfl)) dL_saves_7 ⟨Nat.le_of_ble_eq_true rfl, Nat.le_of_ble_eq_true rfl⟩) hS (fun q _ h9 => hAn q h9) (fun q h9 => hAn q h9) (fun q _ h9 => hAn q h9) (fun E ce q9 u t H1 locs1 ht hvm _ hE hz hk hS hce hcv hcl => by
      subst hE
      refine vx_catch (own := RL) (name := IAE) hown [⟨0, 12, 15, 13⟩] ⟨0, 12, 19, 15⟩ [] htab (fun z hz => by rcases List.mem_cons.mp hz with h8 | h8; rw [h8]; exact Or.inr ⟨by decide, IOB, hts (.classLink RL 13 IOB) (by decide +kernel), hNc⟩; exact absurd h8 List.not_mem_nil) (by decide) (by decide) (hts (.classLink RL 15 IAE) (by decide +kernel)) (va_Nw.use rfl hKX.1.2.1.1) hce hcv hcl ?_
      refine lv_astore (lv' := [(5, .ref q9), (0, .ref (ad 0)), (1, .int x1), (2, .int (nI k2)), (3, .int (nI k3)), (4, .ref o)]) hx hb dL_saves_19 hl (by decide) rfl (fun ls hl => ?_)
      refine lv_iconst (v := nI 2) hx hb dL_saves_21 (by decide) ?_
      refine W.widen (k := 1) (n := 6) (by first | omega | decide) (by first | omega | decide) ?_
      have ho9 := ho9.kept (hk _ ho9.lt (fun h9 => hno h9))
      have ht9 : tw_saves x1 (nI k2) (nI k3) = nI 2 := by unfold tw_saves; rw [if_neg c1, if_neg c2, if_pos c3]
      exact W.iret (v := nI 2) hx hb hr (fun t ht _ => ⟨⟨nI 2, (), rfl, ht9.symm, by dsimp only; rw [ht]; exact ⟨f, ho9, fun h9 => absurd (ht9.symm.trans h9) (by decide)⟩⟩, by subst hAe; exact hS.F ht⟩) (by subst hAe; exact hS.2.2) dL_saves_22
      ) (fun u t H1 locs1 ht hvm hf => hf.elim)
  obtain ⟨k1, hk1, rfl⟩ := inM_ok (n := 255) (by decide) c3
  refine lv_aload hx hb dL_saves_0 (lv_at hl 4 rfl) ?_
  refine lv_iconst (v := nI 0) hx hb dL_saves_2 (by decide) ?_
  refine lv_aload_n hx hb dL_saves_3 rfl (lv_at hl 0 rfl) ?_
  refine lv_iload_n hx hb dL_saves_4 rfl (lv_at hl 1 rfl) ?_
  refine lv_iload_n hx hb dL_saves_5 rfl (lv_at hl 2 rfl) ?_
  refine lv_iload_n hx hb dL_saves_6 rfl (lv_at hl 3 rfl) ?_
  refine vp_callSi (va_runV (As := [.int (nI k1), .int (nI k2), .int (nI k3)]) (rest := [.int (nI 0), .ref o]) ⟨hx, hb, hml, hown, hts⟩ (conX3_saves l D T ad zz2 zz2 sr0 zr0 k2 k3 k1 (by omega) (by omega) (by omega) emp0) (cwV 3 hts gL_saves_X3_saves rfl rfl rfl (by decide +kernel) ⟨Nat.le_of_ble_eq_true rfl, Nat.le_of_ble_eq_true rfl⟩) (preV hK hw.o rfl hw) rfl rfl hl.1 rfl (lv_room (Nat.le_of_ble_eq_true rfl)) dL_saves_7 ⟨Nat.le_of_ble_eq_true rfl, Nat.le_of_ble_eq_true rfl⟩).run (fun r hr9 => ?_)
  have hq9 : r = nI 0 := hr9.trans (rfl)
  subst hq9
  refine lv_i2l (v := (nI 0).toInt64) hx hb dL_saves_10 rfl ?_
  refine q_last hx hb hK ho9 0 rfl (by decide) (by decide) hS hAo dL_saves_11 (fun H1 locs1 ho9 hz oq hS => ?_)
  refine lv_goto (tgt := 23) hx hb dL_saves_12 (by decide) ?_
  refine lv_iconst (v := nI 0) hx hb dL_saves_23 (by decide) ?_
  refine W.widen (k := 1) (n := 6) (by first | omega | decide) (by first | omega | decide) ?_
  have ht9 : tw_saves (nI k1) (nI k2) (nI k3) = nI 0 := by unfold tw_saves; rw [if_neg c1, if_neg c2, if_neg c3]
  exact W.iret (v := nI 0) hx hb hr (fun t ht _ => ⟨⟨nI 0, (), rfl, ht9.symm, by dsimp only; rw [ht]; exact ⟨_, ho9, fun _ => by dsimp only [vp_updL, vf_upd]; rfl⟩⟩, by subst hAe; exact hS.F ht⟩) (by subst hAe; exact hS.2.2) dL_saves_24
