/-! THE LAW'S CASES ON A FRESH OBJECT -/
theorem wa_N {ad : Nat → Nat} {m0 o z N0 q : Nat} (had : ∀ i : Nat, i < 37 → N0 ≤ ad i ∧ ad i < m0) (ho : N0 ≤ o) (hz : N0 ≤ z) (h : WA ad o z q) : N0 ≤ q := by
  rcases h with ⟨i, hi, h⟩ | h | h
  · rw [h]; exact (had i hi).1
  · rw [h]; exact ho
  · exact Nat.le_trans hz h
theorem wa_m {ad : Nat → Nat} {m0 o z N0 q : Nat} (had : ∀ i : Nat, i < 37 → N0 ≤ ad i ∧ ad i < m0) (ho : m0 + 16 ≤ o) (hz : m0 + 16 ≤ z) (h7 : m0 ≤ q) (h8 : q < m0 + 16) : ¬ WA ad o z q := by
  intro h
  rcases h with ⟨i, hi, h⟩ | h | h
  · have := (had i hi).2
    omega
  · omega
  · omega
theorem pa_N {ad : Nat → Nat} {m0 N0 q : Nat} (had : ∀ i : Nat, i < 37 → N0 ≤ ad i ∧ ad i < m0) (h : PLA ad q) : N0 ≤ q := by
  obtain ⟨i, hi, h⟩ := h
  rw [h]
  exact (had i hi).1
theorem pa_m {ad : Nat → Nat} {m0 N0 q : Nat} (had : ∀ i : Nat, i < 37 → N0 ≤ ad i ∧ ad i < m0) (h7 : m0 ≤ q) : ¬ PLA ad q := by
  intro h
  obtain ⟨i, hi, h⟩ := h
  have := (had i hi).2
  omega
theorem ma_N {m0 z N0 a q : Nat} (h1 : N0 ≤ a ∧ a < m0) (hz : N0 ≤ z) (h : MA m0 z q) : N0 ≤ q := by
  rcases h with h | h <;> omega
theorem ma_o {m0 z o : Nat} (h1 : m0 + 16 ≤ o) (h2 : o < z) (h : MA m0 z o) : False := by
  rcases h with h | h <;> omega
theorem lg_z (x : Int64) : lg_cmp x x = 0 := by
  have h1 : ¬ x < x := Int64.lt_irrefl
  simp [lg_cmp]
theorem dc_z : Op.cmpValue (FP.dcmp FP.dconst0 FP.dconst0) .l = 0 := by decide +kernel
section FWL
variable {p : Program} {l : Launch} {e : Env} {R : Room} {s : State} {m : MethodId} {args : Array Value} {below : List Frame} {meth : Method} {c : Code} {H : Heap} {locs : List Loc} {cells slots : Nat} {Q : State → Prop}
variable {cc : ByteArray} {pc : Nat} {ls : Array Slot} {rest : List Value} {A : Nat → Prop} {H0 : Heap}
theorem q_sld (hexec : p.tables.exec = Jvm.exec) (hb : c.code = cc) {b L : Nat} {xs : Nat → Int32} (hX : va_X b L xs s H0) (hbl : b < H0.size) (hbA : ¬ A b) (hS : va_S A H0 H locs) {i : Int32} (j : Nat) (hi : i = nI j) (hj : j < L ∧ L < 2 ^ 31) (hdg : decode cc pc = .ok (.iaload, 1))
    (kk : W p l e R s m args below meth c H locs cells slots Q (F0 m (pc + 1) ls (.int (xs j) :: rest))) : W p l e R s m args below meth c H locs cells slots Q (F0 m pc ls (.int i :: .ref b :: rest)) := by
  subst hi
  refine va_sld hexec hb hX hbl hbA hS (vp_in_nI hj.1 hj.2) hdg ?_
  rw [nI_clamp (by omega)]
  exact kk
end FWL
set_option maxHeartbeats 4000000 in
set_option maxRecDepth 100000 in
theorem lc_span {p : Program} {e : Env} {s : State} {m : MethodId} {below : List Frame} {meth : Method} {c : Code} {l : Launch} {b : Nat} {xs : Nat → Int32} {D : va_G} {T : Nat → ClassId} {ad : Nat → Nat} {m0 o o2 : Nat} {H : Heap} {locs : List Loc} {ls : Array Slot} {Q : State → Prop} (hlt : l.stackTraces = false) (hx : p.tables.exec = Jvm.exec) (hb : c.code = cL_law) (hr : meth.sig.returnType = ret) (hml : c.maxLocals = 9) (hown : s.vm.findClass RL = some m.cls) (hts : ∀ w ∈ wsL_law, w.before #[Value.ref b] s = true) (hK : KB D T s) (hKX : KX s.heap.size s) (hNc : va_Nc IAE IOB s) (hX : va_X b 6 xs s s.heap) (hbl : b < s.heap.size) (hS : va_S (fun q : Nat => s.heap.size ≤ q) s.heap H locs) (hw : PLW D T ad zz2 zz2 sr0 zr0 H) (hm : MF D T m0 (nI 0) H) (ho : pAt D H o (eL (T 6) 1 (fun _ => 0))) (ho2 : pAt D H o2 (eD (T 7) 1 (fun _ => 0))) (had : ∀ i : Nat, i < 37 → s.heap.size ≤ ad i ∧ ad i < m0) (hmo : m0 + 16 ≤ o) (hoo : o < o2) (hl : lv_has ls 9 [(5, .int (nI 0)), (4, .ref o2), (3, .ref o), (2, .ref m0), (1, .ref (ad 0)), (0, .ref b)]) (kk : ∀ (H1 : Heap) (locs1 : List Loc) (ls1 : Array Slot), va_S (fun q : Nat => s.heap.size ≤ q) s.heap H1 locs1 → lv_has ls1 9 [(5, .int (nI 0)), (0, .ref b)] → W p l e room_1 s m #[Value.ref b] below meth c H1 locs1 1000 100000 Q (F0 m 2402 ls1 [])) : W p l e room_1 s m #[Value.ref b] below meth c H locs 100 10000 Q (F0 m 180 ls []) := by
  refine lv_aload_n hx hb dL_law_180 rfl (lv_at hl 4 rfl) ?_
  refine lv_aload_n hx hb dL_law_181 rfl (lv_at hl 5 rfl) ?_
  refine lv_iload hx hb dL_law_182 (lv_at hl 0 rfl) ?_
  refine lv_iconst (v := nI 1) hx hb dL_law_184 (by decide) ?_
  refine lv_iadd hx hb dL_law_185 ?_
  rw [nI_add]
  refine q_sld hx hb hX hbl (Nat.not_le.mpr hbl) hS 1 rfl (by omega) dL_law_186 ?_
  refine lv_aload_n hx hb dL_law_187 rfl (lv_at hl 5 rfl) ?_
  refine lv_iload hx hb dL_law_188 (lv_at hl 0 rfl) ?_
  refine lv_iconst (v := nI 2) hx hb dL_law_190 (by decide) ?_
  refine lv_iadd hx hb dL_law_191 ?_
  rw [nI_add]
  refine q_sld hx hb hX hbl (Nat.not_le.mpr hbl) hS 2 rfl (by omega) dL_law_192 ?_
  refine lv_aload_n hx hb dL_law_193 rfl (lv_at hl 5 rfl) ?_
  refine lv_iload hx hb dL_law_194 (lv_at hl 0 rfl) ?_
  refine lv_iconst (v := nI 3) hx hb dL_law_196 (by decide) ?_
  refine lv_iadd hx hb dL_law_197 ?_
  rw [nI_add]
  refine q_sld hx hb hX hbl (Nat.not_le.mpr hbl) hS 3 rfl (by omega) dL_law_198 ?_
  refine lv_aload_n hx hb dL_law_199 rfl (lv_at hl 5 rfl) ?_
  refine lv_iload hx hb dL_law_200 (lv_at hl 0 rfl) ?_
  refine lv_iconst (v := nI 4) hx hb dL_law_202 (by decide) ?_
  refine lv_iadd hx hb dL_law_203 ?_
  rw [nI_add]
  refine q_sld hx hb hX hbl (Nat.not_le.mpr hbl) hS 4 rfl (by omega) dL_law_204 ?_
  refine lv_aload_n hx hb dL_law_205 rfl (lv_at hl 5 rfl) ?_
  refine lv_iload hx hb dL_law_206 (lv_at hl 0 rfl) ?_
  refine lv_iconst (v := nI 5) hx hb dL_law_208 (by decide) ?_
  refine lv_iadd hx hb dL_law_209 ?_
  rw [nI_add]
  refine q_sld hx hb hX hbl (Nat.not_le.mpr hbl) hS 5 rfl (by omega) dL_law_210 ?_
  refine lv_if_eq (tgt := 218) hx hb dL_law_211 (by decide) (fun c211 => ?_) (fun c211 => ?_)
  · skip
    refine lv_iconst (v := nI 0) hx hb dL_law_218 (by decide) ?_
    refine lv_aload_n hx hb dL_law_219 rfl (lv_at hl 2 rfl) ?_
    obtain ⟨z1, hq1⟩ : ∃ z : Nat, z = H.size := ⟨_, rfl⟩
    have lm := hm.lt
    have lo := ho.lt
    refine va_calli (vx_runSW (As := [.ref (ad 0), .int (xs 1), .int (xs 2), .int (xs 3), .int (xs 4), .int (nI 0), .ref o]) (rest := []) ⟨hx, hb, hml, hown, hts⟩ (wr_span l hlt D T s.heap.size z1 o ad _ (xs 1) (xs 2) (xs 3) (xs 4) (nI 0) rfl (fun i hi => (had i hi).1) (by have := hS.1; omega) (fun i hi => by have := had i hi; omega)) (vx_cwSW 7 hts gL_law_L_span rfl rfl rfl (by decide +kernel) ⟨Nat.le_of_ble_eq_true rfl, Nat.le_of_ble_eq_true rfl⟩) (preW hK hKX.1 (fun U hU hA => hKX.2.kept hA (fun a h1 h2 => by rw [hU]; exact hS.2.1 a h1 h2)) hNc ⟨hq1.symm, hw, ho⟩) rfl rfl hl.1 rfl (lv_room (Nat.le_of_ble_eq_true rfl)) dL_law_220 ⟨Nat.le_of_ble_eq_true rfl, Nat.le_of_ble_eq_true rfl⟩) hS (fun q _ h9 => wa_N had (by have := had 0 (by omega); omega) (by have := hS.1; omega) h9) (fun q h9 => wa_N had (by have := had 0 (by omega); omega) (by have := hS.1; omega) h9) (fun r u t H1 locs1 ht hvm hr9 hB hz8 hk1 hS => ?_)
    try dsimp only at hB
    rw [ht] at hB
    replace hm := hm.kept hk1 (fun q h7 h8 => wa_m had (by omega) (by omega) h7 h8)
    obtain ⟨g, hg1, hg2⟩ := hB
    rw [hr9]
    refine lv_istore (lv' := [(6, .int (tw_span (xs 1) (xs 2) (xs 3) (xs 4) (nI 0))), (5, .int (nI 0)), (4, .ref o2), (3, .ref o), (2, .ref m0), (1, .ref (ad 0)), (0, .ref b)]) hx hb dL_law_223 hl (by decide) rfl (fun ls hl => ?_)
    refine lv_aload_n hx hb dL_law_225 rfl (lv_at hl 4 rfl) ?_
    refine lv_aload_n hx hb dL_law_226 rfl (lv_at hl 6 rfl) ?_
    refine lv_iload hx hb dL_law_227 (lv_at hl 1 rfl) ?_
    refine lv_iconst (v := nI 1) hx hb dL_law_229 (by decide) ?_
    refine lv_iadd hx hb dL_law_230 ?_
    rw [nI_add]
    refine q_sld hx hb hX hbl (Nat.not_le.mpr hbl) hS 1 rfl (by omega) dL_law_231 ?_
    refine lv_aload_n hx hb dL_law_232 rfl (lv_at hl 6 rfl) ?_
    refine lv_iload hx hb dL_law_233 (lv_at hl 1 rfl) ?_
    refine lv_iconst (v := nI 2) hx hb dL_law_235 (by decide) ?_
    refine lv_iadd hx hb dL_law_236 ?_
    rw [nI_add]
    refine q_sld hx hb hX hbl (Nat.not_le.mpr hbl) hS 2 rfl (by omega) dL_law_237 ?_
    refine lv_aload_n hx hb dL_law_238 rfl (lv_at hl 6 rfl) ?_
    refine lv_iload hx hb dL_law_239 (lv_at hl 1 rfl) ?_
    refine lv_iconst (v := nI 3) hx hb dL_law_241 (by decide) ?_
    refine lv_iadd hx hb dL_law_242 ?_
    rw [nI_add]
    refine q_sld hx hb hX hbl (Nat.not_le.mpr hbl) hS 3 rfl (by omega) dL_law_243 ?_
    refine lv_aload_n hx hb dL_law_244 rfl (lv_at hl 6 rfl) ?_
    refine lv_iload hx hb dL_law_245 (lv_at hl 1 rfl) ?_
    refine lv_iconst (v := nI 4) hx hb dL_law_247 (by decide) ?_
    refine lv_iadd hx hb dL_law_248 ?_
    rw [nI_add]
    refine q_sld hx hb hX hbl (Nat.not_le.mpr hbl) hS 4 rfl (by omega) dL_law_249 ?_
    refine lv_aload_n hx hb dL_law_250 rfl (lv_at hl 6 rfl) ?_
    refine lv_iload hx hb dL_law_251 (lv_at hl 1 rfl) ?_
    refine lv_iconst (v := nI 5) hx hb dL_law_253 (by decide) ?_
    refine lv_iadd hx hb dL_law_254 ?_
    rw [nI_add]
    refine q_sld hx hb hX hbl (Nat.not_le.mpr hbl) hS 5 rfl (by omega) dL_law_255 ?_
    refine lv_if_eq (tgt := 263) hx hb dL_law_256 (by decide) (fun c256 => ?_) (fun c256 => ?_)
    · skip
      refine lv_iconst (v := nI 0) hx hb dL_law_263 (by decide) ?_
      obtain ⟨z2, hq2⟩ : ∃ z : Nat, z = H1.size := ⟨_, rfl⟩
      have lm2 := hm.lt
      have lg := hg1.lt
      refine va_calli (va_runV (As := [.int (xs 1), .int (xs 2), .int (xs 3), .int (xs 4), .int (nI 0)]) (rest := []) ⟨hx, hb, hml, hown, hts⟩ (conX4_span l D T z2 m0 (nI 0) (xs 1) (xs 2) (xs 3) (xs 4) (nI 0) rfl) (cwV 5 hts gL_law_X4_span rfl rfl rfl (by decide +kernel) ⟨Nat.le_of_ble_eq_true rfl, Nat.le_of_ble_eq_true rfl⟩) (preV hK hm.o rfl ⟨hq2.symm, hm⟩) rfl rfl hl.1 rfl (lv_room (Nat.le_of_ble_eq_true rfl)) dL_law_264 ⟨Nat.le_of_ble_eq_true rfl, Nat.le_of_ble_eq_true rfl⟩) hS (fun q _ h9 => ma_N (had 0 (by omega)) (by have := hS.1; omega) h9) (fun q h9 => ma_N (had 0 (by omega)) (by have := hS.1; omega) h9) (fun r2 u2 t2 H2 locs2 ht2 hvm2 hr2 hB2 hz9 hk2 hS => ?_)
      try dsimp only at hB2
      rw [ht2] at hB2
      replace hg1 := hg1.kept (hk2 _ hg1.lt (fun h9 => ma_o (by omega) (by omega) h9))
      obtain ⟨vs, vv, hmt⟩ := hB2
      refine lv_istore (lv' := [(7, .int r2), (6, .int (tw_span (xs 1) (xs 2) (xs 3) (xs 4) (nI 0))), (5, .int (nI 0)), (4, .ref o2), (3, .ref o), (2, .ref m0), (1, .ref (ad 0)), (0, .ref b)]) hx hb dL_law_267 hl (by decide) rfl (fun ls hl => ?_)
      refine lv_aload_n hx hb dL_law_269 rfl (lv_at hl 5 rfl) ?_
      refine vp_callSi (va_runV (As := []) (rest := []) ⟨hx, hb, hml, hown, hts⟩ (conX4_thrown l D T m0 (tw_span (xs 1) (xs 2) (xs 3) (xs 4) (nI 0)) vs vv) (cwV 0 hts gL_law_X4_thrown rfl rfl rfl (by decide +kernel) ⟨Nat.le_of_ble_eq_true rfl, Nat.le_of_ble_eq_true rfl⟩) (preV hK hmt rfl hmt) rfl rfl hl.1 rfl (lv_room (Nat.le_of_ble_eq_true rfl)) dL_law_270 ⟨Nat.le_of_ble_eq_true rfl, Nat.le_of_ble_eq_true rfl⟩).run (fun r3 hr3 => ?_)
      rw [hr3]
      refine lv_iload hx hb dL_law_273 (lv_at hl 1 rfl) ?_
      refine lv_icmp_eq (tgt := 280) hx hb dL_law_275 (by decide) (fun c275 => ?_) (fun c275 => ?_)
      · skip
        refine lv_iload hx hb dL_law_280 (lv_at hl 1 rfl) ?_
        refine lv_if_ne (tgt := 297) hx hb dL_law_282 (by decide) (fun c282 => ?_) (fun c282 => ?_)
        · skip
          refine lv_goto (tgt := 2402) hx hb dL_law_297 (by decide) ?_
          refine W.widen (k := 1000) (n := 100000) (by decide) (by decide) ?_
          exact kk _ _ _ hS (lv_sub hl [2, 7] rfl)
        · skip
          refine lv_aload_n hx hb dL_law_285 rfl (lv_at hl 4 rfl) ?_
          refine lv_iconst (v := nI 0) hx hb dL_law_286 (by decide) ?_
          refine q_lald hx hb hK hg1 0 (rfl) (by omega) (by decide) dL_law_287 ?_
          refine lv_iload hx hb dL_law_288 (lv_at hl 0 rfl) ?_
          refine lv_i2l (v := r2.toInt64) hx hb dL_law_290 rfl ?_
          refine W.lcmp hx hb dL_law_291 ?_
          have hv9 : lg_cmp (g 0) r2.toInt64 = 0 := by rw [hg2 c282, hr2 c282]; exact lg_z _
          refine lv_if_eq (tgt := 297) hx hb dL_law_292 (by decide) (fun c292 => ?_) (fun c292 => ?_)
          · skip
            refine lv_goto (tgt := 2402) hx hb dL_law_297 (by decide) ?_
            refine W.widen (k := 1000) (n := 100000) (by decide) (by decide) ?_
            exact kk _ _ _ hS (lv_sub hl [2, 7] rfl)
          · skip
            exact absurd hv9 c292
      · skip
        exact absurd rfl c275
    · skip
      exact absurd c211 c256
  · skip
    refine lv_iconst (v := nI 1) hx hb dL_law_214 (by decide) ?_
    refine lv_goto (tgt := 219) hx hb dL_law_215 (by decide) ?_
    refine lv_aload_n hx hb dL_law_219 rfl (lv_at hl 2 rfl) ?_
    obtain ⟨z1, hq1⟩ : ∃ z : Nat, z = H.size := ⟨_, rfl⟩
    have lm := hm.lt
    have lo := ho.lt
    refine va_calli (vx_runSW (As := [.ref (ad 0), .int (xs 1), .int (xs 2), .int (xs 3), .int (xs 4), .int (nI 1), .ref o]) (rest := []) ⟨hx, hb, hml, hown, hts⟩ (wr_span l hlt D T s.heap.size z1 o ad _ (xs 1) (xs 2) (xs 3) (xs 4) (nI 1) rfl (fun i hi => (had i hi).1) (by have := hS.1; omega) (fun i hi => by have := had i hi; omega)) (vx_cwSW 7 hts gL_law_L_span rfl rfl rfl (by decide +kernel) ⟨Nat.le_of_ble_eq_true rfl, Nat.le_of_ble_eq_true rfl⟩) (preW hK hKX.1 (fun U hU hA => hKX.2.kept hA (fun a h1 h2 => by rw [hU]; exact hS.2.1 a h1 h2)) hNc ⟨hq1.symm, hw, ho⟩) rfl rfl hl.1 rfl (lv_room (Nat.le_of_ble_eq_true rfl)) dL_law_220 ⟨Nat.le_of_ble_eq_true rfl, Nat.le_of_ble_eq_true rfl⟩) hS (fun q _ h9 => wa_N had (by have := had 0 (by omega); omega) (by have := hS.1; omega) h9) (fun q h9 => wa_N had (by have := had 0 (by omega); omega) (by have := hS.1; omega) h9) (fun r u t H1 locs1 ht hvm hr9 hB hz8 hk1 hS => ?_)
    try dsimp only at hB
    rw [ht] at hB
    replace hm := hm.kept hk1 (fun q h7 h8 => wa_m had (by omega) (by omega) h7 h8)
    obtain ⟨g, hg1, hg2⟩ := hB
    rw [hr9]
    refine lv_istore (lv' := [(6, .int (tw_span (xs 1) (xs 2) (xs 3) (xs 4) (nI 1))), (5, .int (nI 0)), (4, .ref o2), (3, .ref o), (2, .ref m0), (1, .ref (ad 0)), (0, .ref b)]) hx hb dL_law_223 hl (by decide) rfl (fun ls hl => ?_)
    refine lv_aload_n hx hb dL_law_225 rfl (lv_at hl 4 rfl) ?_
    refine lv_aload_n hx hb dL_law_226 rfl (lv_at hl 6 rfl) ?_
    refine lv_iload hx hb dL_law_227 (lv_at hl 1 rfl) ?_
    refine lv_iconst (v := nI 1) hx hb dL_law_229 (by decide) ?_
    refine lv_iadd hx hb dL_law_230 ?_
    rw [nI_add]
    refine q_sld hx hb hX hbl (Nat.not_le.mpr hbl) hS 1 rfl (by omega) dL_law_231 ?_
    refine lv_aload_n hx hb dL_law_232 rfl (lv_at hl 6 rfl) ?_
    refine lv_iload hx hb dL_law_233 (lv_at hl 1 rfl) ?_
    refine lv_iconst (v := nI 2) hx hb dL_law_235 (by decide) ?_
    refine lv_iadd hx hb dL_law_236 ?_
    rw [nI_add]
    refine q_sld hx hb hX hbl (Nat.not_le.mpr hbl) hS 2 rfl (by omega) dL_law_237 ?_
    refine lv_aload_n hx hb dL_law_238 rfl (lv_at hl 6 rfl) ?_
    refine lv_iload hx hb dL_law_239 (lv_at hl 1 rfl) ?_
    refine lv_iconst (v := nI 3) hx hb dL_law_241 (by decide) ?_
    refine lv_iadd hx hb dL_law_242 ?_
    rw [nI_add]
    refine q_sld hx hb hX hbl (Nat.not_le.mpr hbl) hS 3 rfl (by omega) dL_law_243 ?_
    refine lv_aload_n hx hb dL_law_244 rfl (lv_at hl 6 rfl) ?_
    refine lv_iload hx hb dL_law_245 (lv_at hl 1 rfl) ?_
    refine lv_iconst (v := nI 4) hx hb dL_law_247 (by decide) ?_
    refine lv_iadd hx hb dL_law_248 ?_
    rw [nI_add]
    refine q_sld hx hb hX hbl (Nat.not_le.mpr hbl) hS 4 rfl (by omega) dL_law_249 ?_
    refine lv_aload_n hx hb dL_law_250 rfl (lv_at hl 6 rfl) ?_
    refine lv_iload hx hb dL_law_251 (lv_at hl 1 rfl) ?_
    refine lv_iconst (v := nI 5) hx hb dL_law_253 (by decide) ?_
    refine lv_iadd hx hb dL_law_254 ?_
    rw [nI_add]
    refine q_sld hx hb hX hbl (Nat.not_le.mpr hbl) hS 5 rfl (by omega) dL_law_255 ?_
    refine lv_if_eq (tgt := 263) hx hb dL_law_256 (by decide) (fun c256 => ?_) (fun c256 => ?_)
    · skip
      exact absurd c256 c211
    · skip
      refine lv_iconst (v := nI 1) hx hb dL_law_259 (by decide) ?_
      refine lv_goto (tgt := 264) hx hb dL_law_260 (by decide) ?_
      obtain ⟨z2, hq2⟩ : ∃ z : Nat, z = H1.size := ⟨_, rfl⟩
      have lm2 := hm.lt
      have lg := hg1.lt
      refine va_calli (va_runV (As := [.int (xs 1), .int (xs 2), .int (xs 3), .int (xs 4), .int (nI 1)]) (rest := []) ⟨hx, hb, hml, hown, hts⟩ (conX4_span l D T z2 m0 (nI 0) (xs 1) (xs 2) (xs 3) (xs 4) (nI 1) rfl) (cwV 5 hts gL_law_X4_span rfl rfl rfl (by decide +kernel) ⟨Nat.le_of_ble_eq_true rfl, Nat.le_of_ble_eq_true rfl⟩) (preV hK hm.o rfl ⟨hq2.symm, hm⟩) rfl rfl hl.1 rfl (lv_room (Nat.le_of_ble_eq_true rfl)) dL_law_264 ⟨Nat.le_of_ble_eq_true rfl, Nat.le_of_ble_eq_true rfl⟩) hS (fun q _ h9 => ma_N (had 0 (by omega)) (by have := hS.1; omega) h9) (fun q h9 => ma_N (had 0 (by omega)) (by have := hS.1; omega) h9) (fun r2 u2 t2 H2 locs2 ht2 hvm2 hr2 hB2 hz9 hk2 hS => ?_)
      try dsimp only at hB2
      rw [ht2] at hB2
      replace hg1 := hg1.kept (hk2 _ hg1.lt (fun h9 => ma_o (by omega) (by omega) h9))
      obtain ⟨vs, vv, hmt⟩ := hB2
      refine lv_istore (lv' := [(7, .int r2), (6, .int (tw_span (xs 1) (xs 2) (xs 3) (xs 4) (nI 1))), (5, .int (nI 0)), (4, .ref o2), (3, .ref o), (2, .ref m0), (1, .ref (ad 0)), (0, .ref b)]) hx hb dL_law_267 hl (by decide) rfl (fun ls hl => ?_)
      refine lv_aload_n hx hb dL_law_269 rfl (lv_at hl 5 rfl) ?_
      refine vp_callSi (va_runV (As := []) (rest := []) ⟨hx, hb, hml, hown, hts⟩ (conX4_thrown l D T m0 (tw_span (xs 1) (xs 2) (xs 3) (xs 4) (nI 1)) vs vv) (cwV 0 hts gL_law_X4_thrown rfl rfl rfl (by decide +kernel) ⟨Nat.le_of_ble_eq_true rfl, Nat.le_of_ble_eq_true rfl⟩) (preV hK hmt rfl hmt) rfl rfl hl.1 rfl (lv_room (Nat.le_of_ble_eq_true rfl)) dL_law_270 ⟨Nat.le_of_ble_eq_true rfl, Nat.le_of_ble_eq_true rfl⟩).run (fun r3 hr3 => ?_)
      rw [hr3]
      refine lv_iload hx hb dL_law_273 (lv_at hl 1 rfl) ?_
      refine lv_icmp_eq (tgt := 280) hx hb dL_law_275 (by decide) (fun c275 => ?_) (fun c275 => ?_)
      · skip
        refine lv_iload hx hb dL_law_280 (lv_at hl 1 rfl) ?_
        refine lv_if_ne (tgt := 297) hx hb dL_law_282 (by decide) (fun c282 => ?_) (fun c282 => ?_)
        · skip
          refine lv_goto (tgt := 2402) hx hb dL_law_297 (by decide) ?_
          refine W.widen (k := 1000) (n := 100000) (by decide) (by decide) ?_
          exact kk _ _ _ hS (lv_sub hl [2, 7] rfl)
        · skip
          refine lv_aload_n hx hb dL_law_285 rfl (lv_at hl 4 rfl) ?_
          refine lv_iconst (v := nI 0) hx hb dL_law_286 (by decide) ?_
          refine q_lald hx hb hK hg1 0 (rfl) (by omega) (by decide) dL_law_287 ?_
          refine lv_iload hx hb dL_law_288 (lv_at hl 0 rfl) ?_
          refine lv_i2l (v := r2.toInt64) hx hb dL_law_290 rfl ?_
          refine W.lcmp hx hb dL_law_291 ?_
          have hv9 : lg_cmp (g 0) r2.toInt64 = 0 := by rw [hg2 c282, hr2 c282]; exact lg_z _
          refine lv_if_eq (tgt := 297) hx hb dL_law_292 (by decide) (fun c292 => ?_) (fun c292 => ?_)
          · skip
            refine lv_goto (tgt := 2402) hx hb dL_law_297 (by decide) ?_
            refine W.widen (k := 1000) (n := 100000) (by decide) (by decide) ?_
            exact kk _ _ _ hS (lv_sub hl [2, 7] rfl)
          · skip
            exact absurd hv9 c292
      · skip
        exact absurd rfl c275

set_option maxHeartbeats 4000000 in
set_option maxRecDepth 100000 in
theorem lc_join {p : Program} {e : Env} {s : State} {m : MethodId} {below : List Frame} {meth : Method} {c : Code} {l : Launch} {b : Nat} {xs : Nat → Int32} {D : va_G} {T : Nat → ClassId} {ad : Nat → Nat} {m0 o o2 : Nat} {H : Heap} {locs : List Loc} {ls : Array Slot} {Q : State → Prop} (hlt : l.stackTraces = false) (hx : p.tables.exec = Jvm.exec) (hb : c.code = cL_law) (hr : meth.sig.returnType = ret) (hml : c.maxLocals = 9) (hown : s.vm.findClass RL = some m.cls) (hts : ∀ w ∈ wsL_law, w.before #[Value.ref b] s = true) (hK : KB D T s) (hKX : KX s.heap.size s) (hNc : va_Nc IAE IOB s) (hX : va_X b 6 xs s s.heap) (hbl : b < s.heap.size) (hS : va_S (fun q : Nat => s.heap.size ≤ q) s.heap H locs) (hw : PLW D T ad zz2 zz2 sr0 zr0 H) (hm : MF D T m0 (nI 0) H) (ho : pAt D H o (eL (T 6) 1 (fun _ => 0))) (ho2 : pAt D H o2 (eD (T 7) 1 (fun _ => 0))) (had : ∀ i : Nat, i < 37 → s.heap.size ≤ ad i ∧ ad i < m0) (hmo : m0 + 16 ≤ o) (hoo : o < o2) (hl : lv_has ls 9 [(5, .int (nI 0)), (4, .ref o2), (3, .ref o), (2, .ref m0), (1, .ref (ad 0)), (0, .ref b)]) (kk : ∀ (H1 : Heap) (locs1 : List Loc) (ls1 : Array Slot), va_S (fun q : Nat => s.heap.size ≤ q) s.heap H1 locs1 → lv_has ls1 9 [(5, .int (nI 0)), (0, .ref b)] → W p l e room_1 s m #[Value.ref b] below meth c H1 locs1 1000 100000 Q (F0 m 2402 ls1 [])) : W p l e room_1 s m #[Value.ref b] below meth c H locs 100 10000 Q (F0 m 300 ls []) := by
  refine lv_aload_n hx hb dL_law_300 rfl (lv_at hl 4 rfl) ?_
  refine lv_aload_n hx hb dL_law_301 rfl (lv_at hl 5 rfl) ?_
  refine lv_iload hx hb dL_law_302 (lv_at hl 0 rfl) ?_
  refine lv_iconst (v := nI 1) hx hb dL_law_304 (by decide) ?_
  refine lv_iadd hx hb dL_law_305 ?_
  rw [nI_add]
  refine q_sld hx hb hX hbl (Nat.not_le.mpr hbl) hS 1 rfl (by omega) dL_law_306 ?_
  refine lv_aload_n hx hb dL_law_307 rfl (lv_at hl 5 rfl) ?_
  refine lv_iload hx hb dL_law_308 (lv_at hl 0 rfl) ?_
  refine lv_iconst (v := nI 2) hx hb dL_law_310 (by decide) ?_
  refine lv_iadd hx hb dL_law_311 ?_
  rw [nI_add]
  refine q_sld hx hb hX hbl (Nat.not_le.mpr hbl) hS 2 rfl (by omega) dL_law_312 ?_
  refine lv_aload_n hx hb dL_law_313 rfl (lv_at hl 5 rfl) ?_
  refine lv_iload hx hb dL_law_314 (lv_at hl 0 rfl) ?_
  refine lv_iconst (v := nI 3) hx hb dL_law_316 (by decide) ?_
  refine lv_iadd hx hb dL_law_317 ?_
  rw [nI_add]
  refine q_sld hx hb hX hbl (Nat.not_le.mpr hbl) hS 3 rfl (by omega) dL_law_318 ?_
  refine lv_aload_n hx hb dL_law_319 rfl (lv_at hl 5 rfl) ?_
  refine lv_iload hx hb dL_law_320 (lv_at hl 0 rfl) ?_
  refine lv_iconst (v := nI 4) hx hb dL_law_322 (by decide) ?_
  refine lv_iadd hx hb dL_law_323 ?_
  rw [nI_add]
  refine q_sld hx hb hX hbl (Nat.not_le.mpr hbl) hS 4 rfl (by omega) dL_law_324 ?_
  refine lv_aload_n hx hb dL_law_325 rfl (lv_at hl 2 rfl) ?_
  obtain ⟨z1, hq1⟩ : ∃ z : Nat, z = H.size := ⟨_, rfl⟩
  have lm := hm.lt
  have lo := ho.lt
  refine va_calli (vx_runSW (As := [.ref (ad 0), .int (xs 1), .int (xs 2), .int (xs 3), .int (xs 4), .ref o]) (rest := []) ⟨hx, hb, hml, hown, hts⟩ (wr_join l hlt D T s.heap.size z1 o ad _ (xs 1) (xs 2) (xs 3) (xs 4) (fun i hi => (had i hi).1) (by have := hS.1; omega) (fun i hi => by have := had i hi; omega)) (vx_cwSW 6 hts gL_law_L_join rfl rfl rfl (by decide +kernel) ⟨Nat.le_of_ble_eq_true rfl, Nat.le_of_ble_eq_true rfl⟩) (preW hK hKX.1 (fun U hU hA => hKX.2.kept hA (fun a h1 h2 => by rw [hU]; exact hS.2.1 a h1 h2)) hNc ⟨hq1.symm, hw, ho⟩) rfl rfl hl.1 rfl (lv_room (Nat.le_of_ble_eq_true rfl)) dL_law_326 ⟨Nat.le_of_ble_eq_true rfl, Nat.le_of_ble_eq_true rfl⟩) hS (fun q _ h9 => wa_N had (by have := had 0 (by omega); omega) (by have := hS.1; omega) h9) (fun q h9 => wa_N had (by have := had 0 (by omega); omega) (by have := hS.1; omega) h9) (fun r u t H1 locs1 ht hvm hr9 hB hz8 hk1 hS => ?_)
  try dsimp only at hB
  rw [ht] at hB
  replace hm := hm.kept hk1 (fun q h7 h8 => wa_m had (by omega) (by omega) h7 h8)
  obtain ⟨g, hg1, hg2⟩ := hB
  rw [hr9]
  refine lv_istore (lv' := [(6, .int (tw_join (xs 1) (xs 2) (xs 3) (xs 4))), (5, .int (nI 0)), (4, .ref o2), (3, .ref o), (2, .ref m0), (1, .ref (ad 0)), (0, .ref b)]) hx hb dL_law_329 hl (by decide) rfl (fun ls hl => ?_)
  refine lv_aload_n hx hb dL_law_331 rfl (lv_at hl 4 rfl) ?_
  refine lv_aload_n hx hb dL_law_332 rfl (lv_at hl 6 rfl) ?_
  refine lv_iload hx hb dL_law_333 (lv_at hl 1 rfl) ?_
  refine lv_iconst (v := nI 1) hx hb dL_law_335 (by decide) ?_
  refine lv_iadd hx hb dL_law_336 ?_
  rw [nI_add]
  refine q_sld hx hb hX hbl (Nat.not_le.mpr hbl) hS 1 rfl (by omega) dL_law_337 ?_
  refine lv_aload_n hx hb dL_law_338 rfl (lv_at hl 6 rfl) ?_
  refine lv_iload hx hb dL_law_339 (lv_at hl 1 rfl) ?_
  refine lv_iconst (v := nI 2) hx hb dL_law_341 (by decide) ?_
  refine lv_iadd hx hb dL_law_342 ?_
  rw [nI_add]
  refine q_sld hx hb hX hbl (Nat.not_le.mpr hbl) hS 2 rfl (by omega) dL_law_343 ?_
  refine lv_aload_n hx hb dL_law_344 rfl (lv_at hl 6 rfl) ?_
  refine lv_iload hx hb dL_law_345 (lv_at hl 1 rfl) ?_
  refine lv_iconst (v := nI 3) hx hb dL_law_347 (by decide) ?_
  refine lv_iadd hx hb dL_law_348 ?_
  rw [nI_add]
  refine q_sld hx hb hX hbl (Nat.not_le.mpr hbl) hS 3 rfl (by omega) dL_law_349 ?_
  refine lv_aload_n hx hb dL_law_350 rfl (lv_at hl 6 rfl) ?_
  refine lv_iload hx hb dL_law_351 (lv_at hl 1 rfl) ?_
  refine lv_iconst (v := nI 4) hx hb dL_law_353 (by decide) ?_
  refine lv_iadd hx hb dL_law_354 ?_
  rw [nI_add]
  refine q_sld hx hb hX hbl (Nat.not_le.mpr hbl) hS 4 rfl (by omega) dL_law_355 ?_
  obtain ⟨z2, hq2⟩ : ∃ z : Nat, z = H1.size := ⟨_, rfl⟩
  have lm2 := hm.lt
  have lg := hg1.lt
  refine va_calli (va_runV (As := [.int (xs 1), .int (xs 2), .int (xs 3), .int (xs 4)]) (rest := []) ⟨hx, hb, hml, hown, hts⟩ (conX4_join l D T z2 m0 (nI 0) (xs 1) (xs 2) (xs 3) (xs 4)) (cwV 4 hts gL_law_X4_join rfl rfl rfl (by decide +kernel) ⟨Nat.le_of_ble_eq_true rfl, Nat.le_of_ble_eq_true rfl⟩) (preV hK hm.o rfl ⟨hq2.symm, hm⟩) rfl rfl hl.1 rfl (lv_room (Nat.le_of_ble_eq_true rfl)) dL_law_356 ⟨Nat.le_of_ble_eq_true rfl, Nat.le_of_ble_eq_true rfl⟩) hS (fun q _ h9 => ma_N (had 0 (by omega)) (by have := hS.1; omega) h9) (fun q h9 => ma_N (had 0 (by omega)) (by have := hS.1; omega) h9) (fun r2 u2 t2 H2 locs2 ht2 hvm2 hr2 hB2 hz9 hk2 hS => ?_)
  try dsimp only at hB2
  rw [ht2] at hB2
  replace hg1 := hg1.kept (hk2 _ hg1.lt (fun h9 => ma_o (by omega) (by omega) h9))
  obtain ⟨vs, vv, hmt⟩ := hB2
  refine lv_istore (lv' := [(7, .int r2), (6, .int (tw_join (xs 1) (xs 2) (xs 3) (xs 4))), (5, .int (nI 0)), (4, .ref o2), (3, .ref o), (2, .ref m0), (1, .ref (ad 0)), (0, .ref b)]) hx hb dL_law_359 hl (by decide) rfl (fun ls hl => ?_)
  refine lv_aload_n hx hb dL_law_361 rfl (lv_at hl 5 rfl) ?_
  refine vp_callSi (va_runV (As := []) (rest := []) ⟨hx, hb, hml, hown, hts⟩ (conX4_thrown l D T m0 (tw_join (xs 1) (xs 2) (xs 3) (xs 4)) vs vv) (cwV 0 hts gL_law_X4_thrown rfl rfl rfl (by decide +kernel) ⟨Nat.le_of_ble_eq_true rfl, Nat.le_of_ble_eq_true rfl⟩) (preV hK hmt rfl hmt) rfl rfl hl.1 rfl (lv_room (Nat.le_of_ble_eq_true rfl)) dL_law_362 ⟨Nat.le_of_ble_eq_true rfl, Nat.le_of_ble_eq_true rfl⟩).run (fun r3 hr3 => ?_)
  rw [hr3]
  refine lv_iload hx hb dL_law_365 (lv_at hl 1 rfl) ?_
  refine lv_icmp_eq (tgt := 372) hx hb dL_law_367 (by decide) (fun c367 => ?_) (fun c367 => ?_)
  · skip
    refine lv_iload hx hb dL_law_372 (lv_at hl 1 rfl) ?_
    refine lv_if_ne (tgt := 389) hx hb dL_law_374 (by decide) (fun c374 => ?_) (fun c374 => ?_)
    · skip
      refine lv_goto (tgt := 2402) hx hb dL_law_389 (by decide) ?_
      refine W.widen (k := 1000) (n := 100000) (by decide) (by decide) ?_
      exact kk _ _ _ hS (lv_sub hl [2, 7] rfl)
    · skip
      refine lv_aload_n hx hb dL_law_377 rfl (lv_at hl 4 rfl) ?_
      refine lv_iconst (v := nI 0) hx hb dL_law_378 (by decide) ?_
      refine q_lald hx hb hK hg1 0 (rfl) (by omega) (by decide) dL_law_379 ?_
      refine lv_iload hx hb dL_law_380 (lv_at hl 0 rfl) ?_
      refine lv_i2l (v := r2.toInt64) hx hb dL_law_382 rfl ?_
      refine W.lcmp hx hb dL_law_383 ?_
      have hv9 : lg_cmp (g 0) r2.toInt64 = 0 := by rw [hg2 c374, hr2 c374]; exact lg_z _
      refine lv_if_eq (tgt := 389) hx hb dL_law_384 (by decide) (fun c384 => ?_) (fun c384 => ?_)
      · skip
        refine lv_goto (tgt := 2402) hx hb dL_law_389 (by decide) ?_
        refine W.widen (k := 1000) (n := 100000) (by decide) (by decide) ?_
        exact kk _ _ _ hS (lv_sub hl [2, 7] rfl)
      · skip
        exact absurd hv9 c384
  · skip
    exact absurd rfl c367

set_option maxHeartbeats 4000000 in
set_option maxRecDepth 100000 in
theorem lc_change {p : Program} {e : Env} {s : State} {m : MethodId} {below : List Frame} {meth : Method} {c : Code} {l : Launch} {b : Nat} {xs : Nat → Int32} {D : va_G} {T : Nat → ClassId} {ad : Nat → Nat} {m0 o o2 : Nat} {H : Heap} {locs : List Loc} {ls : Array Slot} {Q : State → Prop} (hlt : l.stackTraces = false) (hx : p.tables.exec = Jvm.exec) (hb : c.code = cL_law) (hr : meth.sig.returnType = ret) (hml : c.maxLocals = 9) (hown : s.vm.findClass RL = some m.cls) (hts : ∀ w ∈ wsL_law, w.before #[Value.ref b] s = true) (hK : KB D T s) (hKX : KX s.heap.size s) (hNc : va_Nc IAE IOB s) (hX : va_X b 6 xs s s.heap) (hbl : b < s.heap.size) (hS : va_S (fun q : Nat => s.heap.size ≤ q) s.heap H locs) (hw : PLW D T ad zz2 zz2 sr0 zr0 H) (hm : MF D T m0 (nI 0) H) (ho : pAt D H o (eL (T 6) 1 (fun _ => 0))) (ho2 : pAt D H o2 (eD (T 7) 1 (fun _ => 0))) (had : ∀ i : Nat, i < 37 → s.heap.size ≤ ad i ∧ ad i < m0) (hmo : m0 + 16 ≤ o) (hoo : o < o2) (hl : lv_has ls 9 [(5, .int (nI 0)), (4, .ref o2), (3, .ref o), (2, .ref m0), (1, .ref (ad 0)), (0, .ref b)]) (kk : ∀ (H1 : Heap) (locs1 : List Loc) (ls1 : Array Slot), va_S (fun q : Nat => s.heap.size ≤ q) s.heap H1 locs1 → lv_has ls1 9 [(5, .int (nI 0)), (0, .ref b)] → W p l e room_1 s m #[Value.ref b] below meth c H1 locs1 1000 100000 Q (F0 m 2402 ls1 [])) : W p l e room_1 s m #[Value.ref b] below meth c H locs 100 10000 Q (F0 m 392 ls []) := by
  refine lv_aload_n hx hb dL_law_392 rfl (lv_at hl 4 rfl) ?_
  refine lv_aload_n hx hb dL_law_393 rfl (lv_at hl 5 rfl) ?_
  refine lv_iload hx hb dL_law_394 (lv_at hl 0 rfl) ?_
  refine lv_iconst (v := nI 1) hx hb dL_law_396 (by decide) ?_
  refine lv_iadd hx hb dL_law_397 ?_
  rw [nI_add]
  refine q_sld hx hb hX hbl (Nat.not_le.mpr hbl) hS 1 rfl (by omega) dL_law_398 ?_
  refine lv_aload_n hx hb dL_law_399 rfl (lv_at hl 5 rfl) ?_
  refine lv_iload hx hb dL_law_400 (lv_at hl 0 rfl) ?_
  refine lv_iconst (v := nI 2) hx hb dL_law_402 (by decide) ?_
  refine lv_iadd hx hb dL_law_403 ?_
  rw [nI_add]
  refine q_sld hx hb hX hbl (Nat.not_le.mpr hbl) hS 2 rfl (by omega) dL_law_404 ?_
  refine lv_aload_n hx hb dL_law_405 rfl (lv_at hl 2 rfl) ?_
  obtain ⟨z1, hq1⟩ : ∃ z : Nat, z = H.size := ⟨_, rfl⟩
  have lm := hm.lt
  have lo := ho.lt
  refine va_calli (vx_runSW (As := [.ref (ad 0), .int (xs 1), .int (xs 2), .ref o]) (rest := []) ⟨hx, hb, hml, hown, hts⟩ (wr_change l hlt D T s.heap.size z1 o ad _ (xs 1) (xs 2) (fun i hi => (had i hi).1) (by have := hS.1; omega) (fun i hi => by have := had i hi; omega)) (vx_cwSW 4 hts gL_law_L_change rfl rfl rfl (by decide +kernel) ⟨Nat.le_of_ble_eq_true rfl, Nat.le_of_ble_eq_true rfl⟩) (preW hK hKX.1 (fun U hU hA => hKX.2.kept hA (fun a h1 h2 => by rw [hU]; exact hS.2.1 a h1 h2)) hNc ⟨hq1.symm, hw, ho⟩) rfl rfl hl.1 rfl (lv_room (Nat.le_of_ble_eq_true rfl)) dL_law_406 ⟨Nat.le_of_ble_eq_true rfl, Nat.le_of_ble_eq_true rfl⟩) hS (fun q _ h9 => wa_N had (by have := had 0 (by omega); omega) (by have := hS.1; omega) h9) (fun q h9 => wa_N had (by have := had 0 (by omega); omega) (by have := hS.1; omega) h9) (fun r u t H1 locs1 ht hvm hr9 hB hz8 hk1 hS => ?_)
  try dsimp only at hB
  rw [ht] at hB
  replace hm := hm.kept hk1 (fun q h7 h8 => wa_m had (by omega) (by omega) h7 h8)
  obtain ⟨g, hg1, hg2⟩ := hB
  rw [hr9]
  refine lv_istore (lv' := [(6, .int (tw_change (xs 1) (xs 2))), (5, .int (nI 0)), (4, .ref o2), (3, .ref o), (2, .ref m0), (1, .ref (ad 0)), (0, .ref b)]) hx hb dL_law_409 hl (by decide) rfl (fun ls hl => ?_)
  refine lv_aload_n hx hb dL_law_411 rfl (lv_at hl 4 rfl) ?_
  refine lv_aload_n hx hb dL_law_412 rfl (lv_at hl 6 rfl) ?_
  refine lv_iload hx hb dL_law_413 (lv_at hl 1 rfl) ?_
  refine lv_iconst (v := nI 1) hx hb dL_law_415 (by decide) ?_
  refine lv_iadd hx hb dL_law_416 ?_
  rw [nI_add]
  refine q_sld hx hb hX hbl (Nat.not_le.mpr hbl) hS 1 rfl (by omega) dL_law_417 ?_
  refine lv_aload_n hx hb dL_law_418 rfl (lv_at hl 6 rfl) ?_
  refine lv_iload hx hb dL_law_419 (lv_at hl 1 rfl) ?_
  refine lv_iconst (v := nI 2) hx hb dL_law_421 (by decide) ?_
  refine lv_iadd hx hb dL_law_422 ?_
  rw [nI_add]
  refine q_sld hx hb hX hbl (Nat.not_le.mpr hbl) hS 2 rfl (by omega) dL_law_423 ?_
  obtain ⟨z2, hq2⟩ : ∃ z : Nat, z = H1.size := ⟨_, rfl⟩
  have lm2 := hm.lt
  have lg := hg1.lt
  refine va_calli (va_runV (As := [.int (xs 1), .int (xs 2)]) (rest := []) ⟨hx, hb, hml, hown, hts⟩ (conX4_change l D T z2 m0 (nI 0) (xs 1) (xs 2)) (cwV 2 hts gL_law_X4_change rfl rfl rfl (by decide +kernel) ⟨Nat.le_of_ble_eq_true rfl, Nat.le_of_ble_eq_true rfl⟩) (preV hK hm.o rfl ⟨hq2.symm, hm⟩) rfl rfl hl.1 rfl (lv_room (Nat.le_of_ble_eq_true rfl)) dL_law_424 ⟨Nat.le_of_ble_eq_true rfl, Nat.le_of_ble_eq_true rfl⟩) hS (fun q _ h9 => ma_N (had 0 (by omega)) (by have := hS.1; omega) h9) (fun q h9 => ma_N (had 0 (by omega)) (by have := hS.1; omega) h9) (fun r2 u2 t2 H2 locs2 ht2 hvm2 hr2 hB2 hz9 hk2 hS => ?_)
  try dsimp only at hB2
  rw [ht2] at hB2
  replace hg1 := hg1.kept (hk2 _ hg1.lt (fun h9 => ma_o (by omega) (by omega) h9))
  obtain ⟨vs, vv, hmt⟩ := hB2
  refine lv_istore (lv' := [(7, .int r2), (6, .int (tw_change (xs 1) (xs 2))), (5, .int (nI 0)), (4, .ref o2), (3, .ref o), (2, .ref m0), (1, .ref (ad 0)), (0, .ref b)]) hx hb dL_law_427 hl (by decide) rfl (fun ls hl => ?_)
  refine lv_aload_n hx hb dL_law_429 rfl (lv_at hl 5 rfl) ?_
  refine vp_callSi (va_runV (As := []) (rest := []) ⟨hx, hb, hml, hown, hts⟩ (conX4_thrown l D T m0 (tw_change (xs 1) (xs 2)) vs vv) (cwV 0 hts gL_law_X4_thrown rfl rfl rfl (by decide +kernel) ⟨Nat.le_of_ble_eq_true rfl, Nat.le_of_ble_eq_true rfl⟩) (preV hK hmt rfl hmt) rfl rfl hl.1 rfl (lv_room (Nat.le_of_ble_eq_true rfl)) dL_law_430 ⟨Nat.le_of_ble_eq_true rfl, Nat.le_of_ble_eq_true rfl⟩).run (fun r3 hr3 => ?_)
  rw [hr3]
  refine lv_iload hx hb dL_law_433 (lv_at hl 1 rfl) ?_
  refine lv_icmp_eq (tgt := 440) hx hb dL_law_435 (by decide) (fun c435 => ?_) (fun c435 => ?_)
  · skip
    refine lv_iload hx hb dL_law_440 (lv_at hl 1 rfl) ?_
    refine lv_if_ne (tgt := 457) hx hb dL_law_442 (by decide) (fun c442 => ?_) (fun c442 => ?_)
    · skip
      refine lv_goto (tgt := 2402) hx hb dL_law_457 (by decide) ?_
      refine W.widen (k := 1000) (n := 100000) (by decide) (by decide) ?_
      exact kk _ _ _ hS (lv_sub hl [2, 7] rfl)
    · skip
      refine lv_aload_n hx hb dL_law_445 rfl (lv_at hl 4 rfl) ?_
      refine lv_iconst (v := nI 0) hx hb dL_law_446 (by decide) ?_
      refine q_lald hx hb hK hg1 0 (rfl) (by omega) (by decide) dL_law_447 ?_
      refine lv_iload hx hb dL_law_448 (lv_at hl 0 rfl) ?_
      refine lv_i2l (v := r2.toInt64) hx hb dL_law_450 rfl ?_
      refine W.lcmp hx hb dL_law_451 ?_
      have hv9 : lg_cmp (g 0) r2.toInt64 = 0 := by rw [hg2 c442, hr2 c442]; exact lg_z _
      refine lv_if_eq (tgt := 457) hx hb dL_law_452 (by decide) (fun c452 => ?_) (fun c452 => ?_)
      · skip
        refine lv_goto (tgt := 2402) hx hb dL_law_457 (by decide) ?_
        refine W.widen (k := 1000) (n := 100000) (by decide) (by decide) ?_
        exact kk _ _ _ hS (lv_sub hl [2, 7] rfl)
      · skip
        exact absurd hv9 c452
  · skip
    exact absurd rfl c435

set_option maxHeartbeats 4000000 in
set_option maxRecDepth 100000 in
theorem lc_move {p : Program} {e : Env} {s : State} {m : MethodId} {below : List Frame} {meth : Method} {c : Code} {l : Launch} {b : Nat} {xs : Nat → Int32} {D : va_G} {T : Nat → ClassId} {ad : Nat → Nat} {m0 o o2 : Nat} {H : Heap} {locs : List Loc} {ls : Array Slot} {Q : State → Prop} (hlt : l.stackTraces = false) (hx : p.tables.exec = Jvm.exec) (hb : c.code = cL_law) (hr : meth.sig.returnType = ret) (hml : c.maxLocals = 9) (hown : s.vm.findClass RL = some m.cls) (hts : ∀ w ∈ wsL_law, w.before #[Value.ref b] s = true) (hK : KB D T s) (hKX : KX s.heap.size s) (hNc : va_Nc IAE IOB s) (hX : va_X b 6 xs s s.heap) (hbl : b < s.heap.size) (hS : va_S (fun q : Nat => s.heap.size ≤ q) s.heap H locs) (hw : PLW D T ad zz2 zz2 sr0 zr0 H) (hm : MF D T m0 (nI 0) H) (ho : pAt D H o (eL (T 6) 1 (fun _ => 0))) (ho2 : pAt D H o2 (eD (T 7) 1 (fun _ => 0))) (had : ∀ i : Nat, i < 37 → s.heap.size ≤ ad i ∧ ad i < m0) (hmo : m0 + 16 ≤ o) (hoo : o < o2) (hl : lv_has ls 9 [(5, .int (nI 0)), (4, .ref o2), (3, .ref o), (2, .ref m0), (1, .ref (ad 0)), (0, .ref b)]) (kk : ∀ (H1 : Heap) (locs1 : List Loc) (ls1 : Array Slot), va_S (fun q : Nat => s.heap.size ≤ q) s.heap H1 locs1 → lv_has ls1 9 [(5, .int (nI 0)), (0, .ref b)] → W p l e room_1 s m #[Value.ref b] below meth c H1 locs1 1000 100000 Q (F0 m 2402 ls1 [])) : W p l e room_1 s m #[Value.ref b] below meth c H locs 100 10000 Q (F0 m 460 ls []) := by
  refine lv_aload_n hx hb dL_law_460 rfl (lv_at hl 4 rfl) ?_
  refine lv_aload_n hx hb dL_law_461 rfl (lv_at hl 5 rfl) ?_
  refine lv_iload hx hb dL_law_462 (lv_at hl 0 rfl) ?_
  refine lv_iconst (v := nI 1) hx hb dL_law_464 (by decide) ?_
  refine lv_iadd hx hb dL_law_465 ?_
  rw [nI_add]
  refine q_sld hx hb hX hbl (Nat.not_le.mpr hbl) hS 1 rfl (by omega) dL_law_466 ?_
  refine lv_aload_n hx hb dL_law_467 rfl (lv_at hl 5 rfl) ?_
  refine lv_iload hx hb dL_law_468 (lv_at hl 0 rfl) ?_
  refine lv_iconst (v := nI 2) hx hb dL_law_470 (by decide) ?_
  refine lv_iadd hx hb dL_law_471 ?_
  rw [nI_add]
  refine q_sld hx hb hX hbl (Nat.not_le.mpr hbl) hS 2 rfl (by omega) dL_law_472 ?_
  refine lv_aload_n hx hb dL_law_473 rfl (lv_at hl 2 rfl) ?_
  obtain ⟨z1, hq1⟩ : ∃ z : Nat, z = H.size := ⟨_, rfl⟩
  have lm := hm.lt
  have lo := ho.lt
  refine va_calli (vx_runSW (As := [.ref (ad 0), .int (xs 1), .int (xs 2), .ref o]) (rest := []) ⟨hx, hb, hml, hown, hts⟩ (wr_move l hlt D T s.heap.size z1 o ad _ (xs 1) (xs 2) (fun i hi => (had i hi).1) (by have := hS.1; omega) (fun i hi => by have := had i hi; omega)) (vx_cwSW 4 hts gL_law_L_move rfl rfl rfl (by decide +kernel) ⟨Nat.le_of_ble_eq_true rfl, Nat.le_of_ble_eq_true rfl⟩) (preW hK hKX.1 (fun U hU hA => hKX.2.kept hA (fun a h1 h2 => by rw [hU]; exact hS.2.1 a h1 h2)) hNc ⟨hq1.symm, hw, ho⟩) rfl rfl hl.1 rfl (lv_room (Nat.le_of_ble_eq_true rfl)) dL_law_474 ⟨Nat.le_of_ble_eq_true rfl, Nat.le_of_ble_eq_true rfl⟩) hS (fun q _ h9 => wa_N had (by have := had 0 (by omega); omega) (by have := hS.1; omega) h9) (fun q h9 => wa_N had (by have := had 0 (by omega); omega) (by have := hS.1; omega) h9) (fun r u t H1 locs1 ht hvm hr9 hB hz8 hk1 hS => ?_)
  try dsimp only at hB
  rw [ht] at hB
  replace hm := hm.kept hk1 (fun q h7 h8 => wa_m had (by omega) (by omega) h7 h8)
  obtain ⟨g, hg1, hg2⟩ := hB
  rw [hr9]
  refine lv_istore (lv' := [(6, .int (tw_move (xs 1) (xs 2))), (5, .int (nI 0)), (4, .ref o2), (3, .ref o), (2, .ref m0), (1, .ref (ad 0)), (0, .ref b)]) hx hb dL_law_477 hl (by decide) rfl (fun ls hl => ?_)
  refine lv_aload_n hx hb dL_law_479 rfl (lv_at hl 4 rfl) ?_
  refine lv_aload_n hx hb dL_law_480 rfl (lv_at hl 6 rfl) ?_
  refine lv_iload hx hb dL_law_481 (lv_at hl 1 rfl) ?_
  refine lv_iconst (v := nI 1) hx hb dL_law_483 (by decide) ?_
  refine lv_iadd hx hb dL_law_484 ?_
  rw [nI_add]
  refine q_sld hx hb hX hbl (Nat.not_le.mpr hbl) hS 1 rfl (by omega) dL_law_485 ?_
  refine lv_aload_n hx hb dL_law_486 rfl (lv_at hl 6 rfl) ?_
  refine lv_iload hx hb dL_law_487 (lv_at hl 1 rfl) ?_
  refine lv_iconst (v := nI 2) hx hb dL_law_489 (by decide) ?_
  refine lv_iadd hx hb dL_law_490 ?_
  rw [nI_add]
  refine q_sld hx hb hX hbl (Nat.not_le.mpr hbl) hS 2 rfl (by omega) dL_law_491 ?_
  obtain ⟨z2, hq2⟩ : ∃ z : Nat, z = H1.size := ⟨_, rfl⟩
  have lm2 := hm.lt
  have lg := hg1.lt
  refine va_calli (va_runV (As := [.int (xs 1), .int (xs 2)]) (rest := []) ⟨hx, hb, hml, hown, hts⟩ (conX4_move l D T z2 m0 (nI 0) (xs 1) (xs 2)) (cwV 2 hts gL_law_X4_move rfl rfl rfl (by decide +kernel) ⟨Nat.le_of_ble_eq_true rfl, Nat.le_of_ble_eq_true rfl⟩) (preV hK hm.o rfl ⟨hq2.symm, hm⟩) rfl rfl hl.1 rfl (lv_room (Nat.le_of_ble_eq_true rfl)) dL_law_492 ⟨Nat.le_of_ble_eq_true rfl, Nat.le_of_ble_eq_true rfl⟩) hS (fun q _ h9 => ma_N (had 0 (by omega)) (by have := hS.1; omega) h9) (fun q h9 => ma_N (had 0 (by omega)) (by have := hS.1; omega) h9) (fun r2 u2 t2 H2 locs2 ht2 hvm2 hr2 hB2 hz9 hk2 hS => ?_)
  try dsimp only at hB2
  rw [ht2] at hB2
  replace hg1 := hg1.kept (hk2 _ hg1.lt (fun h9 => ma_o (by omega) (by omega) h9))
  obtain ⟨vs, vv, hmt⟩ := hB2
  refine lv_istore (lv' := [(7, .int r2), (6, .int (tw_move (xs 1) (xs 2))), (5, .int (nI 0)), (4, .ref o2), (3, .ref o), (2, .ref m0), (1, .ref (ad 0)), (0, .ref b)]) hx hb dL_law_495 hl (by decide) rfl (fun ls hl => ?_)
  refine lv_aload_n hx hb dL_law_497 rfl (lv_at hl 5 rfl) ?_
  refine vp_callSi (va_runV (As := []) (rest := []) ⟨hx, hb, hml, hown, hts⟩ (conX4_thrown l D T m0 (tw_move (xs 1) (xs 2)) vs vv) (cwV 0 hts gL_law_X4_thrown rfl rfl rfl (by decide +kernel) ⟨Nat.le_of_ble_eq_true rfl, Nat.le_of_ble_eq_true rfl⟩) (preV hK hmt rfl hmt) rfl rfl hl.1 rfl (lv_room (Nat.le_of_ble_eq_true rfl)) dL_law_498 ⟨Nat.le_of_ble_eq_true rfl, Nat.le_of_ble_eq_true rfl⟩).run (fun r3 hr3 => ?_)
  rw [hr3]
  refine lv_iload hx hb dL_law_501 (lv_at hl 1 rfl) ?_
  refine lv_icmp_eq (tgt := 508) hx hb dL_law_503 (by decide) (fun c503 => ?_) (fun c503 => ?_)
  · skip
    refine lv_iload hx hb dL_law_508 (lv_at hl 1 rfl) ?_
    refine lv_if_ne (tgt := 525) hx hb dL_law_510 (by decide) (fun c510 => ?_) (fun c510 => ?_)
    · skip
      refine lv_goto (tgt := 2402) hx hb dL_law_525 (by decide) ?_
      refine W.widen (k := 1000) (n := 100000) (by decide) (by decide) ?_
      exact kk _ _ _ hS (lv_sub hl [2, 7] rfl)
    · skip
      refine lv_aload_n hx hb dL_law_513 rfl (lv_at hl 4 rfl) ?_
      refine lv_iconst (v := nI 0) hx hb dL_law_514 (by decide) ?_
      refine q_lald hx hb hK hg1 0 (rfl) (by omega) (by decide) dL_law_515 ?_
      refine lv_iload hx hb dL_law_516 (lv_at hl 0 rfl) ?_
      refine lv_i2l (v := r2.toInt64) hx hb dL_law_518 rfl ?_
      refine W.lcmp hx hb dL_law_519 ?_
      have hv9 : lg_cmp (g 0) r2.toInt64 = 0 := by rw [hg2 c510, hr2 c510]; exact lg_z _
      refine lv_if_eq (tgt := 525) hx hb dL_law_520 (by decide) (fun c520 => ?_) (fun c520 => ?_)
      · skip
        refine lv_goto (tgt := 2402) hx hb dL_law_525 (by decide) ?_
        refine W.widen (k := 1000) (n := 100000) (by decide) (by decide) ?_
        exact kk _ _ _ hS (lv_sub hl [2, 7] rfl)
      · skip
        exact absurd hv9 c520
  · skip
    exact absurd rfl c503

set_option maxHeartbeats 4000000 in
set_option maxRecDepth 100000 in
theorem lc_stretch {p : Program} {e : Env} {s : State} {m : MethodId} {below : List Frame} {meth : Method} {c : Code} {l : Launch} {b : Nat} {xs : Nat → Int32} {D : va_G} {T : Nat → ClassId} {ad : Nat → Nat} {m0 o o2 : Nat} {H : Heap} {locs : List Loc} {ls : Array Slot} {Q : State → Prop} (hlt : l.stackTraces = false) (hx : p.tables.exec = Jvm.exec) (hb : c.code = cL_law) (hr : meth.sig.returnType = ret) (hml : c.maxLocals = 9) (hown : s.vm.findClass RL = some m.cls) (hts : ∀ w ∈ wsL_law, w.before #[Value.ref b] s = true) (hK : KB D T s) (hKX : KX s.heap.size s) (hNc : va_Nc IAE IOB s) (hX : va_X b 6 xs s s.heap) (hbl : b < s.heap.size) (hS : va_S (fun q : Nat => s.heap.size ≤ q) s.heap H locs) (hw : PLW D T ad zz2 zz2 sr0 zr0 H) (hm : MF D T m0 (nI 0) H) (ho : pAt D H o (eL (T 6) 1 (fun _ => 0))) (ho2 : pAt D H o2 (eD (T 7) 1 (fun _ => 0))) (had : ∀ i : Nat, i < 37 → s.heap.size ≤ ad i ∧ ad i < m0) (hmo : m0 + 16 ≤ o) (hoo : o < o2) (hl : lv_has ls 9 [(5, .int (nI 0)), (4, .ref o2), (3, .ref o), (2, .ref m0), (1, .ref (ad 0)), (0, .ref b)]) (kk : ∀ (H1 : Heap) (locs1 : List Loc) (ls1 : Array Slot), va_S (fun q : Nat => s.heap.size ≤ q) s.heap H1 locs1 → lv_has ls1 9 [(5, .int (nI 0)), (0, .ref b)] → W p l e room_1 s m #[Value.ref b] below meth c H1 locs1 1000 100000 Q (F0 m 2402 ls1 [])) : W p l e room_1 s m #[Value.ref b] below meth c H locs 100 10000 Q (F0 m 528 ls []) := by
  refine lv_aload_n hx hb dL_law_528 rfl (lv_at hl 4 rfl) ?_
  refine lv_aload_n hx hb dL_law_529 rfl (lv_at hl 5 rfl) ?_
  refine lv_iload hx hb dL_law_530 (lv_at hl 0 rfl) ?_
  refine lv_iconst (v := nI 1) hx hb dL_law_532 (by decide) ?_
  refine lv_iadd hx hb dL_law_533 ?_
  rw [nI_add]
  refine q_sld hx hb hX hbl (Nat.not_le.mpr hbl) hS 1 rfl (by omega) dL_law_534 ?_
  refine lv_aload_n hx hb dL_law_535 rfl (lv_at hl 5 rfl) ?_
  refine lv_iload hx hb dL_law_536 (lv_at hl 0 rfl) ?_
  refine lv_iconst (v := nI 2) hx hb dL_law_538 (by decide) ?_
  refine lv_iadd hx hb dL_law_539 ?_
  rw [nI_add]
  refine q_sld hx hb hX hbl (Nat.not_le.mpr hbl) hS 2 rfl (by omega) dL_law_540 ?_
  refine lv_aload_n hx hb dL_law_541 rfl (lv_at hl 2 rfl) ?_
  obtain ⟨z1, hq1⟩ : ∃ z : Nat, z = H.size := ⟨_, rfl⟩
  have lm := hm.lt
  have lo := ho.lt
  refine va_calli (vx_runSW (As := [.ref (ad 0), .int (xs 1), .int (xs 2), .ref o]) (rest := []) ⟨hx, hb, hml, hown, hts⟩ (wr_stretch l hlt D T s.heap.size z1 o ad _ (xs 1) (xs 2) (fun i hi => (had i hi).1) (by have := hS.1; omega) (fun i hi => by have := had i hi; omega)) (vx_cwSW 4 hts gL_law_L_stretch rfl rfl rfl (by decide +kernel) ⟨Nat.le_of_ble_eq_true rfl, Nat.le_of_ble_eq_true rfl⟩) (preW hK hKX.1 (fun U hU hA => hKX.2.kept hA (fun a h1 h2 => by rw [hU]; exact hS.2.1 a h1 h2)) hNc ⟨hq1.symm, hw, ho⟩) rfl rfl hl.1 rfl (lv_room (Nat.le_of_ble_eq_true rfl)) dL_law_542 ⟨Nat.le_of_ble_eq_true rfl, Nat.le_of_ble_eq_true rfl⟩) hS (fun q _ h9 => wa_N had (by have := had 0 (by omega); omega) (by have := hS.1; omega) h9) (fun q h9 => wa_N had (by have := had 0 (by omega); omega) (by have := hS.1; omega) h9) (fun r u t H1 locs1 ht hvm hr9 hB hz8 hk1 hS => ?_)
  try dsimp only at hB
  rw [ht] at hB
  replace hm := hm.kept hk1 (fun q h7 h8 => wa_m had (by omega) (by omega) h7 h8)
  obtain ⟨g, hg1, hg2⟩ := hB
  rw [hr9]
  refine lv_istore (lv' := [(6, .int (tw_stretch (xs 1) (xs 2))), (5, .int (nI 0)), (4, .ref o2), (3, .ref o), (2, .ref m0), (1, .ref (ad 0)), (0, .ref b)]) hx hb dL_law_545 hl (by decide) rfl (fun ls hl => ?_)
  refine lv_aload_n hx hb dL_law_547 rfl (lv_at hl 4 rfl) ?_
  refine lv_aload_n hx hb dL_law_548 rfl (lv_at hl 6 rfl) ?_
  refine lv_iload hx hb dL_law_549 (lv_at hl 1 rfl) ?_
  refine lv_iconst (v := nI 1) hx hb dL_law_551 (by decide) ?_
  refine lv_iadd hx hb dL_law_552 ?_
  rw [nI_add]
  refine q_sld hx hb hX hbl (Nat.not_le.mpr hbl) hS 1 rfl (by omega) dL_law_553 ?_
  refine lv_aload_n hx hb dL_law_554 rfl (lv_at hl 6 rfl) ?_
  refine lv_iload hx hb dL_law_555 (lv_at hl 1 rfl) ?_
  refine lv_iconst (v := nI 2) hx hb dL_law_557 (by decide) ?_
  refine lv_iadd hx hb dL_law_558 ?_
  rw [nI_add]
  refine q_sld hx hb hX hbl (Nat.not_le.mpr hbl) hS 2 rfl (by omega) dL_law_559 ?_
  obtain ⟨z2, hq2⟩ : ∃ z : Nat, z = H1.size := ⟨_, rfl⟩
  have lm2 := hm.lt
  have lg := hg1.lt
  refine va_calli (va_runV (As := [.int (xs 1), .int (xs 2)]) (rest := []) ⟨hx, hb, hml, hown, hts⟩ (conX4_stretch l D T z2 m0 (nI 0) (xs 1) (xs 2)) (cwV 2 hts gL_law_X4_stretch rfl rfl rfl (by decide +kernel) ⟨Nat.le_of_ble_eq_true rfl, Nat.le_of_ble_eq_true rfl⟩) (preV hK hm.o rfl ⟨hq2.symm, hm⟩) rfl rfl hl.1 rfl (lv_room (Nat.le_of_ble_eq_true rfl)) dL_law_560 ⟨Nat.le_of_ble_eq_true rfl, Nat.le_of_ble_eq_true rfl⟩) hS (fun q _ h9 => ma_N (had 0 (by omega)) (by have := hS.1; omega) h9) (fun q h9 => ma_N (had 0 (by omega)) (by have := hS.1; omega) h9) (fun r2 u2 t2 H2 locs2 ht2 hvm2 hr2 hB2 hz9 hk2 hS => ?_)
  try dsimp only at hB2
  rw [ht2] at hB2
  replace hg1 := hg1.kept (hk2 _ hg1.lt (fun h9 => ma_o (by omega) (by omega) h9))
  obtain ⟨vs, vv, hmt⟩ := hB2
  refine lv_istore (lv' := [(7, .int r2), (6, .int (tw_stretch (xs 1) (xs 2))), (5, .int (nI 0)), (4, .ref o2), (3, .ref o), (2, .ref m0), (1, .ref (ad 0)), (0, .ref b)]) hx hb dL_law_563 hl (by decide) rfl (fun ls hl => ?_)
  refine lv_aload_n hx hb dL_law_565 rfl (lv_at hl 5 rfl) ?_
  refine vp_callSi (va_runV (As := []) (rest := []) ⟨hx, hb, hml, hown, hts⟩ (conX4_thrown l D T m0 (tw_stretch (xs 1) (xs 2)) vs vv) (cwV 0 hts gL_law_X4_thrown rfl rfl rfl (by decide +kernel) ⟨Nat.le_of_ble_eq_true rfl, Nat.le_of_ble_eq_true rfl⟩) (preV hK hmt rfl hmt) rfl rfl hl.1 rfl (lv_room (Nat.le_of_ble_eq_true rfl)) dL_law_566 ⟨Nat.le_of_ble_eq_true rfl, Nat.le_of_ble_eq_true rfl⟩).run (fun r3 hr3 => ?_)
  rw [hr3]
  refine lv_iload hx hb dL_law_569 (lv_at hl 1 rfl) ?_
  refine lv_icmp_eq (tgt := 576) hx hb dL_law_571 (by decide) (fun c571 => ?_) (fun c571 => ?_)
  · skip
    refine lv_iload hx hb dL_law_576 (lv_at hl 1 rfl) ?_
    refine lv_if_ne (tgt := 593) hx hb dL_law_578 (by decide) (fun c578 => ?_) (fun c578 => ?_)
    · skip
      refine lv_goto (tgt := 2402) hx hb dL_law_593 (by decide) ?_
      refine W.widen (k := 1000) (n := 100000) (by decide) (by decide) ?_
      exact kk _ _ _ hS (lv_sub hl [2, 7] rfl)
    · skip
      refine lv_aload_n hx hb dL_law_581 rfl (lv_at hl 4 rfl) ?_
      refine lv_iconst (v := nI 0) hx hb dL_law_582 (by decide) ?_
      refine q_lald hx hb hK hg1 0 (rfl) (by omega) (by decide) dL_law_583 ?_
      refine lv_iload hx hb dL_law_584 (lv_at hl 0 rfl) ?_
      refine lv_i2l (v := r2.toInt64) hx hb dL_law_586 rfl ?_
      refine W.lcmp hx hb dL_law_587 ?_
      have hv9 : lg_cmp (g 0) r2.toInt64 = 0 := by rw [hg2 c578, hr2 c578]; exact lg_z _
      refine lv_if_eq (tgt := 593) hx hb dL_law_588 (by decide) (fun c588 => ?_) (fun c588 => ?_)
      · skip
        refine lv_goto (tgt := 2402) hx hb dL_law_593 (by decide) ?_
        refine W.widen (k := 1000) (n := 100000) (by decide) (by decide) ?_
        exact kk _ _ _ hS (lv_sub hl [2, 7] rfl)
      · skip
        exact absurd hv9 c588
  · skip
    exact absurd rfl c571

set_option maxHeartbeats 4000000 in
set_option maxRecDepth 100000 in
theorem lc_ofSet {p : Program} {e : Env} {s : State} {m : MethodId} {below : List Frame} {meth : Method} {c : Code} {l : Launch} {b : Nat} {xs : Nat → Int32} {D : va_G} {T : Nat → ClassId} {ad : Nat → Nat} {m0 o o2 : Nat} {H : Heap} {locs : List Loc} {ls : Array Slot} {Q : State → Prop} (hlt : l.stackTraces = false) (hx : p.tables.exec = Jvm.exec) (hb : c.code = cL_law) (hr : meth.sig.returnType = ret) (hml : c.maxLocals = 9) (hown : s.vm.findClass RL = some m.cls) (hts : ∀ w ∈ wsL_law, w.before #[Value.ref b] s = true) (hK : KB D T s) (hKX : KX s.heap.size s) (hNc : va_Nc IAE IOB s) (hX : va_X b 6 xs s s.heap) (hbl : b < s.heap.size) (hS : va_S (fun q : Nat => s.heap.size ≤ q) s.heap H locs) (hw : PLW D T ad zz2 zz2 sr0 zr0 H) (hm : MF D T m0 (nI 0) H) (ho : pAt D H o (eL (T 6) 1 (fun _ => 0))) (ho2 : pAt D H o2 (eD (T 7) 1 (fun _ => 0))) (had : ∀ i : Nat, i < 37 → s.heap.size ≤ ad i ∧ ad i < m0) (hmo : m0 + 16 ≤ o) (hoo : o < o2) (hl : lv_has ls 9 [(5, .int (nI 0)), (4, .ref o2), (3, .ref o), (2, .ref m0), (1, .ref (ad 0)), (0, .ref b)]) (kk : ∀ (H1 : Heap) (locs1 : List Loc) (ls1 : Array Slot), va_S (fun q : Nat => s.heap.size ≤ q) s.heap H1 locs1 → lv_has ls1 9 [(5, .int (nI 0)), (0, .ref b)] → W p l e room_1 s m #[Value.ref b] below meth c H1 locs1 1000 100000 Q (F0 m 2402 ls1 [])) : W p l e room_1 s m #[Value.ref b] below meth c H locs 100 10000 Q (F0 m 596 ls []) := by
  refine lv_aload_n hx hb dL_law_596 rfl (lv_at hl 4 rfl) ?_
  refine lv_aload_n hx hb dL_law_597 rfl (lv_at hl 5 rfl) ?_
  refine lv_iload hx hb dL_law_598 (lv_at hl 0 rfl) ?_
  refine lv_iconst (v := nI 1) hx hb dL_law_600 (by decide) ?_
  refine lv_iadd hx hb dL_law_601 ?_
  rw [nI_add]
  refine q_sld hx hb hX hbl (Nat.not_le.mpr hbl) hS 1 rfl (by omega) dL_law_602 ?_
  refine lv_aload_n hx hb dL_law_603 rfl (lv_at hl 5 rfl) ?_
  refine lv_iload hx hb dL_law_604 (lv_at hl 0 rfl) ?_
  refine lv_iconst (v := nI 2) hx hb dL_law_606 (by decide) ?_
  refine lv_iadd hx hb dL_law_607 ?_
  rw [nI_add]
  refine q_sld hx hb hX hbl (Nat.not_le.mpr hbl) hS 2 rfl (by omega) dL_law_608 ?_
  refine lv_aload_n hx hb dL_law_609 rfl (lv_at hl 2 rfl) ?_
  obtain ⟨z1, hq1⟩ : ∃ z : Nat, z = H.size := ⟨_, rfl⟩
  have lm := hm.lt
  have lo := ho.lt
  refine va_calli (vx_runSW (As := [.ref (ad 0), .int (xs 1), .int (xs 2), .ref o]) (rest := []) ⟨hx, hb, hml, hown, hts⟩ (wr_ofSet l hlt D T s.heap.size z1 o ad _ (xs 1) (xs 2) (fun i hi => (had i hi).1) (by have := hS.1; omega) (fun i hi => by have := had i hi; omega)) (vx_cwSW 4 hts gL_law_L_ofSet rfl rfl rfl (by decide +kernel) ⟨Nat.le_of_ble_eq_true rfl, Nat.le_of_ble_eq_true rfl⟩) (preW hK hKX.1 (fun U hU hA => hKX.2.kept hA (fun a h1 h2 => by rw [hU]; exact hS.2.1 a h1 h2)) hNc ⟨hq1.symm, hw, ho⟩) rfl rfl hl.1 rfl (lv_room (Nat.le_of_ble_eq_true rfl)) dL_law_610 ⟨Nat.le_of_ble_eq_true rfl, Nat.le_of_ble_eq_true rfl⟩) hS (fun q _ h9 => wa_N had (by have := had 0 (by omega); omega) (by have := hS.1; omega) h9) (fun q h9 => wa_N had (by have := had 0 (by omega); omega) (by have := hS.1; omega) h9) (fun r u t H1 locs1 ht hvm hr9 hB hz8 hk1 hS => ?_)
  try dsimp only at hB
  rw [ht] at hB
  replace hm := hm.kept hk1 (fun q h7 h8 => wa_m had (by omega) (by omega) h7 h8)
  obtain ⟨g, hg1, hg2⟩ := hB
  rw [hr9]
  refine lv_istore (lv' := [(6, .int (tw_ofSet (xs 1) (xs 2))), (5, .int (nI 0)), (4, .ref o2), (3, .ref o), (2, .ref m0), (1, .ref (ad 0)), (0, .ref b)]) hx hb dL_law_613 hl (by decide) rfl (fun ls hl => ?_)
  refine lv_aload_n hx hb dL_law_615 rfl (lv_at hl 4 rfl) ?_
  refine lv_aload_n hx hb dL_law_616 rfl (lv_at hl 6 rfl) ?_
  refine lv_iload hx hb dL_law_617 (lv_at hl 1 rfl) ?_
  refine lv_iconst (v := nI 1) hx hb dL_law_619 (by decide) ?_
  refine lv_iadd hx hb dL_law_620 ?_
  rw [nI_add]
  refine q_sld hx hb hX hbl (Nat.not_le.mpr hbl) hS 1 rfl (by omega) dL_law_621 ?_
  refine lv_aload_n hx hb dL_law_622 rfl (lv_at hl 6 rfl) ?_
  refine lv_iload hx hb dL_law_623 (lv_at hl 1 rfl) ?_
  refine lv_iconst (v := nI 2) hx hb dL_law_625 (by decide) ?_
  refine lv_iadd hx hb dL_law_626 ?_
  rw [nI_add]
  refine q_sld hx hb hX hbl (Nat.not_le.mpr hbl) hS 2 rfl (by omega) dL_law_627 ?_
  obtain ⟨z2, hq2⟩ : ∃ z : Nat, z = H1.size := ⟨_, rfl⟩
  have lm2 := hm.lt
  have lg := hg1.lt
  refine va_calli (va_runV (As := [.int (xs 1), .int (xs 2)]) (rest := []) ⟨hx, hb, hml, hown, hts⟩ (conX4_ofSet l D T z2 m0 (nI 0) (xs 1) (xs 2)) (cwV 2 hts gL_law_X4_ofSet rfl rfl rfl (by decide +kernel) ⟨Nat.le_of_ble_eq_true rfl, Nat.le_of_ble_eq_true rfl⟩) (preV hK hm.o rfl ⟨hq2.symm, hm⟩) rfl rfl hl.1 rfl (lv_room (Nat.le_of_ble_eq_true rfl)) dL_law_628 ⟨Nat.le_of_ble_eq_true rfl, Nat.le_of_ble_eq_true rfl⟩) hS (fun q _ h9 => ma_N (had 0 (by omega)) (by have := hS.1; omega) h9) (fun q h9 => ma_N (had 0 (by omega)) (by have := hS.1; omega) h9) (fun r2 u2 t2 H2 locs2 ht2 hvm2 hr2 hB2 hz9 hk2 hS => ?_)
  try dsimp only at hB2
  rw [ht2] at hB2
  replace hg1 := hg1.kept (hk2 _ hg1.lt (fun h9 => ma_o (by omega) (by omega) h9))
  obtain ⟨vs, vv, hmt⟩ := hB2
  refine lv_istore (lv' := [(7, .int r2), (6, .int (tw_ofSet (xs 1) (xs 2))), (5, .int (nI 0)), (4, .ref o2), (3, .ref o), (2, .ref m0), (1, .ref (ad 0)), (0, .ref b)]) hx hb dL_law_631 hl (by decide) rfl (fun ls hl => ?_)
  refine lv_aload_n hx hb dL_law_633 rfl (lv_at hl 5 rfl) ?_
  refine vp_callSi (va_runV (As := []) (rest := []) ⟨hx, hb, hml, hown, hts⟩ (conX4_thrown l D T m0 (tw_ofSet (xs 1) (xs 2)) vs vv) (cwV 0 hts gL_law_X4_thrown rfl rfl rfl (by decide +kernel) ⟨Nat.le_of_ble_eq_true rfl, Nat.le_of_ble_eq_true rfl⟩) (preV hK hmt rfl hmt) rfl rfl hl.1 rfl (lv_room (Nat.le_of_ble_eq_true rfl)) dL_law_634 ⟨Nat.le_of_ble_eq_true rfl, Nat.le_of_ble_eq_true rfl⟩).run (fun r3 hr3 => ?_)
  rw [hr3]
  refine lv_iload hx hb dL_law_637 (lv_at hl 1 rfl) ?_
  refine lv_icmp_eq (tgt := 644) hx hb dL_law_639 (by decide) (fun c639 => ?_) (fun c639 => ?_)
  · skip
    refine lv_iload hx hb dL_law_644 (lv_at hl 1 rfl) ?_
    refine lv_if_ne (tgt := 661) hx hb dL_law_646 (by decide) (fun c646 => ?_) (fun c646 => ?_)
    · skip
      refine lv_goto (tgt := 2402) hx hb dL_law_661 (by decide) ?_
      refine W.widen (k := 1000) (n := 100000) (by decide) (by decide) ?_
      exact kk _ _ _ hS (lv_sub hl [2, 7] rfl)
    · skip
      refine lv_aload_n hx hb dL_law_649 rfl (lv_at hl 4 rfl) ?_
      refine lv_iconst (v := nI 0) hx hb dL_law_650 (by decide) ?_
      refine q_lald hx hb hK hg1 0 (rfl) (by omega) (by decide) dL_law_651 ?_
      refine lv_iload hx hb dL_law_652 (lv_at hl 0 rfl) ?_
      refine lv_i2l (v := r2.toInt64) hx hb dL_law_654 rfl ?_
      refine W.lcmp hx hb dL_law_655 ?_
      have hv9 : lg_cmp (g 0) r2.toInt64 = 0 := by rw [hg2 c646, hr2 c646]; exact lg_z _
      refine lv_if_eq (tgt := 661) hx hb dL_law_656 (by decide) (fun c656 => ?_) (fun c656 => ?_)
      · skip
        refine lv_goto (tgt := 2402) hx hb dL_law_661 (by decide) ?_
        refine W.widen (k := 1000) (n := 100000) (by decide) (by decide) ?_
        exact kk _ _ _ hS (lv_sub hl [2, 7] rfl)
      · skip
        exact absurd hv9 c656
  · skip
    exact absurd rfl c639

set_option maxHeartbeats 4000000 in
set_option maxRecDepth 100000 in
theorem lc_ofSpan {p : Program} {e : Env} {s : State} {m : MethodId} {below : List Frame} {meth : Method} {c : Code} {l : Launch} {b : Nat} {xs : Nat → Int32} {D : va_G} {T : Nat → ClassId} {ad : Nat → Nat} {m0 o o2 : Nat} {H : Heap} {locs : List Loc} {ls : Array Slot} {Q : State → Prop} (hlt : l.stackTraces = false) (hx : p.tables.exec = Jvm.exec) (hb : c.code = cL_law) (hr : meth.sig.returnType = ret) (hml : c.maxLocals = 9) (hown : s.vm.findClass RL = some m.cls) (hts : ∀ w ∈ wsL_law, w.before #[Value.ref b] s = true) (hK : KB D T s) (hKX : KX s.heap.size s) (hNc : va_Nc IAE IOB s) (hX : va_X b 6 xs s s.heap) (hbl : b < s.heap.size) (hS : va_S (fun q : Nat => s.heap.size ≤ q) s.heap H locs) (hw : PLW D T ad zz2 zz2 sr0 zr0 H) (hm : MF D T m0 (nI 0) H) (ho : pAt D H o (eL (T 6) 1 (fun _ => 0))) (ho2 : pAt D H o2 (eD (T 7) 1 (fun _ => 0))) (had : ∀ i : Nat, i < 37 → s.heap.size ≤ ad i ∧ ad i < m0) (hmo : m0 + 16 ≤ o) (hoo : o < o2) (hl : lv_has ls 9 [(5, .int (nI 0)), (4, .ref o2), (3, .ref o), (2, .ref m0), (1, .ref (ad 0)), (0, .ref b)]) (kk : ∀ (H1 : Heap) (locs1 : List Loc) (ls1 : Array Slot), va_S (fun q : Nat => s.heap.size ≤ q) s.heap H1 locs1 → lv_has ls1 9 [(5, .int (nI 0)), (0, .ref b)] → W p l e room_1 s m #[Value.ref b] below meth c H1 locs1 1000 100000 Q (F0 m 2402 ls1 [])) : W p l e room_1 s m #[Value.ref b] below meth c H locs 100 10000 Q (F0 m 664 ls []) := by
  refine lv_aload_n hx hb dL_law_664 rfl (lv_at hl 4 rfl) ?_
  refine lv_aload_n hx hb dL_law_665 rfl (lv_at hl 5 rfl) ?_
  refine lv_iload hx hb dL_law_666 (lv_at hl 0 rfl) ?_
  refine lv_iconst (v := nI 1) hx hb dL_law_668 (by decide) ?_
  refine lv_iadd hx hb dL_law_669 ?_
  rw [nI_add]
  refine q_sld hx hb hX hbl (Nat.not_le.mpr hbl) hS 1 rfl (by omega) dL_law_670 ?_
  refine lv_aload_n hx hb dL_law_671 rfl (lv_at hl 5 rfl) ?_
  refine lv_iload hx hb dL_law_672 (lv_at hl 0 rfl) ?_
  refine lv_iconst (v := nI 2) hx hb dL_law_674 (by decide) ?_
  refine lv_iadd hx hb dL_law_675 ?_
  rw [nI_add]
  refine q_sld hx hb hX hbl (Nat.not_le.mpr hbl) hS 2 rfl (by omega) dL_law_676 ?_
  refine lv_aload_n hx hb dL_law_677 rfl (lv_at hl 5 rfl) ?_
  refine lv_iload hx hb dL_law_678 (lv_at hl 0 rfl) ?_
  refine lv_iconst (v := nI 3) hx hb dL_law_680 (by decide) ?_
  refine lv_iadd hx hb dL_law_681 ?_
  rw [nI_add]
  refine q_sld hx hb hX hbl (Nat.not_le.mpr hbl) hS 3 rfl (by omega) dL_law_682 ?_
  refine lv_aload_n hx hb dL_law_683 rfl (lv_at hl 2 rfl) ?_
  obtain ⟨z1, hq1⟩ : ∃ z : Nat, z = H.size := ⟨_, rfl⟩
  have lm := hm.lt
  have lo := ho.lt
  refine va_calli (vx_runSW (As := [.ref (ad 0), .int (xs 1), .int (xs 2), .int (xs 3), .ref o]) (rest := []) ⟨hx, hb, hml, hown, hts⟩ (wr_ofSpan l hlt D T s.heap.size z1 o ad _ (xs 1) (xs 2) (xs 3) (fun i hi => (had i hi).1) (by have := hS.1; omega) (fun i hi => by have := had i hi; omega)) (vx_cwSW 5 hts gL_law_L_ofSpan rfl rfl rfl (by decide +kernel) ⟨Nat.le_of_ble_eq_true rfl, Nat.le_of_ble_eq_true rfl⟩) (preW hK hKX.1 (fun U hU hA => hKX.2.kept hA (fun a h1 h2 => by rw [hU]; exact hS.2.1 a h1 h2)) hNc ⟨hq1.symm, hw, ho⟩) rfl rfl hl.1 rfl (lv_room (Nat.le_of_ble_eq_true rfl)) dL_law_684 ⟨Nat.le_of_ble_eq_true rfl, Nat.le_of_ble_eq_true rfl⟩) hS (fun q _ h9 => wa_N had (by have := had 0 (by omega); omega) (by have := hS.1; omega) h9) (fun q h9 => wa_N had (by have := had 0 (by omega); omega) (by have := hS.1; omega) h9) (fun r u t H1 locs1 ht hvm hr9 hB hz8 hk1 hS => ?_)
  try dsimp only at hB
  rw [ht] at hB
  replace hm := hm.kept hk1 (fun q h7 h8 => wa_m had (by omega) (by omega) h7 h8)
  obtain ⟨g, hg1, hg2⟩ := hB
  rw [hr9]
  refine lv_istore (lv' := [(6, .int (tw_ofSpan (xs 1) (xs 2) (xs 3))), (5, .int (nI 0)), (4, .ref o2), (3, .ref o), (2, .ref m0), (1, .ref (ad 0)), (0, .ref b)]) hx hb dL_law_687 hl (by decide) rfl (fun ls hl => ?_)
  refine lv_aload_n hx hb dL_law_689 rfl (lv_at hl 4 rfl) ?_
  refine lv_aload_n hx hb dL_law_690 rfl (lv_at hl 6 rfl) ?_
  refine lv_iload hx hb dL_law_691 (lv_at hl 1 rfl) ?_
  refine lv_iconst (v := nI 1) hx hb dL_law_693 (by decide) ?_
  refine lv_iadd hx hb dL_law_694 ?_
  rw [nI_add]
  refine q_sld hx hb hX hbl (Nat.not_le.mpr hbl) hS 1 rfl (by omega) dL_law_695 ?_
  refine lv_aload_n hx hb dL_law_696 rfl (lv_at hl 6 rfl) ?_
  refine lv_iload hx hb dL_law_697 (lv_at hl 1 rfl) ?_
  refine lv_iconst (v := nI 2) hx hb dL_law_699 (by decide) ?_
  refine lv_iadd hx hb dL_law_700 ?_
  rw [nI_add]
  refine q_sld hx hb hX hbl (Nat.not_le.mpr hbl) hS 2 rfl (by omega) dL_law_701 ?_
  refine lv_aload_n hx hb dL_law_702 rfl (lv_at hl 6 rfl) ?_
  refine lv_iload hx hb dL_law_703 (lv_at hl 1 rfl) ?_
  refine lv_iconst (v := nI 3) hx hb dL_law_705 (by decide) ?_
  refine lv_iadd hx hb dL_law_706 ?_
  rw [nI_add]
  refine q_sld hx hb hX hbl (Nat.not_le.mpr hbl) hS 3 rfl (by omega) dL_law_707 ?_
  obtain ⟨z2, hq2⟩ : ∃ z : Nat, z = H1.size := ⟨_, rfl⟩
  have lm2 := hm.lt
  have lg := hg1.lt
  refine va_calli (va_runV (As := [.int (xs 1), .int (xs 2), .int (xs 3)]) (rest := []) ⟨hx, hb, hml, hown, hts⟩ (conX4_ofSpan l D T z2 m0 (nI 0) (xs 1) (xs 2) (xs 3)) (cwV 3 hts gL_law_X4_ofSpan rfl rfl rfl (by decide +kernel) ⟨Nat.le_of_ble_eq_true rfl, Nat.le_of_ble_eq_true rfl⟩) (preV hK hm.o rfl ⟨hq2.symm, hm⟩) rfl rfl hl.1 rfl (lv_room (Nat.le_of_ble_eq_true rfl)) dL_law_708 ⟨Nat.le_of_ble_eq_true rfl, Nat.le_of_ble_eq_true rfl⟩) hS (fun q _ h9 => ma_N (had 0 (by omega)) (by have := hS.1; omega) h9) (fun q h9 => ma_N (had 0 (by omega)) (by have := hS.1; omega) h9) (fun r2 u2 t2 H2 locs2 ht2 hvm2 hr2 hB2 hz9 hk2 hS => ?_)
  try dsimp only at hB2
  rw [ht2] at hB2
  replace hg1 := hg1.kept (hk2 _ hg1.lt (fun h9 => ma_o (by omega) (by omega) h9))
  obtain ⟨vs, vv, hmt⟩ := hB2
  refine lv_istore (lv' := [(7, .int r2), (6, .int (tw_ofSpan (xs 1) (xs 2) (xs 3))), (5, .int (nI 0)), (4, .ref o2), (3, .ref o), (2, .ref m0), (1, .ref (ad 0)), (0, .ref b)]) hx hb dL_law_711 hl (by decide) rfl (fun ls hl => ?_)
  refine lv_aload_n hx hb dL_law_713 rfl (lv_at hl 5 rfl) ?_
  refine vp_callSi (va_runV (As := []) (rest := []) ⟨hx, hb, hml, hown, hts⟩ (conX4_thrown l D T m0 (tw_ofSpan (xs 1) (xs 2) (xs 3)) vs vv) (cwV 0 hts gL_law_X4_thrown rfl rfl rfl (by decide +kernel) ⟨Nat.le_of_ble_eq_true rfl, Nat.le_of_ble_eq_true rfl⟩) (preV hK hmt rfl hmt) rfl rfl hl.1 rfl (lv_room (Nat.le_of_ble_eq_true rfl)) dL_law_714 ⟨Nat.le_of_ble_eq_true rfl, Nat.le_of_ble_eq_true rfl⟩).run (fun r3 hr3 => ?_)
  rw [hr3]
  refine lv_iload hx hb dL_law_717 (lv_at hl 1 rfl) ?_
  refine lv_icmp_eq (tgt := 724) hx hb dL_law_719 (by decide) (fun c719 => ?_) (fun c719 => ?_)
  · skip
    refine lv_iload hx hb dL_law_724 (lv_at hl 1 rfl) ?_
    refine lv_if_ne (tgt := 741) hx hb dL_law_726 (by decide) (fun c726 => ?_) (fun c726 => ?_)
    · skip
      refine lv_goto (tgt := 2402) hx hb dL_law_741 (by decide) ?_
      refine W.widen (k := 1000) (n := 100000) (by decide) (by decide) ?_
      exact kk _ _ _ hS (lv_sub hl [2, 7] rfl)
    · skip
      refine lv_aload_n hx hb dL_law_729 rfl (lv_at hl 4 rfl) ?_
      refine lv_iconst (v := nI 0) hx hb dL_law_730 (by decide) ?_
      refine q_lald hx hb hK hg1 0 (rfl) (by omega) (by decide) dL_law_731 ?_
      refine lv_iload hx hb dL_law_732 (lv_at hl 0 rfl) ?_
      refine lv_i2l (v := r2.toInt64) hx hb dL_law_734 rfl ?_
      refine W.lcmp hx hb dL_law_735 ?_
      have hv9 : lg_cmp (g 0) r2.toInt64 = 0 := by rw [hg2 c726, hr2 c726]; exact lg_z _
      refine lv_if_eq (tgt := 741) hx hb dL_law_736 (by decide) (fun c736 => ?_) (fun c736 => ?_)
      · skip
        refine lv_goto (tgt := 2402) hx hb dL_law_741 (by decide) ?_
        refine W.widen (k := 1000) (n := 100000) (by decide) (by decide) ?_
        exact kk _ _ _ hS (lv_sub hl [2, 7] rfl)
      · skip
        exact absurd hv9 c736
  · skip
    exact absurd rfl c719

set_option maxHeartbeats 4000000 in
set_option maxRecDepth 100000 in
theorem lc_has {p : Program} {e : Env} {s : State} {m : MethodId} {below : List Frame} {meth : Method} {c : Code} {l : Launch} {b : Nat} {xs : Nat → Int32} {D : va_G} {T : Nat → ClassId} {ad : Nat → Nat} {m0 o o2 : Nat} {H : Heap} {locs : List Loc} {ls : Array Slot} {Q : State → Prop} (hlt : l.stackTraces = false) (hx : p.tables.exec = Jvm.exec) (hb : c.code = cL_law) (hr : meth.sig.returnType = ret) (hml : c.maxLocals = 9) (hown : s.vm.findClass RL = some m.cls) (hts : ∀ w ∈ wsL_law, w.before #[Value.ref b] s = true) (hK : KB D T s) (hKX : KX s.heap.size s) (hNc : va_Nc IAE IOB s) (hX : va_X b 6 xs s s.heap) (hbl : b < s.heap.size) (hS : va_S (fun q : Nat => s.heap.size ≤ q) s.heap H locs) (hw : PLW D T ad zz2 zz2 sr0 zr0 H) (hm : MF D T m0 (nI 0) H) (ho : pAt D H o (eL (T 6) 1 (fun _ => 0))) (ho2 : pAt D H o2 (eD (T 7) 1 (fun _ => 0))) (had : ∀ i : Nat, i < 37 → s.heap.size ≤ ad i ∧ ad i < m0) (hmo : m0 + 16 ≤ o) (hoo : o < o2) (hl : lv_has ls 9 [(5, .int (nI 0)), (4, .ref o2), (3, .ref o), (2, .ref m0), (1, .ref (ad 0)), (0, .ref b)]) (kk : ∀ (H1 : Heap) (locs1 : List Loc) (ls1 : Array Slot), va_S (fun q : Nat => s.heap.size ≤ q) s.heap H1 locs1 → lv_has ls1 9 [(5, .int (nI 0)), (0, .ref b)] → W p l e room_1 s m #[Value.ref b] below meth c H1 locs1 1000 100000 Q (F0 m 2402 ls1 [])) : W p l e room_1 s m #[Value.ref b] below meth c H locs 100 10000 Q (F0 m 744 ls []) := by
  refine lv_aload_n hx hb dL_law_744 rfl (lv_at hl 4 rfl) ?_
  refine lv_aload_n hx hb dL_law_745 rfl (lv_at hl 5 rfl) ?_
  refine lv_iload hx hb dL_law_746 (lv_at hl 0 rfl) ?_
  refine lv_iconst (v := nI 1) hx hb dL_law_748 (by decide) ?_
  refine lv_iadd hx hb dL_law_749 ?_
  rw [nI_add]
  refine q_sld hx hb hX hbl (Nat.not_le.mpr hbl) hS 1 rfl (by omega) dL_law_750 ?_
  refine lv_aload_n hx hb dL_law_751 rfl (lv_at hl 5 rfl) ?_
  refine lv_iload hx hb dL_law_752 (lv_at hl 0 rfl) ?_
  refine lv_iconst (v := nI 2) hx hb dL_law_754 (by decide) ?_
  refine lv_iadd hx hb dL_law_755 ?_
  rw [nI_add]
  refine q_sld hx hb hX hbl (Nat.not_le.mpr hbl) hS 2 rfl (by omega) dL_law_756 ?_
  refine lv_aload_n hx hb dL_law_757 rfl (lv_at hl 2 rfl) ?_
  obtain ⟨z1, hq1⟩ : ∃ z : Nat, z = H.size := ⟨_, rfl⟩
  have lm := hm.lt
  have lo := ho.lt
  refine va_calli (vx_runSW (As := [.ref (ad 0), .int (xs 1), .int (xs 2), .ref o]) (rest := []) ⟨hx, hb, hml, hown, hts⟩ (wr_has l hlt D T s.heap.size z1 o ad _ (xs 1) (xs 2) (fun i hi => (had i hi).1) (by have := hS.1; omega) (fun i hi => by have := had i hi; omega)) (vx_cwSW 4 hts gL_law_L_has rfl rfl rfl (by decide +kernel) ⟨Nat.le_of_ble_eq_true rfl, Nat.le_of_ble_eq_true rfl⟩) (preW hK hKX.1 (fun U hU hA => hKX.2.kept hA (fun a h1 h2 => by rw [hU]; exact hS.2.1 a h1 h2)) hNc ⟨hq1.symm, hw, ho⟩) rfl rfl hl.1 rfl (lv_room (Nat.le_of_ble_eq_true rfl)) dL_law_758 ⟨Nat.le_of_ble_eq_true rfl, Nat.le_of_ble_eq_true rfl⟩) hS (fun q _ h9 => wa_N had (by have := had 0 (by omega); omega) (by have := hS.1; omega) h9) (fun q h9 => wa_N had (by have := had 0 (by omega); omega) (by have := hS.1; omega) h9) (fun r u t H1 locs1 ht hvm hr9 hB hz8 hk1 hS => ?_)
  try dsimp only at hB
  rw [ht] at hB
  replace hm := hm.kept hk1 (fun q h7 h8 => wa_m had (by omega) (by omega) h7 h8)
  obtain ⟨g, hg1, hg2⟩ := hB
  rw [hr9]
  refine lv_istore (lv' := [(6, .int (tw_has (xs 1) (xs 2))), (5, .int (nI 0)), (4, .ref o2), (3, .ref o), (2, .ref m0), (1, .ref (ad 0)), (0, .ref b)]) hx hb dL_law_761 hl (by decide) rfl (fun ls hl => ?_)
  refine lv_aload_n hx hb dL_law_763 rfl (lv_at hl 4 rfl) ?_
  refine lv_aload_n hx hb dL_law_764 rfl (lv_at hl 6 rfl) ?_
  refine lv_iload hx hb dL_law_765 (lv_at hl 1 rfl) ?_
  refine lv_iconst (v := nI 1) hx hb dL_law_767 (by decide) ?_
  refine lv_iadd hx hb dL_law_768 ?_
  rw [nI_add]
  refine q_sld hx hb hX hbl (Nat.not_le.mpr hbl) hS 1 rfl (by omega) dL_law_769 ?_
  refine lv_aload_n hx hb dL_law_770 rfl (lv_at hl 6 rfl) ?_
  refine lv_iload hx hb dL_law_771 (lv_at hl 1 rfl) ?_
  refine lv_iconst (v := nI 2) hx hb dL_law_773 (by decide) ?_
  refine lv_iadd hx hb dL_law_774 ?_
  rw [nI_add]
  refine q_sld hx hb hX hbl (Nat.not_le.mpr hbl) hS 2 rfl (by omega) dL_law_775 ?_
  obtain ⟨z2, hq2⟩ : ∃ z : Nat, z = H1.size := ⟨_, rfl⟩
  have lm2 := hm.lt
  have lg := hg1.lt
  refine va_calli (va_runV (As := [.int (xs 1), .int (xs 2)]) (rest := []) ⟨hx, hb, hml, hown, hts⟩ (conX4_has l D T z2 m0 (nI 0) (xs 1) (xs 2)) (cwV 2 hts gL_law_X4_has rfl rfl rfl (by decide +kernel) ⟨Nat.le_of_ble_eq_true rfl, Nat.le_of_ble_eq_true rfl⟩) (preV hK hm.o rfl ⟨hq2.symm, hm⟩) rfl rfl hl.1 rfl (lv_room (Nat.le_of_ble_eq_true rfl)) dL_law_776 ⟨Nat.le_of_ble_eq_true rfl, Nat.le_of_ble_eq_true rfl⟩) hS (fun q _ h9 => ma_N (had 0 (by omega)) (by have := hS.1; omega) h9) (fun q h9 => ma_N (had 0 (by omega)) (by have := hS.1; omega) h9) (fun r2 u2 t2 H2 locs2 ht2 hvm2 hr2 hB2 hz9 hk2 hS => ?_)
  try dsimp only at hB2
  rw [ht2] at hB2
  replace hg1 := hg1.kept (hk2 _ hg1.lt (fun h9 => ma_o (by omega) (by omega) h9))
  obtain ⟨vs, vv, hmt⟩ := hB2
  refine lv_istore (lv' := [(7, .int r2), (6, .int (tw_has (xs 1) (xs 2))), (5, .int (nI 0)), (4, .ref o2), (3, .ref o), (2, .ref m0), (1, .ref (ad 0)), (0, .ref b)]) hx hb dL_law_779 hl (by decide) rfl (fun ls hl => ?_)
  refine lv_aload_n hx hb dL_law_781 rfl (lv_at hl 5 rfl) ?_
  refine vp_callSi (va_runV (As := []) (rest := []) ⟨hx, hb, hml, hown, hts⟩ (conX4_thrown l D T m0 (tw_has (xs 1) (xs 2)) vs vv) (cwV 0 hts gL_law_X4_thrown rfl rfl rfl (by decide +kernel) ⟨Nat.le_of_ble_eq_true rfl, Nat.le_of_ble_eq_true rfl⟩) (preV hK hmt rfl hmt) rfl rfl hl.1 rfl (lv_room (Nat.le_of_ble_eq_true rfl)) dL_law_782 ⟨Nat.le_of_ble_eq_true rfl, Nat.le_of_ble_eq_true rfl⟩).run (fun r3 hr3 => ?_)
  rw [hr3]
  refine lv_iload hx hb dL_law_785 (lv_at hl 1 rfl) ?_
  refine lv_icmp_eq (tgt := 792) hx hb dL_law_787 (by decide) (fun c787 => ?_) (fun c787 => ?_)
  · skip
    refine lv_iload hx hb dL_law_792 (lv_at hl 1 rfl) ?_
    refine lv_if_ne (tgt := 816) hx hb dL_law_794 (by decide) (fun c794 => ?_) (fun c794 => ?_)
    · skip
      refine lv_goto (tgt := 2402) hx hb dL_law_816 (by decide) ?_
      refine W.widen (k := 1000) (n := 100000) (by decide) (by decide) ?_
      exact kk _ _ _ hS (lv_sub hl [2, 7] rfl)
    · skip
      refine lv_aload_n hx hb dL_law_797 rfl (lv_at hl 4 rfl) ?_
      refine lv_iconst (v := nI 0) hx hb dL_law_798 (by decide) ?_
      refine q_lald hx hb hK hg1 0 (rfl) (by omega) (by decide) dL_law_799 ?_
      refine lv_iload hx hb dL_law_800 (lv_at hl 0 rfl) ?_
      refine lv_if_eq (tgt := 809) hx hb dL_law_802 (by decide) (fun c802 => ?_) (fun c802 => ?_)
      · skip
        refine lv_lconst (v := 0) hx hb dL_law_809 (by decide) ?_
        refine W.lcmp hx hb dL_law_810 ?_
        have hv9 : lg_cmp (g 0) 0 = 0 := by rw [hg2 c794]; exact lg_z _
        refine lv_if_eq (tgt := 816) hx hb dL_law_811 (by decide) (fun c811 => ?_) (fun c811 => ?_)
        · skip
          refine lv_goto (tgt := 2402) hx hb dL_law_816 (by decide) ?_
          refine W.widen (k := 1000) (n := 100000) (by decide) (by decide) ?_
          exact kk _ _ _ hS (lv_sub hl [2, 7] rfl)
        · skip
          exact absurd hv9 c811
      · skip
        exact absurd (hr2 c794) c802
  · skip
    exact absurd rfl c787
