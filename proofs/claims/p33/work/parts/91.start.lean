/-! THE LAW: from its entry to its end -/
theorem scX.of {T : Nat → ClassId} {s : State} {b L : Nat} {xs : Nat → Int32} {H : Heap} {scr : Cell} (h1 : H[b]? = some scr) (h2 : s.isArrayOf scr .int) (h3 : scr.vm ≠ .unknown) (h4 : scr.slots.size = L) (h5 : ∀ j : Nat, j < L → scr.slots[j]? = some (.int (xs j))) (h6 : T 4 = scr.cls) : scX T b L xs H := ⟨scr, h1, h6.symm, h2.1, h3, h4, h5⟩
theorem ST.ob2 {D : va_G} {T : Nat → ClassId} {ad : Nat → Nat} {o sc N d : Nat} {sf : Nat → Int32} {H : Heap} (h : ST D T ad o sc N sf d H) : ∃ dr : Nat, pAt D H o (eO 4 [.ref (ad 0), .ref sc, .int (nI dr), .ref (o + 38), .ref (o + 47)]) := by
  obtain ⟨dr, F, V, sr, C, L, U, la, vv, h1, h2, h3, h4⟩ := h
  exact ⟨dr, h3.ob⟩
set_option maxHeartbeats 4000000 in
set_option maxRecDepth 100000 in
theorem law_end {p : Program} {l : Launch} {e : Env} {s : State} {m : MethodId} {below : List Frame} {meth : Method} {c : Code} {b : Nat} {H : Heap} {locs : List Loc} {cells slots : Nat} {ls : Array Slot} (hx : p.tables.exec = Jvm.exec) (hb : c.code = cL_law) (hr : meth.sig.returnType = ret) (hlocks : meth.locks = false) (hS : va_S (fun q : Nat => s.heap.size ≤ q) s.heap H locs) (hc : cells ≤ 600086) (hs : slots ≤ 7301442) : W p l e room_1 s m #[Value.ref b] below meth c H locs cells slots (lw_Z below #[Value.ref b] s) (F0 m 1153 ls []) := by
  refine lv_iconst (v := 1) hx hb dL_law_1153 (by decide) ?_
  refine va_forget hS.2.2 ?_
  refine W.widen (k := 600086) (n := 7301442) hc hs ?_
  refine W.base ?_
  exact lw_ret (d0 := s.drawn) (Drawn.sameBut.refl s.drawn lw_cs) hx hb hr hlocks dL_law_1154
/-- the words that the constructor wants, among the law's -/
def wsL_lawM : List Cond := wsL_law ++ [.classLink RX4 16 "[[[I"]
theorem gL_law_X4_initM : GoodIn wsL_lawM wsX4_initM := goodIn_app (goodIn_l _ gL_law_X4_init) (goodIn_sub (fun _ h => List.mem_append_right _ h) (by decide +kernel))
set_option maxHeartbeats 40000000 in
set_option maxRecDepth 100000 in
/-- one line of stones -/
theorem law_turn {p : Program} {l : Launch} {e : Env} {s : State} {m : MethodId} {args : Array Value} {below : List Frame} {meth : Method} {c : Code} {Q : State → Prop} {D : va_G} {T : Nat → ClassId} {H : Heap} {locs : List Loc} {cells slots : Nat} {ls : Array Slot} (hc : LCx p s m args c D T) (hts1 : ∀ w ∈ wsL_lawM, w.before args s = true) {b L ti : Nat} {xs : Nat → Int32} (hL : L ≤ 260) (hti : ti < 3) (hcm : cells + 18000 ≤ 600086) (hsm : slots + 902000 ≤ 7301442) (hS : va_S (fun q : Nat => s.heap.size ≤ q) s.heap H locs) (hsc : scX T b L xs H) (hbl : b < s.heap.size) (hl : lv_has ls 17 [(1, .int (nI ti)), (0, .ref b)])
    (kk : ∀ (H1 : Heap) (locs1 : List Loc) (ls1 : Array Slot), va_S (fun q : Nat => s.heap.size ≤ q) s.heap H1 locs1 → lv_has ls1 17 [(1, .int (nI ti)), (0, .ref b)] → W p l e room_1 s m args below meth c H1 locs1 (cells + 18000) (slots + 902000) Q (F0 m 1147 ls1 [])) : W p l e room_1 s m args below meth c H locs cells slots Q (F0 m 7 ls []) := by
  have hc9 := hc
  obtain ⟨hx, hb, hml, hown, hts, hK⟩ := hc
  obtain ⟨o, e0⟩ : ∃ z : Nat, z = H.size := ⟨_, rfl⟩
  have hso : s.heap.size ≤ o := by rw [e0]; exact hS.1
  refine q_new (ci := 4) (fs := [.null, .null, .int (nI 0), .null, .null]) hx hb hts inlX4 tyX4 tyX4_ok hown (hts (.classLink RL 9 RX4) (by decide +kernel)) (hts (.instantiable RX4 5) (by decide +kernel)) (hts (.initialized RX4) (by decide +kernel)) hK rfl (fun j hj => by rcases j with _ | _ | _ | _ | _ | j; all_goals first | rfl | omega) (by show _ ≤ 600086; omega) (by show _ ≤ 7301442; omega) hS dL_law_7 (fun H1 ho z1 o1 hS => ?_)
  rw [← e0] at ho z1 ⊢
  replace hsc := hsc.old o1
  refine lv_dup hx hb dL_law_10 rfl ?_
  refine lv_aload_n hx hb dL_law_11 rfl (lv_at hl 1 rfl) ?_
  refine lv_bipush (v := nI 31) hx hb dL_law_12 (by decide) ?_
  refine lv_iload_n hx hb dL_law_14 rfl (lv_at hl 0 rfl) ?_
  refine lv_imul hx hb dL_law_15 ?_
  rw [pk_mul]
  refine lv_bipush (v := nI 7) hx hb dL_law_16 (by decide) ?_
  refine lv_iadd hx hb dL_law_18 ?_
  rw [nI_add]
  refine va_callv (va_runI (As := [.ref b, .int (nI (31 * ti + 7))]) (rest := [.ref o]) ⟨hx, hb, hml, hown, hts1⟩ (conX4_init l D T o b L (31 * ti + 7) xs) (cwI 2 hts1 gL_law_X4_initM rfl rfl rfl (hts (.initialized RX4) (by decide +kernel)) (hts (.methodLink RL 11 yX4_init) (by decide +kernel)) (hts (.instanceMethod yX4_init) (by decide +kernel)) rfl (by decide +kernel) ⟨Nat.le_of_ble_eq_true rfl, Nat.le_of_ble_eq_true rfl⟩) (preS hK ⟨z1, ho, by omega, hsc⟩) rfl rfl hl.1 rfl (lv_room (Nat.le_of_ble_eq_true rfl)) dL_law_19 ⟨by show _ ≤ 600086; omega, by show _ ≤ 7301442; omega⟩) hS (fun q _ h9 => Nat.le_trans hso h9) (fun q h9 => Nat.le_trans hso h9) (fun u t H2 locs2 ht hvm hw9 hB hz2 hk2 hS => ?_)
  try dsimp only at hB
  rw [ht] at hB
  generalize adI (o + 1) (o + 2) = ad at hB
  have hst := hB
  obtain ⟨dr, hob⟩ := hst.ob2
  refine lv_astore_n (lv' := [(2, .ref o), (1, .int (nI ti)), (0, .ref b)]) hx hb dL_law_22 rfl hl (by decide) rfl (fun ls hl => ?_)
  refine lv_aload_n hx hb dL_law_23 rfl (lv_at hl 0 rfl) ?_
  refine q_get (v := .ref (ad 0)) hx hb hts inlX4 hown hK hob rfl 0 (by decide) (hts (.fieldLink RL 14 "PuddingstoneLineLaw$Stones" "m" "LPuddingstoneLine;") (by decide +kernel)) (fun _ h9 => h9) rfl dL_law_24 ?_
  refine lv_astore_n (lv' := [(3, .ref (ad 0)), (2, .ref o), (1, .int (nI ti)), (0, .ref b)]) hx hb dL_law_27 rfl hl (by decide) rfl (fun ls hl => ?_)
  refine lv_aload_n hx hb dL_law_28 rfl (lv_at hl 1 rfl) ?_
  refine va_calli (va_runV (As := []) (rest := []) ⟨hx, hb, hml, hown, hts⟩ (conX4_found l D T ad o b L xs (31 * ti + 7) (by omega) (by omega)) (cwV 0 hts gL_law_X4_found rfl rfl rfl (by decide +kernel) ⟨Nat.le_of_ble_eq_true rfl, Nat.le_of_ble_eq_true rfl⟩) (preV hK hob rfl hst) rfl rfl hl.1 rfl (lv_room (Nat.le_of_ble_eq_true rfl)) dL_law_29 ⟨by show _ ≤ 600086; omega, by show _ ≤ 7301442; omega⟩) hS (fun q _ h9 => Nat.le_trans hso h9) (fun q h9 => Nat.le_trans hso h9) (fun r u t H3 locs3 ht hvm hw9 hB hz3 hk3 hS => ?_)
  try dsimp only at hB
  rw [ht] at hB
  rw [hw9]
  have hst := hB
  refine lv_if_ne (tgt := 37) hx hb dL_law_32 (by decide) (fun c32 => ?_) (fun c32 => ?_)
  · refine seg_steps hc9 (N := L) (by omega) (fun z h9 => Nat.le_trans hso h9) (by omega) (by omega) hS (by omega) hst hl (fun H4 locs4 ls hS hl _ => ?_)
    exact W.widen (by omega) (by omega) (kk H4 locs4 ls hS hl)
  · have c32 : 1 = 0 := (nc_eq (a := 1) (b := 0) (by omega) (by omega)).mp c32
    omega
set_option maxHeartbeats 40000000 in
set_option maxRecDepth 100000 in
theorem whole_start {p : Program} {e : Env} {s : State} {m : MethodId} {below : List Frame} {meth : Method} {c : Code} (l : Launch) (hflags : l.flags = flags0) {b L : Nat} {xs : Nat → Int32} (hL : L ≤ 260) (C0 : lw_At p s m meth c b L xs) : W p l e room_1 s m #[Value.ref b] below meth c s.heap [] 0 0 (lw_Z below #[Value.ref b] s) (entryFrame m ([Value.ref b] : List Value).toArray 17) := by
  obtain ⟨hx, hb0, hr, hml, hown0, hts0, hX, hbl, hlocks, hgv⟩ := id C0
  have hb : c.code = cL_law := hb0
  have hown : s.vm.findClass RL = some m.cls := hown0
  have hts : ∀ w ∈ wsL_law, w.before #[Value.ref b] s = true := fun w h => hts0 w (wsL_law_in w h)
  have hts1 : ∀ w ∈ wsL_lawM, w.before #[Value.ref b] s = true := fun w h => (List.mem_append.mp h).elim (fun h => hts w h) (fun h => by
    rw [List.mem_singleton.mp h]
    exact hts0 (.classLink RX4 16 "[[[I") (by decide +kernel))
  obtain ⟨scr, x1, x2, x3, x4, x5⟩ := hX
  obtain ⟨k9, g1, comp9, g2⟩ := x2.2
  obtain ⟨D, T, hK, hT4⟩ := start_env (cs := scr.cls) hts0 ⟨k9, comp9, g1, g2⟩
  have hsc : scX T b L xs s.heap := scX.of x1 x2 x3 x4 x5 hT4
  have hc9 : LCx p s m #[Value.ref b] c D T := ⟨hx, hb, hml, hown, hts, hK⟩
  have hS : va_S (fun q : Nat => s.heap.size ≤ q) s.heap s.heap [] := va_S.rf
  have hl := lv_entry ([.ref b]) (n := 17) (Nat.le_of_ble_eq_true rfl)
  rw [lg_entry_eq]
  generalize (lg_sl ([.ref b]) ++ List.replicate (17 - (lg_sl ([.ref b])).length) Slot.unset).toArray = ls at hl ⊢
  have hl : lv_has ls 17 [(0, .ref b)] := hl
  refine lv_iconst (v := nI 0) hx hb dL_law_0 (by decide) ?_
  refine lv_istore_n (lv' := [(1, .int (nI 0)), (0, .ref b)]) hx hb dL_law_1 rfl hl (by decide) rfl (fun ls hl => ?_)
  refine q_forg (fun (i : Nat) (H : Heap) (locs : List Loc) (ls : Array Slot) => va_S (fun q : Nat => s.heap.size ≤ q) s.heap H locs ∧ lv_has ls 17 [(1, .int (nI i)), (0, .ref b)]) 3 18000 902000 ⟨hS, hl⟩ ?_ ?_
  · intro i H locs ls hi9 hin9 hnext
    obtain ⟨hS, hl⟩ := hin9
    refine lv_iload_n hx hb dL_law_2 rfl (lv_at hl 0 rfl) ?_
    refine lv_iconst (v := nI 3) hx hb dL_law_3 (by decide) ?_
    refine lv_icmp_ge (tgt := 1153) hx hb dL_law_4 (by decide) (fun c4 => ?_) (fun c4 => ?_)
    · have c4 : 3 ≤ i := (nc_le (a := 3) (b := i) (by omega) (by omega)).mp c4
      omega
    · refine law_turn hc9 hts1 hL hi9 (by omega) (by omega) hS (hsc.kept (hS.2.1 b hbl (fun q => absurd hbl (Nat.not_lt.mpr q)))) hbl hl (fun H1 locs1 ls hS hl => ?_)
      refine lv_iinc (v := nI (i + 1)) (lv' := [(1, .int (nI (i + 1))), (0, .ref b)]) hx hb dL_law_1147 hl (k := 0) rfl (inc_1 _) (by decide) rfl (fun ls hl => ?_)
      refine lv_goto (tgt := 2) hx hb dL_law_1150 (by decide) ?_
      exact W.widen (by omega) (by omega) (hnext _ _ _ ⟨hS, hl⟩)
  · intro H locs ls hin9
    obtain ⟨hS, hl⟩ := hin9
    refine lv_iload_n hx hb dL_law_2 rfl (lv_at hl 0 rfl) ?_
    refine lv_iconst (v := nI 3) hx hb dL_law_3 (by decide) ?_
    refine lv_icmp_ge (tgt := 1153) hx hb dL_law_4 (by decide) (fun c4 => ?_) (fun c4 => absurd ((nc_le (a := 3) (b := 3) (by omega) (by omega)).mpr (Nat.le_refl 3)) c4)
    exact law_end hx hb hr hlocks hS (by decide) (by decide)
