/-! THE CLAIM OUT OF ONE WALK OF THE LAW'S BODY. Your part is whole_start (and what it stands on); all else here is the same for every law, but numbers. -/
def R_law : String := "PuddingstoneLineLaw"
def lw_P (b : Addr) (xs : List Int32) (args : Array Value) (s : State) : Prop := args = #[.ref b] ∧ s.IntsAt b xs ∧ xs.length ≤ 6 ∧ (Jvm.Cond.and given_1 narrow_1).before args s = true
/-- what a walk over the start with the record d0 says of its end, said of the start itself -/
theorem lw_closed {s t : State} {o : Outcome} {d0 : Drawn} {L : List Loc} {k n : Nat} (hd0 : s.drawn.sameBut d0 lw_cs) (hv : ∃ v, o = .returned v) (hW : (s.setDrawn d0).WarmedH t.vm) (hs : (s.setDrawn d0).sameButNew ({ t with vm := s.vm } : State) L k n) : State.butDraws s t lw_cs (fun t1 => Framed s o t1 L k n) := by
  have h2 : t.drawn = d0 := congrArg State.drawn hs.1
  refine ⟨⟨hv, hW, State.sameButNew.setDrawn hs s.drawn⟩, ?_, by decide⟩
  rw [h2]
  exact hd0
def lw_Q (_ : Array Value) (s : State) (o : Outcome) (t : State) : Prop := o = .returned (some (.int 1)) ∧ State.butDraws s t lw_cs (fun t1 => Framed s o t1 [] 600002 7302232)
def lw_Z (below : List Frame) (a : Array Value) (s : State) : State → Prop := fun t => ∃ o, t.status = .running ∧ Ended t below o ∧ lw_Q a s o t
/-- the law's own end, with 1 on the stack, nothing written that was there before, its room as the claim has it; d0: the record of draws at this point (at the entry s.drawn: begin with 'refine W.base ?_' and 'have hd0 := Drawn.sameBut.refl s.drawn lw_cs') -/
theorem lw_ret {p : Program} {l : Launch} {e : Env} {s : State} {m : MethodId} {below : List Frame} {meth : Method} {c : Code} {b : Nat} {d0 : Drawn} (hd0 : s.drawn.sameBut d0 lw_cs) (hx : p.tables.exec = Jvm.exec) (hb : c.code = code) (hr : meth.sig.returnType = ret) (hlocks : meth.locks = false) {pc : Nat} {H : Heap} {ls : Array Slot} (hdg : decode code pc = .ok (.ireturn, 1)) : W p l e room_1 (s.setDrawn d0) m #[Value.ref b] below meth c H [] 600002 7302232 (lw_Z below #[Value.ref b] s) (F0 m pc ls [.int 1]) := by
  intro T hT X
  obtain ⟨fs, hret, hrun, hended, hW, hframe⟩ := X.leave (v := some (.int 1)) (hlocks := hlocks) (fun h => by rw [hr] at h; cases h)
  have hmeth' : T.vm.method? m = some meth := X.method'
  refine ⟨T.setFrames fs, ?_, .returned (some (.int 1)), hrun, hended, rfl, lw_closed hd0 ⟨_, rfl⟩ hW hframe⟩
  jvm_step X.here [X.here.top, hx, hb, hdg, hmeth', hr, ret, narrow_b1]
  (try refine ⟨rfl, ?_⟩); (try refine ⟨rfl, ?_⟩)
  first | (intro acts; rw [hret _ acts rfl rfl rfl]) | rw [hret _ _ rfl rfl rfl]
  exact Steps.refl _
/-- what holds at the law's entry: the machine, the code, the tables' words (any of lw_tbl by 'hts w (by decide +kernel)'), the script of L ints xs at the cell b, what the Statement gives of the start (any of its parts by flat_of_before) -/
def lw_At (p : Program) (s : State) (m : MethodId) (meth : Method) (c : Code) (b L : Nat) (xs : Nat → Int32) : Prop :=
  p.tables.exec = Jvm.exec ∧ c.code = code ∧ meth.sig.returnType = ret ∧ c.maxLocals = 9 ∧ s.vm.findClass R_law = some m.cls ∧ (∀ w ∈ lw_tbl, w.before #[Value.ref b] s = true) ∧ va_X b L xs s s.heap ∧ b < s.heap.size ∧ meth.locks = false ∧ (Jvm.Cond.and given_1 narrow_1).before #[Value.ref b] s = true
set_option maxHeartbeats 4000000 in
set_option maxRecDepth 100000 in
theorem law_end {p : Program} {l : Launch} {e : Env} {s : State} {m : MethodId} {below : List Frame} {meth : Method} {c : Code} {b : Nat} {H : Heap} {locs : List Loc} {cells slots : Nat} {ls : Array Slot} (hx : p.tables.exec = Jvm.exec) (hb : c.code = cL_law) (hr : meth.sig.returnType = ret) (hlocks : meth.locks = false) (hS : va_S (fun q : Nat => s.heap.size ≤ q) s.heap H locs) (hc : cells ≤ 600002) (hs : slots ≤ 7302232) : W p l e room_1 s m #[Value.ref b] below meth c H locs cells slots (lw_Z below #[Value.ref b] s) (F0 m 2408 ls []) := by
  refine lv_iconst (v := 1) hx hb dL_law_2408 (by decide) ?_
  refine va_forget hS.2.2 ?_
  refine W.widen (k := 600002) (n := 7302232) hc hs ?_
  refine W.base ?_
  exact lw_ret (d0 := s.drawn) (Drawn.sameBut.refl s.drawn lw_cs) hx hb hr hlocks dL_law_2409
set_option maxHeartbeats 4000000 in
set_option maxRecDepth 100000 in
/-- from the loop's head, the script's length 6 or less -/
theorem law_body {p : Program} {e : Env} {s : State} {m : MethodId} {below : List Frame} {meth : Method} {c : Code} {l : Launch} {b L : Nat} {xs : Nat → Int32} {D : va_G} {T : Nat → ClassId} {ad : Nat → Nat} {m0 o o2 : Nat} {H : Heap} {locs : List Loc} {ls : Array Slot} (hL : L ≤ 6) (hlt : l.stackTraces = false) (hx : p.tables.exec = Jvm.exec) (hb : c.code = cL_law) (hr : meth.sig.returnType = ret) (hlocks : meth.locks = false) (hml : c.maxLocals = 9) (hown : s.vm.findClass RL = some m.cls) (hts : ∀ w ∈ wsL_law, w.before #[Value.ref b] s = true) (hK : KB D T s) (hKX : KX s.heap.size s) (hNc : va_Nc IAE IOB s) (hX : va_X b L xs s s.heap) (hbl : b < s.heap.size) (hS : va_S (fun q : Nat => s.heap.size ≤ q) s.heap H locs) (hw : PLW D T ad zz2 zz2 sr0 zr0 H) (hm : MF D T m0 (nI 0) H) (ho : pAt D H o (eL (T 6) 1 (fun _ => 0))) (ho2 : pAt D H o2 (eD (T 7) 1 (fun _ => 0))) (had : ∀ i : Nat, i < 37 → s.heap.size ≤ ad i ∧ ad i < m0) (hmo : m0 + 16 ≤ o) (hoo : o < o2) (hl : lv_has ls 9 [(5, .int (nI 0)), (4, .ref o2), (3, .ref o), (2, .ref m0), (1, .ref (ad 0)), (0, .ref b)]) : W p l e room_1 s m #[Value.ref b] below meth c H locs 100 10000 (lw_Z below #[Value.ref b] s) (F0 m 28 ls []) := by
  refine lv_iload hx hb dL_law_28 (lv_at hl 0 rfl) ?_
  refine lv_aload_n hx hb dL_law_30 rfl (lv_at hl 5 rfl) ?_
  refine va_slen hx hb hX hbl (Nat.not_le.mpr hbl) hS dL_law_31 ?_
  refine lv_bipush (v := nI 6) hx hb dL_law_32 (by decide) ?_
  refine lv_isub hx hb dL_law_34 ?_
  refine W.eq (g2 := F0 m 35 ls [.int (nI L - nI 6), .int (nI 0)]) rfl ?_
  refine lv_icmp_gt (tgt := 2408) hx hb dL_law_35 (by decide) (fun c35 => law_end hx hb hr hlocks hS (by decide) (by decide)) (fun c35 => ?_)
  have h6 : L = 6 := by
    rcases Nat.lt_or_ge L 6 with h | h
    · exact absurd (show nI L - nI 6 < nI 0 from pk_sneg (by decide) h) c35
    · omega
  subst h6
  have kk : ∀ (H1 : Heap) (locs1 : List Loc) (ls1 : Array Slot), va_S (fun q : Nat => s.heap.size ≤ q) s.heap H1 locs1 → lv_has ls1 9 [(5, .int (nI 0)), (0, .ref b)] → W p l e room_1 s m #[Value.ref b] below meth c H1 locs1 1000 100000 (lw_Z below #[Value.ref b] s) (F0 m 2402 ls1 []) := by
    intro H1 locs1 ls hS hl
    refine lv_iinc (v := nI 6) (lv' := [(5, .int (nI 6)), (0, .ref b)]) hx hb dL_law_2402 hl (k := 0) rfl (inc_6 0) (by decide) rfl (fun ls hl => ?_)
    refine lv_goto (tgt := 28) hx hb dL_law_2405 (by decide) ?_
    refine lv_iload hx hb dL_law_28 (lv_at hl 0 rfl) ?_
    refine lv_aload_n hx hb dL_law_30 rfl (lv_at hl 1 rfl) ?_
    refine va_slen hx hb hX hbl (Nat.not_le.mpr hbl) hS dL_law_31 ?_
    refine lv_bipush (v := nI 6) hx hb dL_law_32 (by decide) ?_
    refine lv_isub hx hb dL_law_34 ?_
    refine W.eq (g2 := F0 m 35 ls [.int (nI 6 - nI 6), .int (nI 6)]) rfl ?_
    exact lv_icmp_gt (tgt := 2408) hx hb dL_law_35 (by decide) (fun c35 => law_end hx hb hr hlocks hS (by decide) (by decide)) (fun c35 => absurd (show nI 6 - nI 6 < nI 6 by decide) c35)
  refine lv_aload_n hx hb dL_law_38 rfl (lv_at hl 5 rfl) ?_
  refine lv_iload hx hb dL_law_39 (lv_at hl 0 rfl) ?_
  refine q_sld hx hb hX hbl (Nat.not_le.mpr hbl) hS 0 rfl (by omega) dL_law_41 ?_
  refine lv_bipush (v := nI 31) hx hb dL_law_42 (by decide) ?_
  refine lv_iand hx hb dL_law_44 ?_
  obtain ⟨j, hj, hje⟩ := pk_andE (xs 0) (m := nI 31) 5 rfl
  rw [hje]
  have hj2 : j = 0 ∨ j = 1 ∨ j = 2 ∨ j = 3 ∨ j = 4 ∨ j = 5 ∨ j = 6 ∨ j = 7 ∨ j = 8 ∨ j = 9 ∨ j = 10 ∨ j = 11 ∨ j = 12 ∨ j = 13 ∨ j = 14 ∨ j = 15 ∨ j = 16 ∨ j = 17 ∨ j = 18 ∨ j = 19 ∨ j = 20 ∨ j = 21 ∨ j = 22 ∨ j = 23 ∨ j = 24 ∨ j = 25 ∨ j = 26 ∨ j = 27 ∨ j = 28 ∨ j = 29 ∨ j = 30 ∨ j = 31 := by omega
  rcases hj2 with rfl | rfl | rfl | rfl | rfl | rfl | rfl | rfl | rfl | rfl | rfl | rfl | rfl | rfl | rfl | rfl | rfl | rfl | rfl | rfl | rfl | rfl | rfl | rfl | rfl | rfl | rfl | rfl | rfl | rfl | rfl | rfl
  · exact lv_tableIn (off := 135) (tgt := 180) hx hb dL_law_45 (by decide) (by decide) (by rfl) (by decide) (lc_span hlt hx hb hr hml hown hts hK hKX hNc hX hbl hS hw hm ho ho2 had hmo hoo hl kk)
  · exact lv_tableIn (off := 255) (tgt := 300) hx hb dL_law_45 (by decide) (by decide) (by rfl) (by decide) (lc_join hlt hx hb hr hml hown hts hK hKX hNc hX hbl hS hw hm ho ho2 had hmo hoo hl kk)
  · exact lv_tableIn (off := 347) (tgt := 392) hx hb dL_law_45 (by decide) (by decide) (by rfl) (by decide) (lc_change hlt hx hb hr hml hown hts hK hKX hNc hX hbl hS hw hm ho ho2 had hmo hoo hl kk)
  · exact lv_tableIn (off := 415) (tgt := 460) hx hb dL_law_45 (by decide) (by decide) (by rfl) (by decide) (lc_move hlt hx hb hr hml hown hts hK hKX hNc hX hbl hS hw hm ho ho2 had hmo hoo hl kk)
  · exact lv_tableIn (off := 483) (tgt := 528) hx hb dL_law_45 (by decide) (by decide) (by rfl) (by decide) (lc_stretch hlt hx hb hr hml hown hts hK hKX hNc hX hbl hS hw hm ho ho2 had hmo hoo hl kk)
  · exact lv_tableIn (off := 551) (tgt := 596) hx hb dL_law_45 (by decide) (by decide) (by rfl) (by decide) (lc_ofSet hlt hx hb hr hml hown hts hK hKX hNc hX hbl hS hw hm ho ho2 had hmo hoo hl kk)
  · exact lv_tableIn (off := 619) (tgt := 664) hx hb dL_law_45 (by decide) (by decide) (by rfl) (by decide) (lc_ofSpan hlt hx hb hr hml hown hts hK hKX hNc hX hbl hS hw hm ho ho2 had hmo hoo hl kk)
  · exact lv_tableIn (off := 699) (tgt := 744) hx hb dL_law_45 (by decide) (by decide) (by rfl) (by decide) (lc_has hlt hx hb hr hml hown hts hK hKX hNc hX hbl hS hw hm ho ho2 had hmo hoo hl kk)
  · exact lv_tableIn (off := 774) (tgt := 819) hx hb dL_law_45 (by decide) (by decide) (by rfl) (by decide) (lc_far hlt hx hb hr hml hown hts hK hKX hNc hX hbl hS hw hm ho ho2 had hmo hoo hl kk)
  · exact lv_tableIn (off := 842) (tgt := 887) hx hb dL_law_45 (by decide) (by decide) (by rfl) (by decide) (lc_beside hlt hx hb hr hml hown hts hK hKX hNc hX hbl hS hw hm ho ho2 had hmo hoo hl kk)
  · exact lv_tableIn (off := 910) (tgt := 955) hx hb dL_law_45 (by decide) (by decide) (by rfl) (by decide) (lc_raise hlt hx hb hr hml hown hts hK hKX hNc hX hbl hS hw hm ho ho2 had hmo hoo hl kk)
  · exact lv_tableIn (off := 1014) (tgt := 1059) hx hb dL_law_45 (by decide) (by decide) (by rfl) (by decide) (lc_set hlt hx hb hr hml hown hts hK hKX hNc hX hbl hS hw hm ho ho2 had hmo hoo hl kk)
  · exact lv_tableIn (off := 1094) (tgt := 1139) hx hb dL_law_45 (by decide) (by decide) (by rfl) (by decide) (lc_mix hlt hx hb hr hml hown hts hK hKX hNc hX hbl hS hw hm ho ho2 had hmo hoo hl kk)
  · exact lv_tableIn (off := 1186) (tgt := 1231) hx hb dL_law_45 (by decide) (by decide) (by rfl) (by decide) (lc_turn hlt hx hb hr hml hown hts hK hKX hNc hX hbl hS hw hm ho ho2 had hmo hoo hl kk)
  · exact lv_tableIn (off := 1266) (tgt := 1311) hx hb dL_law_45 (by decide) (by decide) (by rfl) (by decide) (lc_thick hlt hx hb hr hml hown hts hK hKX hNc hX hbl hS hw hm ho ho2 had hmo hoo hl kk)
  · exact lv_tableIn (off := 1334) (tgt := 1379) hx hb dL_law_45 (by decide) (by decide) (by rfl) (by decide) (lc_where hlt hx hb hr hml hown hts hK hKX hNc hX hbl hS hw hm ho ho2 had hmo hoo hl kk)
  · exact lv_tableIn (off := 1426) (tgt := 1471) hx hb dL_law_45 (by decide) (by decide) (by rfl) (by decide) (lc_ofFunction hlt hx hb hr hml hown hts hK hKX hNc hX hbl hS hw hm ho ho2 had hmo hoo hl kk)
  · exact lv_tableIn (off := 1494) (tgt := 1539) hx hb dL_law_45 (by decide) (by decide) (by rfl) (by decide) (lc_value hlt hx hb hr hml hown hts hK hKX hNc hX hbl hS hw hm ho ho2 had hmo hoo hl kk)
  · exact lv_tableIn (off := 1562) (tgt := 1607) hx hb dL_law_45 (by decide) (by decide) (by rfl) (by decide) (lc_area hlt hx hb hr hml hown hts hK hKX hNc hX hbl hS hw hm ho ho2 had hmo hoo hl kk)
  · exact lv_tableIn (off := 1630) (tgt := 1675) hx hb dL_law_45 (by decide) (by decide) (by rfl) (by decide) (lc_mean hlt hx hb hr hml hown hts hK hKX hNc hX hbl hS hw hm ho ho2 had hmo hoo hl kk)
  · exact lv_tableIn (off := 1719) (tgt := 1764) hx hb dL_law_45 (by decide) (by decide) (by rfl) (by decide) (lc_thicker hlt hx hb hr hml hown hts hK hKX hNc hX hbl hS hw hm ho ho2 had hmo hoo hl kk)
  · exact lv_tableIn (off := 1787) (tgt := 1832) hx hb dL_law_45 (by decide) (by decide) (by rfl) (by decide) (lc_cover hlt hx hb hr hml hown hts hK hKX hNc hX hbl hS hw hm ho ho2 had hmo hoo hl kk)
  · exact lv_tableIn (off := 1855) (tgt := 1900) hx hb dL_law_45 (by decide) (by decide) (by rfl) (by decide) (lc_covers hlt hx hb hr hml hown hts hK hKX hNc hX hbl hS hw hm ho ho2 had hmo hoo hl kk)
  · exact lv_tableIn (off := 1935) (tgt := 1980) hx hb dL_law_45 (by decide) (by decide) (by rfl) (by decide) (lc_apart hlt hx hb hr hml hown hts hK hKX hNc hX hbl hS hw hm ho ho2 had hmo hoo hl kk)
  · exact lv_tableIn (off := 1991) (tgt := 2036) hx hb dL_law_45 (by decide) (by decide) (by rfl) (by decide) (lc_pins hlt hx hb hr hml hown hts hK hKX hNc hX hbl hS hw hm ho ho2 had hmo hoo hl kk)
  · exact lv_tableIn (off := 2047) (tgt := 2092) hx hb dL_law_45 (by decide) (by decide) (by rfl) (by decide) (lc_meetWith hlt hx hb hr hml hown hts hK hKX hNc hX hbl hS hw hm ho ho2 had hmo hoo hl kk)
  · exact lv_tableIn (off := 2127) (tgt := 2172) hx hb dL_law_45 (by decide) (by decide) (by rfl) (by decide) (lc_clear hlt hx hb hr hml hown hts hK hKX hNc hX hbl hS hw hm ho ho2 had hmo hoo hl kk)
  · exact lv_tableIn (off := 2195) (tgt := 2240) hx hb dL_law_45 (by decide) (by decide) (by rfl) (by decide) (lc_best hlt hx hb hr hml hown hts hK hKX hNc hX hbl hS hw hm ho ho2 had hmo hoo hl kk)
  · exact lv_tableIn (off := 2263) (tgt := 2308) hx hb dL_law_45 (by decide) (by decide) (by rfl) (by decide) (lc_saves hlt hx hb hr hml hown hts hK hKX hNc hX hbl hS hw hm ho ho2 had hmo hoo hl kk)
  · exact lv_tableIn (off := 2343) (tgt := 2388) hx hb dL_law_45 (by decide) (by decide) (by rfl) (by decide) (lc_digest hlt hx hb hr hml hown hts hK hKX hNc hX hbl hS hw hm ho ho2 had hmo hoo hl kk)
  · refine lv_tableOut (tgt := 2402) hx hb dL_law_45 (Or.inr (by decide)) (by decide) ?_
    refine W.widen (k := 1000) (n := 100000) (by decide) (by decide) ?_
    exact kk _ _ _ hS (lv_sub hl [0, 5] rfl)
  · refine lv_tableOut (tgt := 2402) hx hb dL_law_45 (Or.inr (by decide)) (by decide) ?_
    refine W.widen (k := 1000) (n := 100000) (by decide) (by decide) ?_
    exact kk _ _ _ hS (lv_sub hl [0, 5] rfl)
set_option maxHeartbeats 4000000 in
set_option maxRecDepth 100000 in
theorem whole_start {p : Program} {e : Env} {s : State} {m : MethodId} {below : List Frame} {meth : Method} {c : Code} (l : Launch) (hflags : l.flags = flags0) {b L : Nat} {xs : Nat → Int32} (hL : L ≤ 6) (C0 : lw_At p s m meth c b L xs) : W p l e room_1 s m #[Value.ref b] below meth c s.heap [] 0 0 (lw_Z below #[Value.ref b] s) (entryFrame m ([Value.ref b] : List Value).toArray 9) := by
  obtain ⟨hx, hb0, hr, hml, hown0, hts0, hX, hbl, hlocks, hgv⟩ := id C0
  have hb : c.code = cL_law := hb0
  have hown : s.vm.findClass RL = some m.cls := hown0
  have hts : ∀ w ∈ wsL_law, w.before #[Value.ref b] s = true := fun w h => hts0 w (wsL_law_in w h)
  have hlt : l.stackTraces = false := by
    unfold Launch.stackTraces
    rw [hflags]
    decide +kernel
  obtain ⟨D, T, hK, hKX, hNc⟩ := start_env hts0 hgv
  have hS : va_S (fun q : Nat => s.heap.size ≤ q) s.heap s.heap [] := va_S.rf
  have hl := lv_entry ([.ref b]) (n := 9) (Nat.le_of_ble_eq_true rfl)
  rw [lg_entry_eq]
  generalize (lg_sl ([.ref b]) ++ List.replicate (9 - (lg_sl ([.ref b])).length) Slot.unset).toArray = ls at hl ⊢
  have hl : lv_has ls 9 [(0, .ref b)] := hl
  obtain ⟨h0, e0⟩ : ∃ z : Nat, z = s.heap.size := ⟨_, rfl⟩
  refine q_new (ci := 3) (fs := [.null, .null, .null, .null, .null, .null]) hx hb hts inlX3 tyX3 tyX3_ok hown (hts (.classLink RL 8 RX3) (by decide +kernel)) (hts (.instantiable RX3 6) (by decide +kernel)) (hts (.initialized RX3) (by decide +kernel)) hK rfl (fun j hj => by rcases j with _ | _ | _ | _ | _ | _ | j; all_goals first | rfl | omega) (Nat.le_of_ble_eq_true rfl) (Nat.le_of_ble_eq_true rfl) hS dL_law_0 (fun H1 hh z1 o1 hS => ?_)
  rw [← e0] at hh z1 ⊢
  refine lv_dup hx hb dL_law_3 rfl ?_
  refine va_callv (va_runI (As := []) (rest := [.ref h0]) ⟨hx, hb, hml, hown, hts⟩ (conX3_init l D T h0 (h0 + 1)) (cwI 0 hts gL_law_X3_init rfl rfl rfl (hts (.initialized RX3) (by decide +kernel)) (hts (.methodLink RL 108 yX3_init) (by decide +kernel)) (hts (.instanceMethod yX3_init) (by decide +kernel)) rfl (by decide +kernel) ⟨Nat.le_of_ble_eq_true rfl, Nat.le_of_ble_eq_true rfl⟩) (preS hK ⟨z1, hh⟩) rfl rfl hl.1 rfl (lv_room (Nat.le_of_ble_eq_true rfl)) dL_law_4 ⟨Nat.le_of_ble_eq_true rfl, Nat.le_of_ble_eq_true rfl⟩) hS (fun q _ h9 => na_N (by omega) (Nat.lt_succ_self h0) h9) (fun q h9 => na_N (by omega) (Nat.lt_succ_self h0) h9) (fun u t H2 locs2 ht hvm hw9 hB hz2 hk2 hS => ?_)
  try dsimp only at hB
  rw [ht] at hB
  obtain ⟨y2, hw⟩ := hB
  have ea : adI h0 (h0 + 1) 0 = h0 := if_pos rfl
  have har : ∀ i : Nat, i < 37 → h0 ≤ adI h0 (h0 + 1) i ∧ adI h0 (h0 + 1) i < h0 + 1 + 36 := fun i hi => adI_rng (Nat.lt_succ_self h0) hi
  refine lv_astore_n (lv' := [(1, .ref h0), (0, .ref b)]) hx hb dL_law_7 rfl hl (by decide) rfl (fun ls hl => ?_)
  obtain ⟨m0, e1⟩ : ∃ z : Nat, z = H2.size := ⟨_, rfl⟩
  refine q_new (ci := 4) (fs := [.int (nI 0), .null, .null]) hx hb hts inlX4 tyX4 tyX4_ok hown (hts (.classLink RL 109 RX4) (by decide +kernel)) (hts (.instantiable RX4 3) (by decide +kernel)) (hts (.initialized RX4) (by decide +kernel)) hK rfl (fun j hj => by rcases j with _ | _ | _ | j; all_goals first | rfl | omega) (Nat.le_of_ble_eq_true rfl) (Nat.le_of_ble_eq_true rfl) hS dL_law_8 (fun H3 hh3 z3 o3 hS => ?_)
  rw [← e1] at hh3 z3 ⊢
  replace hw := hw.kept (fun q h1 _ => o3 q h1)
  refine lv_dup hx hb dL_law_11 rfl ?_
  refine va_callv (va_runI (As := []) (rest := [.ref m0]) ⟨hx, hb, hml, hown, hts⟩ (conX4_init l D T m0 (m0 + 1)) (cwI 0 hts gL_law_X4_init rfl rfl rfl (hts (.initialized RX4) (by decide +kernel)) (hts (.methodLink RL 111 yX4_init) (by decide +kernel)) (hts (.instanceMethod yX4_init) (by decide +kernel)) rfl (by decide +kernel) ⟨Nat.le_of_ble_eq_true rfl, Nat.le_of_ble_eq_true rfl⟩) (preS hK ⟨z3, hh3⟩) rfl rfl hl.1 rfl (lv_room (Nat.le_of_ble_eq_true rfl)) dL_law_12 ⟨Nat.le_of_ble_eq_true rfl, Nat.le_of_ble_eq_true rfl⟩) hS (fun q _ h9 => na_N (by omega) (Nat.lt_succ_self m0) h9) (fun q h9 => na_N (by omega) (Nat.lt_succ_self m0) h9) (fun u t H4 locs4 ht hvm hw9 hB hz4 hk4 hS => ?_)
  try dsimp only at hB
  rw [ht] at hB
  obtain ⟨y4, hmd⟩ := hB
  have hm := MF.of hmd
  replace hw := hw.out hk4 (fun i hi h9 => by have := har i hi; rcases (show adI h0 (h0 + 1) i = m0 ∨ m0 + 1 ≤ adI h0 (h0 + 1) i from h9) with h8 | h8 <;> omega)
  refine lv_astore_n (lv' := [(2, .ref m0), (1, .ref h0), (0, .ref b)]) hx hb dL_law_15 rfl hl (by decide) rfl (fun ls hl => ?_)
  refine lv_iconst (v := nI 1) hx hb dL_law_16 (by decide) ?_
  obtain ⟨o, e2⟩ : ∃ z : Nat, z = H4.size := ⟨_, rfl⟩
  refine q_newl hx hb (hts (.arrayClass .long) (by decide +kernel)) hK 1 rfl (by decide) (Nat.le_of_ble_eq_true rfl) (Nat.le_of_ble_eq_true rfl) hS dL_law_17 (fun H5 ho z5 o5 hS => ?_)
  rw [← e2] at ho z5 ⊢
  replace hw := hw.kept (fun q h1 _ => o5 q h1)
  replace hm := hm.old o5
  refine lv_astore_n (lv' := [(3, .ref o), (2, .ref m0), (1, .ref h0), (0, .ref b)]) hx hb dL_law_19 rfl hl (by decide) rfl (fun ls hl => ?_)
  refine lv_iconst (v := nI 1) hx hb dL_law_20 (by decide) ?_
  obtain ⟨o2, e3⟩ : ∃ z : Nat, z = H5.size := ⟨_, rfl⟩
  refine q_newd hx hb (hts (.arrayClass .double) (by decide +kernel)) hK 1 rfl (by decide) (Nat.le_of_ble_eq_true rfl) (Nat.le_of_ble_eq_true rfl) hS dL_law_21 (fun H6 ho2 z6 o6 hS => ?_)
  rw [← e3] at ho2 z6 ⊢
  replace hw := hw.kept (fun q h1 _ => o6 q h1)
  replace hm := hm.old o6
  replace ho := ho.old o6
  refine lv_astore (lv' := [(4, .ref o2), (3, .ref o), (2, .ref m0), (1, .ref h0), (0, .ref b)]) hx hb dL_law_23 hl (by decide) rfl (fun ls hl => ?_)
  refine lv_iconst (v := nI 0) hx hb dL_law_25 (by decide) ?_
  refine lv_istore (lv' := [(5, .int (nI 0)), (4, .ref o2), (3, .ref o), (2, .ref m0), (1, .ref h0), (0, .ref b)]) hx hb dL_law_26 hl (by decide) rfl (fun ls hl => ?_)
  refine W.widen (k := 100) (n := 10000) (by decide) (by decide) ?_
  rw [← ea] at hl
  exact law_body hL hlt hx hb hr hlocks hml hown hts hK hKX hNc hX hbl hS hw hm ho ho2 (fun i hi => by have := har i hi; omega) (by omega) (by omega) hl
