/-! THE LAW'S WRAPPERS: a call of the class that may throw, caught -/
def cW (D : va_G) (T : Nat → ClassId) (N0 : Nat) (av : List Value) (P : Heap → Prop) : Array Value → State → Prop := fun v U => cX D T N0 av P v U ∧ va_Nc IAE IOB U
theorem cW.blind {D : va_G} {T : Nat → ClassId} {N0 : Nat} {av : List Value} {P : Heap → Prop} : FrameBlind (cW D T N0 av P) := fun a U g mk h => ⟨cX.blind a U g mk h.1, va_Nc.moved (u := U) (Vm.Alike.refl U.vm) h.2⟩
theorem preW {D : va_G} {T : Nat → ClassId} {N0 : Nat} {s : State} {H : Heap} {av : List Value} {P : Heap → Prop} (hK : KB D T s) (hKX : KXt s) (hKz : ∀ U : State, U.heap = H → s.vm.Alike U.vm → KXz N0 U) (hN : va_Nc IAE IOB s) (hP : P H) : PreS s H (cW D T N0 av P) av := ⟨cW.blind, fun U hU hW => ⟨⟨rfl, hK.warm hW, by rw [hU]; exact hP, hKX.warm hW, hKz U hU hW.alike⟩, va_Nc.moved hW.alike hN⟩⟩
theorem KXz.up {N0 N1 : Nat} {U : State} (h : KXz N0 U) (hN : N0 ≤ N1) : KXz N1 U := ⟨vx_Zq.narrow h.1 (fun _ hq => Nat.le_trans hN hq), vx_Zq.narrow h.2 (fun _ hq => Nat.le_trans hN hq)⟩
theorem KX.up {N0 N1 : Nat} {U : State} (h : KX N0 U) (hN : N0 ≤ N1) : KX N1 U := ⟨h.1, h.2.up hN⟩
/-- what a wrapper's call may write: the object's cells, the answer's cell, what is new -/
def WA (ad : Nat → Nat) (o sz : Nat) : Nat → Prop := fun q => PLA ad q ∨ q = o ∨ sz ≤ q
/-- the answer's cell behind it -/
def LO (D : va_G) (T : Nat → ClassId) (o : Nat) (t : Int32) (v : Int64) (H : Heap) : Prop := ∃ g : Nat → Int64, pAt D H o (eL (T 6) 1 g) ∧ (t = nI 0 → g 0 = v)
def LD (D : va_G) (T : Nat → ClassId) (o : Nat) (t : Int32) (v : UInt64) (H : Heap) : Prop := ∃ g : Nat → UInt64, pAt D H o (eD (T 7) 1 g) ∧ (t = nI 0 → g 0 = v)
theorem q_ofWH {l : Launch} {y : MethodName} {ws ws' : List Cond} {rm : Room} {Pc : Array Value → State → Prop} {Qc : Array Value → State → Outcome → State → Prop} {mc ms : Nat} {free : Addr → Prop} {cc : ByteArray} {maxL : Nat} {ret : Option FieldType} {hh : List (Nat × Nat × Nat × Nat)}
    (hy : plainName y.cls = true) (hw : ws = Cond.codeWith y cc maxL ret hh :: ws')
    (body : ∀ p e s m args below meth c s₁, BodyLoose p l y (headSpec ws rm) cc maxL ret e s m args below meth c s₁ → c.maxLocals = maxL → Pc args s →
      W p l e (headSpec ws rm).room s m args below meth c s.heap [] 0 0 (MQ below Qc args s mc ms free) (entryFrame m args maxL)) : Met l y ws rm Pc Qc mc ms free := by
  refine MetFree.of_bodyS (code := cc) (maxLocals := maxL) (ret := ret) hy ?_ ?_
  · intro args s m h hn
    obtain ⟨m9, meth, c, hn9, h1, h2, h3, h4, -, h5, h6, -⟩ := Cond.codeWith_spec (atoms_spec (ws := ws) h _ (by rw [hw]; exact List.mem_cons_self))
    cases hn.symm.trans hn9
    exact ⟨meth, c, h1, h2, h3, h4, h5, h6⟩
  · intro p e s m args below meth c s₁ B hml hP _
    have hh0 : s₁.heap = s.heap := by rw [B.state]; rfl
    obtain ⟨t, a1, o, b1, b2, b3⟩ := body p e s m args below meth c s₁ B hml hP s₁ hh0 (Stand.of_body B)
    exact ⟨t, o, a1, b1, b2, b3⟩
theorem inM_bad {x lo hi : Int32} (h : inM x lo hi = 0) : x < lo ∨ hi < x := by
  unfold inM at h
  split at h
  · next q => exact Or.inl q
  · split at h
    · next q => exact Or.inr q
    · exact absurd h (by decide)
theorem inM_in {x lo hi : Int32} (h : ¬ inM x lo hi = 0) : ¬ x < lo ∧ x ≤ hi := by
  unfold inM at h
  split at h
  · exact absurd rfl h
  · next h0 =>
    split at h
    · exact absurd rfl h
    · next h1 => exact ⟨h0, Int32.not_lt.mp h1⟩
theorem nI_up {x : Int32} {n : Nat} (hn : n + 1 < 2 ^ 31) (h : nI n < x) : nI (n + 1) ≤ x := by
  rw [Int32.lt_iff_toInt_lt, nI_toInt (by omega)] at h
  rw [Int32.le_iff_toInt_le, nI_toInt hn]
  omega
theorem bad1 {x : Int32} {n : Nat} (hn : n + 1 < 2 ^ 31) (h : inM x (nI 0) (nI n) = 0) : x < 0 ∨ nI (n + 1) ≤ x := (inM_bad h).imp id (nI_up hn)
theorem bad2 {x : Int32} {n : Nat} (hn : n + 1 < 2 ^ 31) (h : inM x (nI 0) (nI n) = 0) : x < 0 ∨ ¬ x < nI (n + 1) := (inM_bad h).imp id (fun q => Int32.not_lt.mpr (nI_up hn q))
theorem bad3 {x lo hi : Int32} (h : inM x lo hi = 0) : x < lo ∨ ¬ x ≤ hi := (inM_bad h).imp id (fun q => Int32.not_le.mpr q)
theorem badS {x y z : Int32} (h : spanM x y z = 0) : (x < 0 ∨ nI 100 < y ∨ y < x) ∨ (z < 0 ∨ ¬ z ≤ nI 3) := by
  unfold spanM at h
  split at h
  · next q => exact Or.inl (Or.inl q)
  · split at h
    · next q => exact Or.inl (Or.inr (Or.inl q))
    · split at h
      · next q => exact Or.inl (Or.inr (Or.inr q))
      · split at h
        · next q => exact Or.inr (bad3 q)
        · exact absurd h (by decide)
def SA (ad : Nat → Nat) (sz : Nat) : Nat → Prop := fun q => PLA ad q ∨ sz ≤ q
section FWY
variable {p : Program} {l : Launch} {e : Env} {R : Room} {s : State} {m : MethodId} {args : Array Value} {below : List Frame} {meth : Method} {c : Code} {H : Heap} {locs : List Loc} {cells slots : Nat}
variable {cc : ByteArray} {pc : Nat} {ls : Array Slot} {rest : List Value} {D : va_G} {T : Nat → ClassId} {A : Nat → Prop} {N0 : Nat} {Qc : Array Value → State → Outcome → State → Prop} {free : Addr → Prop}
theorem q_throwG (hx : p.tables.exec = Jvm.exec) (hb : c.code = cc) (hl : l.stackTraces = false) {Ts : List Cond} (hts : ∀ w ∈ Ts, w.before args s = true) (hin : ∀ w ∈ Cond.classLink RX3 115 IOB :: Cond.initialized IOB :: xwB.filter goodWord, w ∈ Ts) (hown : s.vm.findClass RX3 = some m.cls) (hK : KX N0 s) (hAN : ∀ q : Nat, A q → N0 ≤ q) (hAs : ∀ q : Nat, s.heap.size ≤ q → A q) (is : Nat) (text : String) (hin2 : (is, text) ∈ xTx) (hS : va_S A s.heap H locs) (hsize : ls.size = c.maxLocals)
    (d0 : decode cc pc = .ok (.new 115, 3)) (d3 : decode cc (pc + 3) = .ok (.dup, 1)) (d4 : decode cc (pc + 4) = .ok (.ldc is, 2)) (d6 : decode cc (pc + 6) = .ok (.invokespecial 119, 3)) (d9 : decode cc (pc + 9) = .ok (.athrow, 1))
    (hout : ∀ x ∈ c.exceptionTable.toList, covers x (pc + 9) = false) (hRf : 5 < R.frames) (hRl : (rest.map fun v => v.category).sum + 82 ≤ R.locals) (hRc : cells + 1 ≤ R.cells) (hRs : slots + 6 ≤ R.slots) (hlocks : meth.locks = false) (hf : ∀ z ∈ locs, free z.base) {mc ms : Nat} (hc : cells + 1 ≤ mc) (hs : slots + 6 ≤ ms) :
    W p l e R s m args below meth c H locs cells slots (vx_MQ below Qc (xQ IOB A) args s mc ms free) (F0 m pc ls rest) := by
  obtain ⟨sa, hstr⟩ := hK.1.2.2 (is, text) hin2
  refine vx_throwS hx hb hl (own := RX3) (cls := IOB) (names := ["java/lang/RuntimeException", "java/lang/Exception"]) (A := A) hown (by decide +kernel) (by decide +kernel) (hts _ (hin _ List.mem_cons_self)) (hts _ (hin _ (List.mem_cons_of_mem _ List.mem_cons_self))) hstr (vx_hat (B := xwX IOB) (fun w hw => hts w (hin w (List.mem_cons_of_mem _ (List.mem_cons_of_mem _ hw)))) xwB_bad ?_) xwB_ot (vx_Zq.narrow hK.2.1 hAN) (vx_Zq.narrow hK.2.2 hAN) hS hsize d0 d3 d4 d6 d9 hout hRf hRl hRc hRs hlocks (fun t _ hz hq => ⟨(), trivial, rfl, ?_⟩) hf hc hs
  · exact vx_c (va_Nw.use rfl hK.1.1.1) (vx_c (va_Nw.use rfl hK.1.1.2.1) (vx_c (va_Nw.use rfl hK.1.1.2.2) (vx_c (va_Nw.use rfl hK.1.2.1.2) vx_n)))
  · exact ⟨Nat.le_trans hS.1 hz, fun q h1 h2 => (hq q (Nat.lt_of_lt_of_le h1 hS.1)).trans (hS.2.1 q h1 h2)⟩
end FWY
set_option maxHeartbeats 4000000 in
set_option maxRecDepth 100000 in
theorem thX3_ofSpan_2A (l : Launch) (hlt : l.stackTraces = false) (D : va_G) (T : Nat → ClassId) (N0 sz : Nat) (ad : Nat → Nat) (F V : Nat → Nat → Int32) (sr : SRs) (C : Nat → Int32) (k : Nat) (x2 x3 : Int32) (hk : k < 8) (hN : ∀ i : Nat, i < 37 → N0 ≤ ad i) (hNs : N0 ≤ sz) (hsn : sr.2.2 ≤ 201) (hem : ∀ j : Nat, j < 201 → holdZ (F k) (nI j) = 0) : vx_Met l yX3_ofSpan wsX3_ofSpan ({ frames := 6, cells := 1, slots := 6, locals := 82 }) (cX D T N0 [.ref (ad 0), .int (nI k), .int x2, .int x3] (fun H => H.size = sz ∧ PLW D T ad F V sr C H)) (va_Qv (fun (_ : Unit) => False) (fun _ _ => True) (SA ad sz)) (xQ IOB (SA ad sz)) 1 6 (SA ad sz) := by
  refine vx_ofW (cc := cX3_ofSpan) (maxL := 4) (ret := (some .int)) (by decide) rfl ?_
  intro p e s m args below meth c s₁ B hml hex hv9
  obtain ⟨rfl, hK, ⟨hsz, hw⟩, hKX⟩ := hv9
  have hx := B.exec
  have hb := B.bytes
  have hts := atoms_spec (ws := wsX3_ofSpan) B.pre
  have hown : s.vm.findClass RX3 = some m.cls := findClass_of_methodNamed B.named
  have hlocks := B.notSynchronized
  have hin3 : ∀ w ∈ wsX30, w ∈ wsX3_ofSpan := by decide +kernel
  have hA : ∀ i : Nat, i < 37 → (SA ad sz) (ad i) := fun i hi => Or.inl ⟨i, hi, rfl⟩
  have hS : va_S (SA ad sz) s.heap s.heap [] := va_S.rf
  have hl := lv_entry ([.ref (ad 0), .int (nI k), .int x2, .int x3]) (n := 4) (Nat.le_of_ble_eq_true rfl)
  rw [lg_entry_eq]
  generalize (lg_sl ([.ref (ad 0), .int (nI k), .int x2, .int x3]) ++ List.replicate (4 - (lg_sl ([.ref (ad 0), .int (nI k), .int x2, .int x3])).length) Slot.unset).toArray = ls at hl ⊢
  have hl : lv_has ls 4 [(0, .ref (ad 0)), (1, .int (nI k)), (2, .int x2), (3, .int x3)] := hl
  refine lv_aload_n hx hb dX3_ofSpan_0 rfl (lv_at hl 0 rfl) ?_
  refine q_get (v := .ref (ad 3)) hx hb hts hin3 hown hK hw.o rfl 4 (by decide) (hts (.fieldLink RX3 34 "PuddingstoneLine" "spanRow" "LPuddingstoneLine$SpanRow;") (by decide +kernel)) (fun _ h9 => h9) rfl dX3_ofSpan_1 ?_
  refine lv_aload_n hx hb dX3_ofSpan_4 rfl (lv_at hl 0 rfl) ?_
  refine lv_iload_n hx hb dX3_ofSpan_5 rfl (lv_at hl 1 rfl) ?_
  refine va_csr (ad := fun k => .ref k) (va_runV (As := [.int (nI k)]) (rest := [.ref (ad 3)]) ⟨hx, hb, hml, hown, hts⟩ (conX3_setAt l D T ad F V sr C k (by omega)) (cwV 1 hts gX3_ofSpan_X3_setAt rfl rfl rfl (by decide +kernel) ⟨Nat.le_of_ble_eq_true rfl, Nat.le_of_ble_eq_true rfl⟩) (preV hK hw.o rfl hw) rfl rfl hl.1 rfl (lv_room (Nat.le_of_ble_eq_true rfl)) dX3_ofSpan_6 ⟨Nat.le_of_ble_eq_true rfl, Nat.le_of_ble_eq_true rfl⟩).run (fun r1 hr1 => ?_)
  subst hr1
  refine lv_iconst (v := nI 1) hx hb dX3_ofSpan_9 (by decide) ?_
  refine va_callv (va_runV (As := [.ref (ad (4 + k)), .int (nI 1)]) (rest := []) ⟨hx, hb, hml, hown, hts⟩ (conX1_readRuns l D T (ad 3) (ad 34) (ad 35) sr.1 sr.2.1 sr.2.2 hw.1.sr3 hsn (ad (4 + k)) (ad (13 + k)) (F k) (nI 1) (hw.1.nsr (4 + k) (by omega) ⟨by omega, by omega, by omega⟩) (hw.1.nsr (13 + k) (by omega) ⟨by omega, by omega, by omega⟩)) (cwV 2 hts gX3_ofSpan_X1_readRuns rfl rfl rfl (by decide +kernel) ⟨Nat.le_of_ble_eq_true rfl, Nat.le_of_ble_eq_true rfl⟩) (preV hK hw.srr.1 rfl ⟨hw.srr, (hw.gs k (by omega)).1, (hw.gs k (by omega)).2.1, (hw.gs k (by omega)).2.2⟩) rfl rfl hl.1 rfl (lv_room (Nat.le_of_ble_eq_true rfl)) dX3_ofSpan_10 ⟨Nat.le_of_ble_eq_true rfl, Nat.le_of_ble_eq_true rfl⟩) hS (fun q _ h9 => (by rcases (show q = ad 3 ∨ q = ad 34 ∨ q = ad 35 from h9) with h8 | h8 | h8 <;> rw [h8]; exact hA 3 (by omega); exact hA 34 (by omega); exact hA 35 (by omega))) (fun q h9 => (by rcases (show q = ad 3 ∨ q = ad 34 ∨ q = ad 35 from h9) with h8 | h8 | h8 <;> rw [h8]; exact hA 3 (by omega); exact hA 34 (by omega); exact hA 35 (by omega))) (fun u t H1 locs1 ht hvm hw9 hB hz1 hk1 hS => ?_)
  try dsimp only at hB
  rw [ht] at hB
  replace hw := hw.setR (sr' := rrR (F k) (nI 1) sr 201) hB (fun q h1 h2 => hk1 q h1 h2)
  rw [rrR_e1 hem sr (Nat.le_refl _)] at hw
  refine lv_iload_n hx hb dX3_ofSpan_13 rfl (lv_at hl 2 rfl) ?_
  refine lv_if_lt (tgt := 28) hx hb dX3_ofSpan_14 (by decide) (fun c14 => ?_) (fun c14 => ?_)
  · skip
    exact q_throwG hx hb hlt hts (by decide +kernel) hown hKX (fun q h9 => h9.elim (fun ⟨i, hi, h8⟩ => by rw [h8]; exact hN i hi) (fun h8 => Nat.le_trans hNs h8)) (fun q h9 => Or.inr (by omega)) 117 "there is no such SPAN" (by decide +kernel) hS (hl.1.trans hml.symm) dX3_ofSpan_28 dX3_ofSpan_31 dX3_ofSpan_32 dX3_ofSpan_34 dX3_ofSpan_37 (fun z hz => absurd (hex z hz) (fun f => f)) (Nat.le_of_ble_eq_true rfl) (Nat.le_of_ble_eq_true rfl) (Nat.le_of_ble_eq_true rfl) (Nat.le_of_ble_eq_true rfl) hlocks hS.2.2 (Nat.le_of_ble_eq_true rfl) (Nat.le_of_ble_eq_true rfl)
  · skip
    refine lv_iload_n hx hb dX3_ofSpan_17 rfl (lv_at hl 2 rfl) ?_
    refine lv_aload_n hx hb dX3_ofSpan_18 rfl (lv_at hl 0 rfl) ?_
    refine q_get (v := .ref (ad 3)) hx hb hts hin3 hown hK hw.o rfl 4 (by decide) (hts (.fieldLink RX3 34 "PuddingstoneLine" "spanRow" "LPuddingstoneLine$SpanRow;") (by decide +kernel)) (fun _ h9 => h9) rfl dX3_ofSpan_19 ?_
    refine vp_callSi (va_runV (As := []) (rest := [.int x2]) ⟨hx, hb, hml, hown, hts⟩ (conX1_size l D T (ad 3) (ad 34) (ad 35) (sr.1, sr.2.1, 0).1 (sr.1, sr.2.1, 0).2.1 (sr.1, sr.2.1, 0).2.2 hw.1.sr3 (Nat.zero_le _)) (cwV 0 hts gX3_ofSpan_X1_size rfl rfl rfl (by decide +kernel) ⟨Nat.le_of_ble_eq_true rfl, Nat.le_of_ble_eq_true rfl⟩) (preV hK hw.srr.1 rfl hw.srr) rfl rfl hl.1 rfl (lv_room (Nat.le_of_ble_eq_true rfl)) dX3_ofSpan_22 ⟨Nat.le_of_ble_eq_true rfl, Nat.le_of_ble_eq_true rfl⟩).run (fun r2 hr2 => ?_)
    rw [hr2]
    refine lv_icmp_lt (tgt := 38) hx hb dX3_ofSpan_25 (by decide) (fun c25 => ?_) (fun c25 => ?_)
    · skip
      exact absurd c25 (fun h9 => c14 h9)
    · skip
      exact q_throwG hx hb hlt hts (by decide +kernel) hown hKX (fun q h9 => h9.elim (fun ⟨i, hi, h8⟩ => by rw [h8]; exact hN i hi) (fun h8 => Nat.le_trans hNs h8)) (fun q h9 => Or.inr (by omega)) 117 "there is no such SPAN" (by decide +kernel) hS (hl.1.trans hml.symm) dX3_ofSpan_28 dX3_ofSpan_31 dX3_ofSpan_32 dX3_ofSpan_34 dX3_ofSpan_37 (fun z hz => absurd (hex z hz) (fun f => f)) (Nat.le_of_ble_eq_true rfl) (Nat.le_of_ble_eq_true rfl) (Nat.le_of_ble_eq_true rfl) (Nat.le_of_ble_eq_true rfl) hlocks hS.2.2 (Nat.le_of_ble_eq_true rfl) (Nat.le_of_ble_eq_true rfl)
