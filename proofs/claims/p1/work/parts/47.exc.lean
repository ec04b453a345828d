/-! WHAT THE CLASS THROWS: the bundle for its two exceptions, and a throw where it stands -/
abbrev IAE : String := "java/lang/IllegalArgumentException"
abbrev IOB : String := "java/lang/IndexOutOfBoundsException"
def xwI : List Cond := vx_atS RX3 97 "java/lang/IllegalArgumentException" ["java/lang/RuntimeException", "java/lang/Exception"]
def xwB : List Cond := vx_atS RX3 119 "java/lang/IndexOutOfBoundsException" ["java/lang/RuntimeException", "java/lang/Exception"]
def xwX (X : String) : List Cond := [.declares (Bundle.initS "java/lang/RuntimeException"), .declares (Bundle.initS "java/lang/Exception"), .declares (Bundle.initS Bundle.tN), .castable X X]
theorem xwI_bad : ∀ w ∈ xwI.filter (fun w => !goodWord w), w ∈ xwX "java/lang/IllegalArgumentException" := by decide +kernel
theorem xwB_bad : ∀ w ∈ xwB.filter (fun w => !goodWord w), w ∈ xwX "java/lang/IndexOutOfBoundsException" := by decide +kernel
theorem xwI_ot : ∀ w ∈ Cond.classLink RX3 93 "java/lang/IllegalArgumentException" :: Cond.initialized "java/lang/IllegalArgumentException" :: xwI, vx_ot w = true := by decide +kernel
theorem xwB_ot : ∀ w ∈ Cond.classLink RX3 115 "java/lang/IndexOutOfBoundsException" :: Cond.initialized "java/lang/IndexOutOfBoundsException" :: xwB, vx_ot w = true := by decide +kernel
/-- the texts that the class hands to its exceptions, by their places in its pool -/
def xTx : List (Nat × String) := [(95, "times is not 2 to 10"), (117, "there is no such SPAN"), (139, "number is not -1000 to 1000"), (150, "number is not -10000 to 10000"), (155, "n is not 0 to 200"), (185, "there is no such place in the COVER"), (190, "n is not 1 to 100"), (214, "there is no such SET"), (216, "there is no such FUNCTION"), (218, "there is no such GRAIN"), (220, "how, what or ends is none of those that there are"), (222, "a or b is not 0 to 100, or b is below a"), (224, "by is not -100 to 100"), (226, "family is not 0 to 255")]
def KXt (U : State) : Prop := (va_Nw (.declares (Bundle.initS "java/lang/RuntimeException")) U ∧ va_Nw (.declares (Bundle.initS "java/lang/Exception")) U ∧ va_Nw (.declares (Bundle.initS Bundle.tN)) U) ∧ (va_Nw (.castable IAE IAE) U ∧ va_Nw (.castable IOB IOB) U) ∧ ∀ x ∈ xTx, ∃ a : Nat, vk_R RX3 x.1 x.2 a U
def KXz (N0 : Nat) (U : State) : Prop := vx_Zq Bundle.tN "UNASSIGNED_STACK" Bundle.steD (fun q => N0 ≤ q) U U.heap ∧ vx_Zq Bundle.tN "SUPPRESSED_SENTINEL" Bundle.listD (fun q => N0 ≤ q) U U.heap
def KX (N0 : Nat) (U : State) : Prop := KXt U ∧ KXz N0 U
theorem KXt.warm {s U : State} (h : KXt s) (hW : s.WarmedH U.vm) : KXt U := ⟨⟨va_Nw.warmD hW h.1.1, va_Nw.warmD hW h.1.2.1, va_Nw.warmD hW h.1.2.2⟩, ⟨va_Nw.warmC hW h.2.1.1, va_Nw.warmC hW h.2.1.2⟩, fun x hx => (h.2.2 x hx).imp fun a ha => vk_R.warm hW ha⟩
theorem KXt.same {s U : State} (h : KXt s) (e : s.vm = U.vm) : KXt U := ⟨⟨va_Nw.same rfl e h.1.1, va_Nw.same rfl e h.1.2.1, va_Nw.same rfl e h.1.2.2⟩, ⟨va_Nw.same rfl e h.2.1.1, va_Nw.same rfl e h.2.1.2⟩, fun x hx => (h.2.2 x hx).imp fun a ha => vk_R.same e.symm ha⟩
/-- the two statics of Throwable stay where only what lies at N0 and behind is written -/
theorem KXz.kept {N0 : Nat} {s U : State} (h : KXz N0 s) (hvm : s.vm.Alike U.vm) (hq : ∀ a : Nat, a < s.heap.size → ¬ N0 ≤ a → U.heap[a]? = s.heap[a]?) : KXz N0 U := ⟨vx_Zq.kept (vx_Zq.moved hvm h.1) hq, vx_Zq.kept (vx_Zq.moved hvm h.2) hq⟩
/-- a contract's start, where it may throw -/
def cX (D : va_G) (T : Nat → ClassId) (N0 : Nat) (av : List Value) (P : Heap → Prop) : Array Value → State → Prop := fun v U => v = av.toArray ∧ KB D T U ∧ P U.heap ∧ KX N0 U
theorem cX.blind {D : va_G} {T : Nat → ClassId} {N0 : Nat} {av : List Value} {P : Heap → Prop} : FrameBlind (cX D T N0 av P) := fun _ U _ _ h => ⟨h.1, h.2.1.same rfl, h.2.2.1, h.2.2.2.1.same rfl, h.2.2.2.2.kept (Vm.Alike.refl U.vm) (fun _ _ _ => rfl)⟩
/-- how it throws: E, and only what is new is written -/
def xQ (E : String) (A : Nat → Prop) : String → State → State → Prop := vx_X (fun (_ : Unit) => True) (fun E1 _ _ => E1 = E) A
section FWX
variable {p : Program} {l : Launch} {e : Env} {R : Room} {s : State} {m : MethodId} {args : Array Value} {below : List Frame} {meth : Method} {c : Code} {H : Heap} {locs : List Loc} {cells slots : Nat}
variable {cc : ByteArray} {pc : Nat} {ls : Array Slot} {rest : List Value} {D : va_G} {T : Nat → ClassId} {A : Nat → Prop} {N0 : Nat} {Qc : Array Value → State → Outcome → State → Prop} {free : Addr → Prop}
theorem q_throwI (hx : p.tables.exec = Jvm.exec) (hb : c.code = cc) (hl : l.stackTraces = false) {Ts : List Cond} (hts : ∀ w ∈ Ts, w.before args s = true) (hin : ∀ w ∈ Cond.classLink RX3 93 IAE :: Cond.initialized IAE :: xwI.filter goodWord, w ∈ Ts) (hown : s.vm.findClass RX3 = some m.cls) (hK : KX N0 s) (is : Nat) (text : String) (hin2 : (is, text) ∈ xTx) (hS : va_S (fun q => N0 ≤ q) s.heap H locs) (hsize : ls.size = c.maxLocals)
    (d0 : decode cc pc = .ok (.new 93, 3)) (d3 : decode cc (pc + 3) = .ok (.dup, 1)) (d4 : decode cc (pc + 4) = .ok (.ldc is, 2)) (d6 : decode cc (pc + 6) = .ok (.invokespecial 97, 3)) (d9 : decode cc (pc + 9) = .ok (.athrow, 1))
    (hout : ∀ x ∈ c.exceptionTable.toList, covers x (pc + 9) = false) (hRf : 5 < R.frames) (hRl : (rest.map fun v => v.category).sum + 82 ≤ R.locals) (hRc : cells + 1 ≤ R.cells) (hRs : slots + 6 ≤ R.slots) (hlocks : meth.locks = false) (hf : ∀ z ∈ locs, free z.base) {mc ms : Nat} (hc : cells + 1 ≤ mc) (hs : slots + 6 ≤ ms) :
    W p l e R s m args below meth c H locs cells slots (vx_MQ below Qc (xQ IAE (fun q => N0 ≤ q)) args s mc ms free) (F0 m pc ls rest) := by
  obtain ⟨sa, hstr⟩ := hK.1.2.2 (is, text) hin2
  refine vx_throwS hx hb hl (own := RX3) (cls := IAE) (names := ["java/lang/RuntimeException", "java/lang/Exception"]) (A := fun q => N0 ≤ q) hown (by decide +kernel) (by decide +kernel) (hts _ (hin _ List.mem_cons_self)) (hts _ (hin _ (List.mem_cons_of_mem _ List.mem_cons_self))) hstr (vx_hat (B := xwX IAE) (fun w hw => hts w (hin w (List.mem_cons_of_mem _ (List.mem_cons_of_mem _ hw)))) xwI_bad ?_) xwI_ot hK.2.1 hK.2.2 hS hsize d0 d3 d4 d6 d9 hout hRf hRl hRc hRs hlocks (fun t _ hz hq => ⟨(), trivial, rfl, ?_⟩) hf hc hs
  · exact vx_c (va_Nw.use rfl hK.1.1.1) (vx_c (va_Nw.use rfl hK.1.1.2.1) (vx_c (va_Nw.use rfl hK.1.1.2.2) (vx_c (va_Nw.use rfl hK.1.2.1.1) vx_n)))
  · exact ⟨Nat.le_trans hS.1 hz, fun q h1 h2 => (hq q (Nat.lt_of_lt_of_le h1 hS.1)).trans (hS.2.1 q h1 h2)⟩
theorem q_throwB (hx : p.tables.exec = Jvm.exec) (hb : c.code = cc) (hl : l.stackTraces = false) {Ts : List Cond} (hts : ∀ w ∈ Ts, w.before args s = true) (hin : ∀ w ∈ Cond.classLink RX3 115 IOB :: Cond.initialized IOB :: xwB.filter goodWord, w ∈ Ts) (hown : s.vm.findClass RX3 = some m.cls) (hK : KX N0 s) (is : Nat) (text : String) (hin2 : (is, text) ∈ xTx) (hS : va_S (fun q => N0 ≤ q) s.heap H locs) (hsize : ls.size = c.maxLocals)
    (d0 : decode cc pc = .ok (.new 115, 3)) (d3 : decode cc (pc + 3) = .ok (.dup, 1)) (d4 : decode cc (pc + 4) = .ok (.ldc is, 2)) (d6 : decode cc (pc + 6) = .ok (.invokespecial 119, 3)) (d9 : decode cc (pc + 9) = .ok (.athrow, 1))
    (hout : ∀ x ∈ c.exceptionTable.toList, covers x (pc + 9) = false) (hRf : 5 < R.frames) (hRl : (rest.map fun v => v.category).sum + 82 ≤ R.locals) (hRc : cells + 1 ≤ R.cells) (hRs : slots + 6 ≤ R.slots) (hlocks : meth.locks = false) (hf : ∀ z ∈ locs, free z.base) {mc ms : Nat} (hc : cells + 1 ≤ mc) (hs : slots + 6 ≤ ms) :
    W p l e R s m args below meth c H locs cells slots (vx_MQ below Qc (xQ IOB (fun q => N0 ≤ q)) args s mc ms free) (F0 m pc ls rest) := by
  obtain ⟨sa, hstr⟩ := hK.1.2.2 (is, text) hin2
  refine vx_throwS hx hb hl (own := RX3) (cls := IOB) (names := ["java/lang/RuntimeException", "java/lang/Exception"]) (A := fun q => N0 ≤ q) hown (by decide +kernel) (by decide +kernel) (hts _ (hin _ List.mem_cons_self)) (hts _ (hin _ (List.mem_cons_of_mem _ List.mem_cons_self))) hstr (vx_hat (B := xwX IOB) (fun w hw => hts w (hin w (List.mem_cons_of_mem _ (List.mem_cons_of_mem _ hw)))) xwB_bad ?_) xwB_ot hK.2.1 hK.2.2 hS hsize d0 d3 d4 d6 d9 hout hRf hRl hRc hRs hlocks (fun t _ hz hq => ⟨(), trivial, rfl, ?_⟩) hf hc hs
  · exact vx_c (va_Nw.use rfl hK.1.1.1) (vx_c (va_Nw.use rfl hK.1.1.2.1) (vx_c (va_Nw.use rfl hK.1.1.2.2) (vx_c (va_Nw.use rfl hK.1.2.1.2) vx_n)))
  · exact ⟨Nat.le_trans hS.1 hz, fun q h1 h2 => (hq q (Nat.lt_of_lt_of_le h1 hS.1)).trans (hS.2.1 q h1 h2)⟩
end FWX
set_option maxHeartbeats 4000000 in
set_option maxRecDepth 100000 in
/-- checkFamily, where it refuses -/
theorem thX3_checkFamily (l : Launch) (hlt : l.stackTraces = false) (D : va_G) (T : Nat → ClassId) (N0 : Nat) (x : Int32) (hbad : x < 0 ∨ ¬ x ≤ nI 255) : vx_Met l yX3_checkFamily wsX3_checkFamily ({ frames := 6, cells := 1, slots := 6, locals := 82 }) (cX D T N0 [.int x] (fun _ => True)) (va_Qv (fun (_ : Unit) => False) (fun _ _ => True) (fun q : Nat => N0 ≤ q)) (xQ IAE (fun q => N0 ≤ q)) 1 6 (fun q : Nat => N0 ≤ q) := by
  refine vx_ofW (cc := cX3_checkFamily) (maxL := 1) (ret := none) (by decide) rfl ?_
  intro p e s m args below meth c s₁ B hml hex hv9
  obtain ⟨rfl, hK, -, hKX⟩ := hv9
  have hx := B.exec
  have hb := B.bytes
  have hts := atoms_spec (ws := wsX3_checkFamily) B.pre
  have hown : s.vm.findClass RX3 = some m.cls := findClass_of_methodNamed B.named
  have hlocks := B.notSynchronized
  have hS : va_S (fun q => N0 ≤ q) s.heap s.heap [] := va_S.rf
  have hl := lv_entry ([.int x]) (n := 1) (Nat.le_of_ble_eq_true rfl)
  rw [lg_entry_eq]
  generalize (lg_sl ([.int x]) ++ List.replicate (1 - (lg_sl ([.int x])).length) Slot.unset).toArray = ls at hl ⊢
  have hl : lv_has ls 1 [(0, .int x)] := hl
  have hend : W p l e (headSpec wsX3_checkFamily { frames := 6, cells := 1, slots := 6, locals := 82 }).room s m #[Value.int x] below meth c s.heap [] 0 0 (vx_MQ below (va_Qv (fun (_ : Unit) => False) (fun _ _ => True) (fun q : Nat => N0 ≤ q)) (xQ IAE (fun q => N0 ≤ q)) #[Value.int x] s 1 6 (fun q : Nat => N0 ≤ q)) (F0 m 11 ls []) :=
    q_throwI hx hb hlt hts (by decide +kernel) hown hKX 226 "family is not 0 to 255" (by decide +kernel) hS (hl.1.trans hml.symm) dX3_checkFamily_11 dX3_checkFamily_14 dX3_checkFamily_15 dX3_checkFamily_17 dX3_checkFamily_20 (fun z hz => absurd (hex z hz) (fun f => f)) (Nat.le_of_ble_eq_true rfl) (Nat.le_of_ble_eq_true rfl) (Nat.le_of_ble_eq_true rfl) (Nat.le_of_ble_eq_true rfl) hlocks (fun z hz => absurd hz List.not_mem_nil) (Nat.le_of_ble_eq_true rfl) (Nat.le_of_ble_eq_true rfl)
  refine lv_iload_n hx hb dX3_checkFamily_0 rfl (lv_at hl 0 rfl) ?_
  refine lv_if_lt (tgt := 11) hx hb dX3_checkFamily_1 (by decide) (fun c1 => hend) (fun c1 => ?_)
  refine lv_iload_n hx hb dX3_checkFamily_4 rfl (lv_at hl 0 rfl) ?_
  refine lv_sipush (v := nI 255) hx hb dX3_checkFamily_5 (by decide) ?_
  exact lv_icmp_le (tgt := 21) hx hb dX3_checkFamily_8 (by decide) (fun c8 => absurd hbad (fun h9 => h9.elim c1 (fun h8 => h8 c8))) (fun c8 => hend)
