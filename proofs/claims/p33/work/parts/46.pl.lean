/-! PuddingstoneLine(): 36 cells behind the object's own -/
section FWP
variable {p : Program} {l : Launch} {e : Env} {R : Room} {s : State} {m : MethodId} {args : Array Value} {below : List Frame} {meth : Method} {c : Code} {H : Heap} {locs : List Loc} {cells slots : Nat} {Q : State → Prop}
variable {cc : ByteArray} {pc : Nat} {ls : Array Slot} {rest : List Value} {D : va_G} {T : Nat → ClassId} {A : Nat → Prop} {a : Nat} {H0 : Heap}
theorem pAt.keptC {D : va_G} {H H1 : Heap} {a b S : Nat} {e : va_E} (h : pAt D H a e) (hz : H.size = S) (hk : ∀ q : Nat, q < H.size → ¬ NA b S q → H1[q]? = H[q]?) (hn : a ≠ b) : pAt D H1 a e := h.kept (hk a h.lt (fun h9 => by
  rcases h9 with h9 | h9
  · exact hn h9
  · have := h.lt; omega))
theorem q_aast (hx : p.tables.exec = Jvm.exec) (hb : c.code = cc) (hK : KB D T s) (ti ci : Nat) {cA : ClassId} {r : vw_C} (ht : (TY T)[ti]? = some (cA, .object r.1)) (hc : vwCl[ci]? = some r) {n v : Nat} {vs : List Value} {f : Nat → Option Nat} (ha : pAt D H a (eR cA n f)) (hv : pAt D H v (eO ci vs)) {i : Int32} (j : Nat) (hi : i = nI j) (hj : j < n) (hn : n < 2 ^ 31) (hS : va_S A H0 H locs) (hA : A a) (hdg : decode cc pc = .ok (.aastore, 1))
    (kk : ∀ (H1 : Heap) (locs1 : List Loc), pAt D H1 a (eR cA n (fun k => if k = j then some v else f k)) → H1.size = H.size → (∀ q : Nat, q ≠ a → H1[q]? = H[q]?) → va_S A H0 H1 locs1 → W p l e R s m args below meth c H1 locs1 cells slots Q (F0 m (pc + 1) ls rest)) : W p l e R s m args below meth c H locs cells slots Q (F0 m pc ls (.ref v :: .int i :: .ref a :: rest)) := by
  subst hi
  have hin : vp_in (nI j) n := vp_in_nI hj hn
  have hcl : (nI j).toNatClampNeg = j := nI_clamp (by omega)
  obtain ⟨r', hr', cellV, g1, g2, g3, -⟩ := hv
  have hcls := (hK.1.1 ci r hc).2
  obtain ⟨kA, comp, k1, k2, k3, -⟩ := (hK.1.2 ti _ ht).2
  have hcomp : comp = D.1 ci := Option.some.inj (k3.symm.trans hcls.1)
  subst hcomp
  obtain ⟨kC, hkC, -⟩ := hcls.2
  refine W.aast hx hb (pone ha 0 _ rfl) (fun q h => by cases h) (fun h => by cases h) k1 k2 rfl hkC ⟨fun q => hin (Or.inl q), by show _ < (arrV _ _ _).slots.size; rw [arrV_size, hcl]; exact hj⟩ g1 (fun q h => by rw [g3] at h; cases h) (by rw [g2]; exact hkC) (by rw [g2]; exact va_assign hcls) rfl rfl hdg fun H1 e z oq => ?_
  refine kk H1 _ ?_ z oq (hS.put z oq hA)
  show H1[a]? = some (vp_cell _ _)
  rw [e, vp_cell_q, vp_cell_q, arrV_store, hcl]
  congr 2
  funext q
  by_cases hq : q = j
  · subst hq
    simp [updV, va_rf]
  · simp [updV, hq]
/-- a counted loop that makes dc cells of ds slots in all at each turn -/
theorem q_forg {ls0 : Array Slot} (I : Nat → Heap → List Loc → Array Slot → Prop) (N dc ds : Nat) (h0 : I 0 H locs ls0)
    (hstep : ∀ (i : Nat) (H : Heap) (locs : List Loc) (ls : Array Slot), i < N → I i H locs ls → (∀ (H' : Heap) (locs' : List Loc) (ls' : Array Slot), I (i + 1) H' locs' ls' → W p l e R s m args below meth c H' locs' (cells + (i + 1) * dc) (slots + (i + 1) * ds) Q (F0 m pc ls' [])) → W p l e R s m args below meth c H locs (cells + i * dc) (slots + i * ds) Q (F0 m pc ls []))
    (hexit : ∀ (H : Heap) (locs : List Loc) (ls : Array Slot), I N H locs ls → W p l e R s m args below meth c H locs (cells + N * dc) (slots + N * ds) Q (F0 m pc ls [])) : W p l e R s m args below meth c H locs cells slots Q (F0 m pc ls0 []) := by
  have key : ∀ (n i : Nat) (H : Heap) (locs : List Loc) (ls : Array Slot), i ≤ N → N - i < n → I i H locs ls → W p l e R s m args below meth c H locs (cells + i * dc) (slots + i * ds) Q (F0 m pc ls []) := by
    intro n
    induction n with
    | zero => intro i _ _ _ _ h; exact absurd h (Nat.not_lt_zero _)
    | succ n ih =>
      intro i H locs ls hi hn hI
      rcases Nat.lt_or_ge i N with h | h
      · exact hstep i H locs ls h hI fun H' locs' ls' hI' => ih (i + 1) H' locs' ls' (by omega) (by omega) hI'
      · have hN : i = N := by omega
        subst hN
        exact hexit H locs ls hI
  have h9 := key (N - 0 + 1) 0 H locs ls0 (Nat.zero_le _) (by omega) h0
  rw [Nat.zero_mul, Nat.zero_mul] at h9
  exact h9
theorem W.cs9 {cells' slots' : Nat} {g : JFrame} (e1 : cells = cells') (e2 : slots = slots') (k : W p l e R s m args below meth c H locs cells' slots' Q g) : W p l e R s m args below meth c H locs cells slots Q g := by subst e1; subst e2; exact k
end FWP
/-- the places of the 37 cells: the object's own at h, the others from sz on -/
def adO (i : Nat) : Nat := if i = 1 then 0 else if i = 2 then 1 else if i = 3 then 6 else if i < 12 then 10 + 2 * (i - 4) else if i = 12 then 2 else if i < 21 then 11 + 2 * (i - 13) else if i = 21 then 3 else if i < 27 then 26 + 2 * (i - 22) else if i = 27 then 4 else if i < 33 then 27 + 2 * (i - 28) else if i = 33 then 5 else if i = 34 then 7 else if i = 35 then 8 else 9
def adI (h sz i : Nat) : Nat := if i = 0 then h else sz + adO i
theorem adO_inj : ∀ i : Fin 37, ∀ j : Fin 37, 0 < i.1 → 0 < j.1 → adO i.1 = adO j.1 → i.1 = j.1 := by decide +kernel
theorem adI_inj {h sz : Nat} (hlt : h < sz) : PLD (adI h sz) := by
  intro i j hi hj e
  unfold adI at e
  by_cases h1 : i = 0
  · by_cases h2 : j = 0
    · omega
    · rw [if_pos h1, if_neg h2] at e; omega
  · by_cases h2 : j = 0
    · rw [if_neg h1, if_pos h2] at e; omega
    · rw [if_neg h1, if_neg h2] at e
      exact adO_inj ⟨i, hi⟩ ⟨j, hj⟩ (by show 0 < i; omega) (by show 0 < j; omega) (by show adO i = adO j; omega)
theorem ad_g (h sz : Nat) {k : Nat} (hk : k < 8) : adI h sz (4 + k) = sz + 10 + 2 * k := by
  unfold adI adO
  rw [if_neg (by omega), if_neg (by omega), if_neg (by omega), if_neg (by omega), if_pos (by omega)]; omega
theorem ad_ga (h sz : Nat) {k : Nat} (hk : k < 8) : adI h sz (13 + k) = sz + 11 + 2 * k := by
  unfold adI adO
  rw [if_neg (by omega), if_neg (by omega), if_neg (by omega), if_neg (by omega), if_neg (by omega), if_neg (by omega), if_pos (by omega)]; omega
theorem ad_f (h sz : Nat) {k : Nat} (hk : k < 5) : adI h sz (22 + k) = sz + 26 + 2 * k := by
  unfold adI adO
  rw [if_neg (by omega), if_neg (by omega), if_neg (by omega), if_neg (by omega), if_neg (by omega), if_neg (by omega), if_neg (by omega), if_neg (by omega), if_pos (by omega)]; omega
theorem ad_fa (h sz : Nat) {k : Nat} (hk : k < 5) : adI h sz (28 + k) = sz + 27 + 2 * k := by
  unfold adI adO
  rw [if_neg (by omega), if_neg (by omega), if_neg (by omega), if_neg (by omega), if_neg (by omega), if_neg (by omega), if_neg (by omega), if_neg (by omega), if_neg (by omega), if_neg (by omega), if_pos (by omega)]; omega
/-- beyond its length a row of references holds nothing -/
theorem pAt.outR {D : va_G} {H : Heap} {a : Nat} {cA : ClassId} {n : Nat} {f g : Nat → Option Nat} (h : pAt D H a (eR cA n f)) (e : ∀ k, k < n → f k = g k) : pAt D H a (eR cA n g) := by
  have h1 : H[a]? = some (vp_cell cA _) := h
  show H[a]? = some (vp_cell cA _)
  rw [h1, vp_cell_q, vp_cell_q]
  have h2 : (fun j : Fin n => va_rf (f j.val)) = fun j : Fin n => va_rf (g j.val) := funext fun j => by rw [e j.val j.isLt]
  show some ({ cls := cA, slots := Array.ofFn (n := n) fun j => va_rf (f j.val), vm := .none } : Cell) = some { cls := cA, slots := Array.ofFn (n := n) fun j => va_rf (g j.val), vm := .none }
  rw [h2]
def plI1 (D : va_G) (T : Nat → ClassId) (A : Nat → Prop) (H0 : Heap) (h sz i : Nat) (H : Heap) (locs : List Loc) (ls : Array Slot) : Prop := va_S A H0 H locs ∧ lv_has ls 2 [(1, .int (nI i)), (0, .ref h)] ∧ H.size = sz + 10 + 2 * i ∧ pAt D H sz (eR (T 2) 8 (fun k => if k < i then some (sz + 10 + 2 * k) else none)) ∧ pAt D H h (eO 3 [.ref sz, .ref (sz + 1), .ref (sz + 2), .ref (sz + 4), .ref (sz + 6), .ref (sz + 9)]) ∧ pAt D H (sz + 1) (eR (T 3) 5 (fun _ => none)) ∧ pAt D H (sz + 2) (eO 0 [.ref (sz + 3)]) ∧ pAt D H (sz + 3) (eN (T 0) 201 (fun _ => nI 0)) ∧ pAt D H (sz + 4) (eO 2 [.ref (sz + 5)]) ∧ pAt D H (sz + 5) (eN (T 1) 201 (fun _ => nI 0)) ∧ pAt D H (sz + 6) (eO 1 [.ref (sz + 7), .ref (sz + 8), .int (nI 0)]) ∧ pAt D H (sz + 7) (eN (T 1) 201 (fun _ => nI 0)) ∧ pAt D H (sz + 8) (eN (T 1) 201 (fun _ => nI 0)) ∧ pAt D H (sz + 9) (eN (T 1) 201 (fun _ => nI 0)) ∧ (∀ k : Nat, k < i → pAt D H (sz + 10 + 2 * k) (eO 0 [.ref (sz + 11 + 2 * k)])) ∧ (∀ k : Nat, k < i → pAt D H (sz + 11 + 2 * k) (eN (T 0) 201 (fun _ => nI 0)))
set_option maxHeartbeats 4000000 in
set_option maxRecDepth 100000 in
theorem plI1_turn {p : Program} {l : Launch} {e : Env} {R : Room} {s : State} {m : MethodId} {args : Array Value} {below : List Frame} {meth : Method} {c : Code} {H H0 : Heap} {locs : List Loc} {cells slots : Nat} {Q : State → Prop} {ls : Array Slot} {D : va_G} {T : Nat → ClassId} {A : Nat → Prop} {h sz i : Nat} (hx : p.tables.exec = Jvm.exec) (hb : c.code = cX3_init) (hml : c.maxLocals = 2) (hown : s.vm.findClass RX3 = some m.cls) (hts : ∀ w ∈ wsX3_init, w.before args s = true) (hK : KB D T s) (hA : ∀ q : Nat, sz ≤ q → A q) (hlt : h < sz) (hc : cells + 2 ≤ R.cells) (hs : slots + 202 ≤ R.slots) (hfr : 2 ≤ R.frames) (hlo : 32 ≤ R.locals) (hi : i < 8) (hI : plI1 D T A H0 h sz i H locs ls)
    (again : ∀ (H1 : Heap) (locs1 : List Loc) (ls1 : Array Slot), plI1 D T A H0 h sz (i + 1) H1 locs1 ls1 → W p l e R s m args below meth c H1 locs1 (cells + 2) (slots + 202) Q (F0 m 65 ls1 [])) : W p l e R s m args below meth c H locs cells slots Q (F0 m 65 ls []) := by
    have hin0 : ∀ w ∈ wsX00, w ∈ wsX3_init := by decide +kernel
    have hin3 : ∀ w ∈ wsX30, w ∈ wsX3_init := by decide +kernel
    obtain ⟨hS, hl, hz, k0, hh, k1, go, ga, fo, fa, ro, ra, rb, kc, no, na⟩ := hI
    refine lv_iload_n hx hb dX3_init_65 rfl (lv_at hl 0 rfl) ?_
    refine lv_aload_n hx hb dX3_init_66 rfl (lv_at hl 1 rfl) ?_
    refine q_get (v := .ref sz) hx hb hts hin3 hown hK hh rfl 0 (by decide) (hts (.fieldLink RX3 11 "PuddingstoneLine" "sets" "[LPuddingstoneLine$GrainSet;") (by decide +kernel)) (fun _ h9 => h9) rfl dX3_init_67 ?_
    refine q_len hx hb hK 2 rfl k0 dX3_init_70 ?_
    refine lv_icmp_ge (tgt := 93) hx hb dX3_init_71 (by decide) (fun c9 => absurd ((nc_le (by decide) (by omega)).mp c9) (by omega)) (fun c9 => ?_)
    refine lv_aload_n hx hb dX3_init_74 rfl (lv_at hl 1 rfl) ?_
    refine q_get (v := .ref sz) hx hb hts hin3 hown hK hh rfl 0 (by decide) (hts (.fieldLink RX3 11 "PuddingstoneLine" "sets" "[LPuddingstoneLine$GrainSet;") (by decide +kernel)) (fun _ h9 => h9) rfl dX3_init_75 ?_
    refine lv_iload_n hx hb dX3_init_78 rfl (lv_at hl 0 rfl) ?_
    refine q_new (ci := 0) (fs := [.null]) hx hb hts hin0 tyX0 tyX0_ok hown (hts (.classLink RX3 9 RX0) (by decide +kernel)) (hts (.instantiable RX0 1) (by decide +kernel)) (hts (.initialized RX0) (by decide +kernel)) hK rfl (fun j hj => by rcases j with _ | j; rfl; omega) (by omega) (by omega) hS dX3_init_79 (fun H1 ho z1 o1 hS => ?_)
    have k0 := k0.old o1
    have hh := hh.old o1
    have k1 := k1.old o1
    have go := go.old o1
    have ga := ga.old o1
    have fo := fo.old o1
    have fa := fa.old o1
    have ro := ro.old o1
    have ra := ra.old o1
    have rb := rb.old o1
    have kc := kc.old o1
    have no := fun k hk => (no k hk).old o1
    have na := fun k hk => (na k hk).old o1
    rw [hz] at ho z1 ⊢
    refine lv_dup hx hb dX3_init_82 rfl ?_
    refine va_callv (va_runIN (As := []) (rest := .ref (sz + 10 + 2 * i) :: [.int (nI i), .ref sz]) ⟨hx, hb, hml, hown, hts⟩ (conX0_init l D T (sz + 10 + 2 * i) (sz + 10 + 2 * i + 1)) ⟨va_cnB 0 hts gX3_init_X0_init_n21 rfl rfl rfl hK.2.2.2.2.1 (hts (.initialized RX0) (by decide +kernel)) (by decide +kernel) ⟨hfr, hlo⟩, rfl, hts (.instanceMethod yX0_init) (by decide +kernel)⟩ (preS hK ⟨z1, ho⟩) rfl rfl hl.1 rfl (lv_room (Nat.le_of_ble_eq_true rfl)) dX3_init_83 ⟨by omega, by omega⟩) hS (fun q _ h9 => hA q (by rcases h9 with h9 | h9 <;> omega)) (fun q h9 => hA q (by rcases h9 with h9 | h9 <;> omega)) (fun u t H2 locs2 ht hvm hw9 hB hz2 hk2 hS => ?_)
    try dsimp only at hB
    rw [ht] at hB
    obtain ⟨hz3, wo, wa, -⟩ := hB
    have k0 := k0.keptC z1 hk2 (by omega)
    have hh := hh.keptC z1 hk2 (by omega)
    have k1 := k1.keptC z1 hk2 (by omega)
    have go := go.keptC z1 hk2 (by omega)
    have ga := ga.keptC z1 hk2 (by omega)
    have fo := fo.keptC z1 hk2 (by omega)
    have fa := fa.keptC z1 hk2 (by omega)
    have ro := ro.keptC z1 hk2 (by omega)
    have ra := ra.keptC z1 hk2 (by omega)
    have rb := rb.keptC z1 hk2 (by omega)
    have kc := kc.keptC z1 hk2 (by omega)
    have no := fun k hk => (no k hk).keptC z1 hk2 (by omega)
    have na := fun k hk => (na k hk).keptC z1 hk2 (by omega)
    refine q_aast hx hb hK 2 0 rfl rfl k0 wo i rfl hi (by decide) hS (hA _ (by omega)) dX3_init_86 (fun H3 locs3 k0 z3 o3 hS => ?_)
    have hh := hh.ne o3 (by omega)
    have k1 := k1.ne o3 (by omega)
    have go := go.ne o3 (by omega)
    have ga := ga.ne o3 (by omega)
    have fo := fo.ne o3 (by omega)
    have fa := fa.ne o3 (by omega)
    have ro := ro.ne o3 (by omega)
    have ra := ra.ne o3 (by omega)
    have rb := rb.ne o3 (by omega)
    have kc := kc.ne o3 (by omega)
    have wo := wo.ne o3 (by omega)
    have wa := wa.ne o3 (by omega)
    have no := fun k hk => (no k hk).ne o3 (by omega)
    have na := fun k hk => (na k hk).ne o3 (by omega)
    refine lv_iinc (v := nI (i + 1)) (lv' := [(1, .int (nI (i + 1))), (0, .ref h)]) hx hb dX3_init_87 hl (k := 0) rfl (inc_1 _) (by decide) rfl (fun ls hl => ?_)
    refine lv_goto (tgt := 65) hx hb dX3_init_90 (by decide) ?_
    refine W.cs9 (by omega) (by omega) (again _ _ _ ⟨hS, hl, by omega, ?_, hh, k1, go, ga, fo, fa, ro, ra, rb, kc, ?_, ?_⟩)
    · have e9 : (fun k => if k = i then some (sz + 10 + 2 * i) else if k < i then some (sz + 10 + 2 * k) else none) = (fun k => if k < i + 1 then some (sz + 10 + 2 * k) else none) := by
        funext k
        by_cases h1 : k = i
        · subst h1; simp
        · by_cases h2 : k < i
          · rw [if_neg h1, if_pos h2, if_pos (by omega)]
          · rw [if_neg h1, if_neg h2, if_neg (by omega)]
      exact e9 ▸ k0
    · intro k hk
      by_cases h1 : k = i
      · subst h1; rw [show sz + 11 + 2 * k = sz + 10 + 2 * k + 1 by omega]; exact wo
      · exact no k (by omega)
    · intro k hk
      by_cases h1 : k = i
      · subst h1; rw [show sz + 11 + 2 * k = sz + 10 + 2 * k + 1 by omega]; exact wa
      · exact na k (by omega)
def plI2 (D : va_G) (T : Nat → ClassId) (A : Nat → Prop) (H0 : Heap) (h sz i : Nat) (H : Heap) (locs : List Loc) (ls : Array Slot) : Prop := va_S A H0 H locs ∧ lv_has ls 2 [(1, .int (nI i)), (0, .ref h)] ∧ H.size = sz + 26 + 2 * i ∧ pAt D H (sz + 1) (eR (T 3) 5 (fun k => if k < i then some (sz + 26 + 2 * k) else none)) ∧ pAt D H h (eO 3 [.ref sz, .ref (sz + 1), .ref (sz + 2), .ref (sz + 4), .ref (sz + 6), .ref (sz + 9)]) ∧ pAt D H sz (eR (T 2) 8 (fun k => if k < 8 then some (sz + 10 + 2 * k) else none)) ∧ pAt D H (sz + 2) (eO 0 [.ref (sz + 3)]) ∧ pAt D H (sz + 3) (eN (T 0) 201 (fun _ => nI 0)) ∧ pAt D H (sz + 4) (eO 2 [.ref (sz + 5)]) ∧ pAt D H (sz + 5) (eN (T 1) 201 (fun _ => nI 0)) ∧ pAt D H (sz + 6) (eO 1 [.ref (sz + 7), .ref (sz + 8), .int (nI 0)]) ∧ pAt D H (sz + 7) (eN (T 1) 201 (fun _ => nI 0)) ∧ pAt D H (sz + 8) (eN (T 1) 201 (fun _ => nI 0)) ∧ pAt D H (sz + 9) (eN (T 1) 201 (fun _ => nI 0)) ∧ (∀ k : Nat, k < i → pAt D H (sz + 26 + 2 * k) (eO 2 [.ref (sz + 27 + 2 * k)])) ∧ (∀ k : Nat, k < i → pAt D H (sz + 27 + 2 * k) (eN (T 1) 201 (fun _ => nI 0))) ∧ (∀ k : Nat, k < 8 → pAt D H (sz + 10 + 2 * k) (eO 0 [.ref (sz + 11 + 2 * k)])) ∧ (∀ k : Nat, k < 8 → pAt D H (sz + 11 + 2 * k) (eN (T 0) 201 (fun _ => nI 0)))
set_option maxHeartbeats 4000000 in
set_option maxRecDepth 100000 in
theorem plI2_turn {p : Program} {l : Launch} {e : Env} {R : Room} {s : State} {m : MethodId} {args : Array Value} {below : List Frame} {meth : Method} {c : Code} {H H0 : Heap} {locs : List Loc} {cells slots : Nat} {Q : State → Prop} {ls : Array Slot} {D : va_G} {T : Nat → ClassId} {A : Nat → Prop} {h sz i : Nat} (hx : p.tables.exec = Jvm.exec) (hb : c.code = cX3_init) (hml : c.maxLocals = 2) (hown : s.vm.findClass RX3 = some m.cls) (hts : ∀ w ∈ wsX3_init, w.before args s = true) (hK : KB D T s) (hA : ∀ q : Nat, sz ≤ q → A q) (hlt : h < sz) (hc : cells + 2 ≤ R.cells) (hs : slots + 202 ≤ R.slots) (hfr : 2 ≤ R.frames) (hlo : 32 ≤ R.locals) (hi : i < 5) (hI : plI2 D T A H0 h sz i H locs ls)
    (again : ∀ (H1 : Heap) (locs1 : List Loc) (ls1 : Array Slot), plI2 D T A H0 h sz (i + 1) H1 locs1 ls1 → W p l e R s m args below meth c H1 locs1 (cells + 2) (slots + 202) Q (F0 m 95 ls1 [])) : W p l e R s m args below meth c H locs cells slots Q (F0 m 95 ls []) := by
    have hin2 : ∀ w ∈ wsX20, w ∈ wsX3_init := by decide +kernel
    have hin3 : ∀ w ∈ wsX30, w ∈ wsX3_init := by decide +kernel
    obtain ⟨hS, hl, hz, k1, hh, k0, go, ga, fo, fa, ro, ra, rb, kc, no, na, qo, qa⟩ := hI
    refine lv_iload_n hx hb dX3_init_95 rfl (lv_at hl 0 rfl) ?_
    refine lv_aload_n hx hb dX3_init_96 rfl (lv_at hl 1 rfl) ?_
    refine q_get (v := .ref (sz + 1)) hx hb hts hin3 hown hK hh rfl 1 (by decide) (hts (.fieldLink RX3 17 "PuddingstoneLine" "functions" "[LPuddingstoneLine$StepFunction;") (by decide +kernel)) (fun _ h9 => h9) rfl dX3_init_97 ?_
    refine q_len hx hb hK 3 rfl k1 dX3_init_100 ?_
    refine lv_icmp_ge (tgt := 123) hx hb dX3_init_101 (by decide) (fun c9 => absurd ((nc_le (by decide) (by omega)).mp c9) (by omega)) (fun c9 => ?_)
    refine lv_aload_n hx hb dX3_init_104 rfl (lv_at hl 1 rfl) ?_
    refine q_get (v := .ref (sz + 1)) hx hb hts hin3 hown hK hh rfl 1 (by decide) (hts (.fieldLink RX3 17 "PuddingstoneLine" "functions" "[LPuddingstoneLine$StepFunction;") (by decide +kernel)) (fun _ h9 => h9) rfl dX3_init_105 ?_
    refine lv_iload_n hx hb dX3_init_108 rfl (lv_at hl 0 rfl) ?_
    refine q_new (ci := 2) (fs := [.null]) hx hb hts hin2 tyX2 tyX2_ok hown (hts (.classLink RX3 15 RX2) (by decide +kernel)) (hts (.instantiable RX2 1) (by decide +kernel)) (hts (.initialized RX2) (by decide +kernel)) hK rfl (fun j hj => by rcases j with _ | j; rfl; omega) (by omega) (by omega) hS dX3_init_109 (fun H1 ho z1 o1 hS => ?_)
    have k1 := k1.old o1
    have hh := hh.old o1
    have k0 := k0.old o1
    have go := go.old o1
    have ga := ga.old o1
    have fo := fo.old o1
    have fa := fa.old o1
    have ro := ro.old o1
    have ra := ra.old o1
    have rb := rb.old o1
    have kc := kc.old o1
    have no := fun k hk => (no k hk).old o1
    have na := fun k hk => (na k hk).old o1
    have qo := fun k hk => (qo k hk).old o1
    have qa := fun k hk => (qa k hk).old o1
    rw [hz] at ho z1 ⊢
    refine lv_dup hx hb dX3_init_112 rfl ?_
    refine va_callv (va_runIN (As := []) (rest := .ref (sz + 26 + 2 * i) :: [.int (nI i), .ref (sz + 1)]) ⟨hx, hb, hml, hown, hts⟩ (conX2_init l D T (sz + 26 + 2 * i) (sz + 26 + 2 * i + 1)) ⟨va_cnB 0 hts gX3_init_X2_init_n26 rfl rfl rfl hK.2.2.2.2.2.1 (hts (.initialized RX2) (by decide +kernel)) (by decide +kernel) ⟨hfr, hlo⟩, rfl, hts (.instanceMethod yX2_init) (by decide +kernel)⟩ (preS hK ⟨z1, ho⟩) rfl rfl hl.1 rfl (lv_room (Nat.le_of_ble_eq_true rfl)) dX3_init_113 ⟨by omega, by omega⟩) hS (fun q _ h9 => hA q (by rcases h9 with h9 | h9 <;> omega)) (fun q h9 => hA q (by rcases h9 with h9 | h9 <;> omega)) (fun u t H2 locs2 ht hvm hw9 hB hz2 hk2 hS => ?_)
    try dsimp only at hB
    rw [ht] at hB
    obtain ⟨hz3, wo, wa, -⟩ := hB
    have k1 := k1.keptC z1 hk2 (by omega)
    have hh := hh.keptC z1 hk2 (by omega)
    have k0 := k0.keptC z1 hk2 (by omega)
    have go := go.keptC z1 hk2 (by omega)
    have ga := ga.keptC z1 hk2 (by omega)
    have fo := fo.keptC z1 hk2 (by omega)
    have fa := fa.keptC z1 hk2 (by omega)
    have ro := ro.keptC z1 hk2 (by omega)
    have ra := ra.keptC z1 hk2 (by omega)
    have rb := rb.keptC z1 hk2 (by omega)
    have kc := kc.keptC z1 hk2 (by omega)
    have no := fun k hk => (no k hk).keptC z1 hk2 (by omega)
    have na := fun k hk => (na k hk).keptC z1 hk2 (by omega)
    have qo := fun k hk => (qo k hk).keptC z1 hk2 (by omega)
    have qa := fun k hk => (qa k hk).keptC z1 hk2 (by omega)
    refine q_aast hx hb hK 3 2 rfl rfl k1 wo i rfl hi (by decide) hS (hA _ (by omega)) dX3_init_116 (fun H3 locs3 k1 z3 o3 hS => ?_)
    have hh := hh.ne o3 (by omega)
    have k0 := k0.ne o3 (by omega)
    have go := go.ne o3 (by omega)
    have ga := ga.ne o3 (by omega)
    have fo := fo.ne o3 (by omega)
    have fa := fa.ne o3 (by omega)
    have ro := ro.ne o3 (by omega)
    have ra := ra.ne o3 (by omega)
    have rb := rb.ne o3 (by omega)
    have kc := kc.ne o3 (by omega)
    have wo := wo.ne o3 (by omega)
    have wa := wa.ne o3 (by omega)
    have no := fun k hk => (no k hk).ne o3 (by omega)
    have na := fun k hk => (na k hk).ne o3 (by omega)
    have qo := fun k hk => (qo k hk).ne o3 (by omega)
    have qa := fun k hk => (qa k hk).ne o3 (by omega)
    refine lv_iinc (v := nI (i + 1)) (lv' := [(1, .int (nI (i + 1))), (0, .ref h)]) hx hb dX3_init_117 hl (k := 0) rfl (inc_1 _) (by decide) rfl (fun ls hl => ?_)
    refine lv_goto (tgt := 95) hx hb dX3_init_120 (by decide) ?_
    refine W.cs9 (by omega) (by omega) (again _ _ _ ⟨hS, hl, by omega, ?_, hh, k0, go, ga, fo, fa, ro, ra, rb, kc, ?_, ?_, qo, qa⟩)
    · have e9 : (fun k => if k = i then some (sz + 26 + 2 * i) else if k < i then some (sz + 26 + 2 * k) else none) = (fun k => if k < i + 1 then some (sz + 26 + 2 * k) else none) := by
        funext k
        by_cases h1 : k = i
        · subst h1; simp
        · by_cases h2 : k < i
          · rw [if_neg h1, if_pos h2, if_pos (by omega)]
          · rw [if_neg h1, if_neg h2, if_neg (by omega)]
      exact e9 ▸ k1
    · intro k hk
      by_cases h1 : k = i
      · subst h1; rw [show sz + 27 + 2 * k = sz + 26 + 2 * k + 1 by omega]; exact wo
      · exact no k (by omega)
    · intro k hk
      by_cases h1 : k = i
      · subst h1; rw [show sz + 27 + 2 * k = sz + 26 + 2 * k + 1 by omega]; exact wa
      · exact na k (by omega)
set_option maxRecDepth 100000 in
theorem plI2_end {D : va_G} {T : Nat → ClassId} {A : Nat → Prop} {H0 H : Heap} {h sz : Nat} {locs : List Loc} {ls : Array Slot} (hlt : h < sz) (hI : plI2 D T A H0 h sz 5 H locs ls) : PLW D T (adI h sz) (fun _ _ => nI 0) (fun _ _ => nI 0) (fun _ => nI 0, fun _ => nI 0, 0) (fun _ => nI 0) H := by
    refine ⟨adI_inj hlt, ?_⟩
    obtain ⟨hS, hl, hz, k1, hh, k0, go, ga, fo, fa, ro, ra, rb, kc, no, na, qo, qa⟩ := hI
    intro i hi
    by_cases h1 : i < 4
    · rcases i with _ | _ | _ | _ | i
      · exact hh
      · exact k0.outR (fun k hk => by rw [if_pos hk]; exact (congrArg some (ad_g h sz hk)).symm)
      · exact k1.outR (fun k hk => by rw [if_pos hk]; exact (congrArg some (ad_f h sz hk)).symm)
      · exact ro
      · omega
    by_cases h2 : i < 12
    · obtain ⟨k, rfl⟩ : ∃ k, i = 4 + k := ⟨i - 4, by omega⟩
      rw [plE_4 (by omega), ad_g h sz (by omega), ad_ga h sz (by omega)]
      exact qo k (by omega)
    by_cases h3 : i = 12
    · subst h3; exact go
    by_cases h4 : i < 21
    · obtain ⟨k, rfl⟩ : ∃ k, i = 13 + k := ⟨i - 13, by omega⟩
      rw [plE_13 (by omega), ad_ga h sz (by omega)]
      exact qa k (by omega)
    by_cases h5 : i = 21
    · subst h5; exact ga
    by_cases h6 : i < 27
    · obtain ⟨k, rfl⟩ : ∃ k, i = 22 + k := ⟨i - 22, by omega⟩
      rw [plE_22 (by omega), ad_f h sz (by omega), ad_fa h sz (by omega)]
      exact no k (by omega)
    by_cases h7 : i = 27
    · subst h7; exact fo
    by_cases h8 : i < 33
    · obtain ⟨k, rfl⟩ : ∃ k, i = 28 + k := ⟨i - 28, by omega⟩
      rw [plE_28 (by omega), ad_fa h sz (by omega)]
      exact na k (by omega)
    by_cases h9 : i = 33
    · subst h9; exact fa
    by_cases h10 : i = 34
    · subst h10; exact ra
    by_cases h11 : i = 35
    · subst h11; exact rb
    obtain rfl : i = 36 := by omega
    exact kc
set_option maxHeartbeats 4000000 in
set_option maxRecDepth 100000 in
theorem conX3_init (l : Launch) (D : va_G) (T : Nat → ClassId) (h sz : Nat) : Met l yX3_init wsX3_init ({ frames := 2, cells := 36, slots := 3649, locals := 32 }) (cP D T [.ref h] (fun H => H.size = sz ∧ pAt D H h (eO 3 [.null, .null, .null, .null, .null, .null]))) (va_Qv (fun (_ : Unit) => True) (fun _ t => t.heap.size = sz + 36 ∧ PLW D T (adI h sz) (fun _ _ => nI 0) (fun _ _ => nI 0) (fun _ => nI 0, fun _ => nI 0, 0) (fun _ => nI 0) t.heap) (NA h sz)) 36 3649 (NA h sz) := by
  refine Met.ofW (cc := cX3_init) (maxL := 2) (ret := none) (by decide) rfl ?_
  intro p e s m args below meth c s₁ B hml hv9
  obtain ⟨rfl, hK, hsz, hh⟩ := hv9
  have hx := B.exec
  have hb := B.bytes
  have hr := B.returns
  have hts := atoms_spec (ws := wsX3_init) B.pre
  have hown : s.vm.findClass RX3 = some m.cls := findClass_of_methodNamed B.named
  have hlocks := B.notSynchronized
  have hin : meth.name = "<init>" := (name_of_methodNamed B.named B.method).1
  have hin0 : ∀ w ∈ wsX00, w ∈ wsX3_init := by decide +kernel
  have hin1 : ∀ w ∈ wsX10, w ∈ wsX3_init := by decide +kernel
  have hin2 : ∀ w ∈ wsX20, w ∈ wsX3_init := by decide +kernel
  have hin3 : ∀ w ∈ wsX30, w ∈ wsX3_init := by decide +kernel
  have hlt : h < sz := hsz ▸ hh.lt
  generalize hAe : NA h sz = A
  have hA_h : A h := by subst hAe; exact Or.inl rfl
  have hA : ∀ q : Nat, sz ≤ q → A q := fun q h9 => by subst hAe; exact Or.inr h9
  have hS : va_S A s.heap s.heap [] := va_S.rf
  have hl := lv_entry ([.ref h]) (n := 2) (Nat.le_of_ble_eq_true rfl)
  rw [lg_entry_eq]
  generalize (lg_sl ([.ref h]) ++ List.replicate (2 - (lg_sl ([.ref h])).length) Slot.unset).toArray = ls at hl ⊢
  have hl : lv_has ls 2 [(0, .ref h)] := hl
  refine lv_aload_n hx hb dX3_init_0 rfl (lv_at hl 0 rfl) ?_
  refine W.objInit hx hb hown (hts (.methodLink RX3 3 objectInit) (by decide +kernel)) (hts (.instanceMethod objectInit) (by decide +kernel)) (hts (.code objectInit ⟨#[0xb1]⟩ 1 none) (by decide +kernel)) rfl (by rw [hml]; exact hl.1) rfl dX3_init_1 (Nat.le_of_ble_eq_true rfl) (Nat.le_of_ble_eq_true rfl) ?_
  refine W.eq (g2 := F0 m 4 ls []) rfl ?_
  have hz : s.heap.size = sz := hsz

  refine lv_aload_n hx hb dX3_init_4 rfl (lv_at hl 0 rfl) ?_
  refine lv_bipush (v := nI 8) hx hb dX3_init_5 (by decide) ?_
  refine q_newq hx hb hown (hts (.classLink RX3 9 RX0) (by decide +kernel)) hK.2.1.1 hK 2 rfl 8 rfl (by decide) (Nat.le_of_ble_eq_true rfl) (Nat.le_of_ble_eq_true rfl) hS dX3_init_7 (fun H1 k0 z1 o1 hS => ?_)
  have hh := hh.old o1
  rw [hz] at k0 z1 ⊢
  have hz := z1
  refine q_putF (v := .ref sz) hx hb hts hin3 tyX3 tyX3_ok nmX3 hown hK hh rfl 0 (by decide) (hts (.fieldLink RX3 11 "PuddingstoneLine" "sets" "[LPuddingstoneLine$GrainSet;") (by decide +kernel)) (fun _ h9 => h9) rfl hin rfl rfl rfl (Nat.le_of_ble_eq_true rfl) hS hA_h dX3_init_10 (fun H2 locs2 hh z2 o2 hS => ?_)
  have k0 := k0.ne o2 (by omega)
  have hh : pAt D H2 h (eO 3 [.ref sz, .null, .null, .null, .null, .null]) := hh
  have hz := z2.trans hz
  refine lv_aload_n hx hb dX3_init_13 rfl (lv_at hl 0 rfl) ?_
  refine lv_iconst (v := nI 5) hx hb dX3_init_14 (by decide) ?_
  refine q_newq hx hb hown (hts (.classLink RX3 15 RX2) (by decide +kernel)) hK.2.1.2.1 hK 3 rfl 5 rfl (by decide) (Nat.le_of_ble_eq_true rfl) (Nat.le_of_ble_eq_true rfl) hS dX3_init_15 (fun H1 k1 z1 o1 hS => ?_)
  have hh := hh.old o1
  have k0 := k0.old o1
  rw [hz] at k1 z1 ⊢
  have hz := z1
  refine q_putF (v := .ref (sz + 1)) hx hb hts hin3 tyX3 tyX3_ok nmX3 hown hK hh rfl 1 (by decide) (hts (.fieldLink RX3 17 "PuddingstoneLine" "functions" "[LPuddingstoneLine$StepFunction;") (by decide +kernel)) (fun _ h9 => h9) rfl hin rfl rfl rfl (Nat.le_of_ble_eq_true rfl) hS hA_h dX3_init_18 (fun H2 locs2 hh z2 o2 hS => ?_)
  have k0 := k0.ne o2 (by omega)
  have k1 := k1.ne o2 (by omega)
  have hh : pAt D H2 h (eO 3 [.ref sz, .ref (sz + 1), .null, .null, .null, .null]) := hh
  have hz := z2.trans hz
  refine lv_aload_n hx hb dX3_init_21 rfl (lv_at hl 0 rfl) ?_
  refine q_new (ci := 0) (fs := [.null]) hx hb hts hin0 tyX0 tyX0_ok hown (hts (.classLink RX3 9 RX0) (by decide +kernel)) (hts (.instantiable RX0 1) (by decide +kernel)) (hts (.initialized RX0) (by decide +kernel)) hK rfl (fun j hj => by rcases j with _ | j; rfl; omega) (Nat.le_of_ble_eq_true rfl) (Nat.le_of_ble_eq_true rfl) hS dX3_init_22 (fun H1 ho z1 o1 hS => ?_)
  have hh := hh.old o1
  have k0 := k0.old o1
  have k1 := k1.old o1
  rw [hz] at ho z1 ⊢
  refine lv_dup hx hb dX3_init_25 rfl ?_
  refine va_callv (va_runIN (As := []) (rest := .ref (sz + 2) :: [.ref h]) ⟨hx, hb, hml, hown, hts⟩ (conX0_init l D T (sz + 2) (sz + 3)) ⟨va_cnB 0 hts gX3_init_X0_init_n21 rfl rfl rfl hK.2.2.2.2.1 (hts (.initialized RX0) (by decide +kernel)) (by decide +kernel) ⟨Nat.le_of_ble_eq_true rfl, Nat.le_of_ble_eq_true rfl⟩, rfl, hts (.instanceMethod yX0_init) (by decide +kernel)⟩ (preS hK ⟨z1, ho⟩) rfl rfl hl.1 rfl (lv_room (Nat.le_of_ble_eq_true rfl)) dX3_init_26 ⟨Nat.le_of_ble_eq_true rfl, Nat.le_of_ble_eq_true rfl⟩) hS (fun q _ h9 => hA q (by rcases h9 with h9 | h9 <;> omega)) (fun q h9 => hA q (by rcases h9 with h9 | h9 <;> omega)) (fun u t H2 locs2 ht hvm hw9 hB hz2 hk2 hS => ?_)
  try dsimp only at hB
  rw [ht] at hB
  obtain ⟨hz3, go, ga, -⟩ := hB
  have hh := hh.keptC z1 hk2 (by omega)
  have k0 := k0.keptC z1 hk2 (by omega)
  have k1 := k1.keptC z1 hk2 (by omega)
  have hz : H2.size = sz + 4 := hz3
  refine q_putF (v := .ref (sz + 2)) hx hb hts hin3 tyX3 tyX3_ok nmX3 hown hK hh rfl 2 (by decide) (hts (.fieldLink RX3 22 "PuddingstoneLine" "spareSet" "LPuddingstoneLine$GrainSet;") (by decide +kernel)) (fun _ h9 => h9) rfl hin rfl rfl rfl (Nat.le_of_ble_eq_true rfl) hS hA_h dX3_init_29 (fun H2 locs2 hh z2 o2 hS => ?_)
  have k0 := k0.ne o2 (by omega)
  have k1 := k1.ne o2 (by omega)
  have go := go.ne o2 (by omega)
  have ga := ga.ne o2 (by omega)
  have hh : pAt D H2 h (eO 3 [.ref sz, .ref (sz + 1), .ref (sz + 2), .null, .null, .null]) := hh
  have hz := z2.trans hz
  refine lv_aload_n hx hb dX3_init_32 rfl (lv_at hl 0 rfl) ?_
  refine q_new (ci := 2) (fs := [.null]) hx hb hts hin2 tyX2 tyX2_ok hown (hts (.classLink RX3 15 RX2) (by decide +kernel)) (hts (.instantiable RX2 1) (by decide +kernel)) (hts (.initialized RX2) (by decide +kernel)) hK rfl (fun j hj => by rcases j with _ | j; rfl; omega) (Nat.le_of_ble_eq_true rfl) (Nat.le_of_ble_eq_true rfl) hS dX3_init_33 (fun H1 ho z1 o1 hS => ?_)
  have hh := hh.old o1
  have k0 := k0.old o1
  have k1 := k1.old o1
  have go := go.old o1
  have ga := ga.old o1
  rw [hz] at ho z1 ⊢
  refine lv_dup hx hb dX3_init_36 rfl ?_
  refine va_callv (va_runIN (As := []) (rest := .ref (sz + 4) :: [.ref h]) ⟨hx, hb, hml, hown, hts⟩ (conX2_init l D T (sz + 4) (sz + 5)) ⟨va_cnB 0 hts gX3_init_X2_init_n26 rfl rfl rfl hK.2.2.2.2.2.1 (hts (.initialized RX2) (by decide +kernel)) (by decide +kernel) ⟨Nat.le_of_ble_eq_true rfl, Nat.le_of_ble_eq_true rfl⟩, rfl, hts (.instanceMethod yX2_init) (by decide +kernel)⟩ (preS hK ⟨z1, ho⟩) rfl rfl hl.1 rfl (lv_room (Nat.le_of_ble_eq_true rfl)) dX3_init_37 ⟨Nat.le_of_ble_eq_true rfl, Nat.le_of_ble_eq_true rfl⟩) hS (fun q _ h9 => hA q (by rcases h9 with h9 | h9 <;> omega)) (fun q h9 => hA q (by rcases h9 with h9 | h9 <;> omega)) (fun u t H2 locs2 ht hvm hw9 hB hz2 hk2 hS => ?_)
  try dsimp only at hB
  rw [ht] at hB
  obtain ⟨hz3, fo, fa, -⟩ := hB
  have hh := hh.keptC z1 hk2 (by omega)
  have k0 := k0.keptC z1 hk2 (by omega)
  have k1 := k1.keptC z1 hk2 (by omega)
  have go := go.keptC z1 hk2 (by omega)
  have ga := ga.keptC z1 hk2 (by omega)
  have hz : H2.size = sz + 6 := hz3
  refine q_putF (v := .ref (sz + 4)) hx hb hts hin3 tyX3 tyX3_ok nmX3 hown hK hh rfl 3 (by decide) (hts (.fieldLink RX3 27 "PuddingstoneLine" "spareFunction" "LPuddingstoneLine$StepFunction;") (by decide +kernel)) (fun _ h9 => h9) rfl hin rfl rfl rfl (Nat.le_of_ble_eq_true rfl) hS hA_h dX3_init_40 (fun H2 locs2 hh z2 o2 hS => ?_)
  have k0 := k0.ne o2 (by omega)
  have k1 := k1.ne o2 (by omega)
  have go := go.ne o2 (by omega)
  have ga := ga.ne o2 (by omega)
  have fo := fo.ne o2 (by omega)
  have fa := fa.ne o2 (by omega)
  have hh : pAt D H2 h (eO 3 [.ref sz, .ref (sz + 1), .ref (sz + 2), .ref (sz + 4), .null, .null]) := hh
  have hz := z2.trans hz
  refine lv_aload_n hx hb dX3_init_43 rfl (lv_at hl 0 rfl) ?_
  refine q_new (ci := 1) (fs := [.null, .null, .int (nI 0)]) hx hb hts hin1 tyX1 tyX1_ok hown (hts (.classLink RX3 31 RX1) (by decide +kernel)) (hts (.instantiable RX1 3) (by decide +kernel)) (hts (.initialized RX1) (by decide +kernel)) hK rfl (fun j hj => by rcases j with _ | _ | _ | j; rfl; rfl; rfl; omega) (Nat.le_of_ble_eq_true rfl) (Nat.le_of_ble_eq_true rfl) hS dX3_init_44 (fun H1 ho z1 o1 hS => ?_)
  have hh := hh.old o1
  have k0 := k0.old o1
  have k1 := k1.old o1
  have go := go.old o1
  have ga := ga.old o1
  have fo := fo.old o1
  have fa := fa.old o1
  rw [hz] at ho z1 ⊢
  refine lv_dup hx hb dX3_init_47 rfl ?_
  refine va_callv (va_runIN (As := []) (rest := .ref (sz + 6) :: [.ref h]) ⟨hx, hb, hml, hown, hts⟩ (conX1_init l D T (sz + 6) (sz + 7)) ⟨va_cnB 0 hts gX3_init_X1_init_n33 rfl rfl rfl hK.2.2.2.2.2.2.1 (hts (.initialized RX1) (by decide +kernel)) (by decide +kernel) ⟨Nat.le_of_ble_eq_true rfl, Nat.le_of_ble_eq_true rfl⟩, rfl, hts (.instanceMethod yX1_init) (by decide +kernel)⟩ (preS hK ⟨z1, ho⟩) rfl rfl hl.1 rfl (lv_room (Nat.le_of_ble_eq_true rfl)) dX3_init_48 ⟨Nat.le_of_ble_eq_true rfl, Nat.le_of_ble_eq_true rfl⟩) hS (fun q _ h9 => hA q (by rcases h9 with h9 | h9 <;> omega)) (fun q h9 => hA q (by rcases h9 with h9 | h9 <;> omega)) (fun u t H2 locs2 ht hvm hw9 hB hz2 hk2 hS => ?_)
  try dsimp only at hB
  rw [ht] at hB
  obtain ⟨hz3, ro, ra, rb⟩ := hB
  have hh := hh.keptC z1 hk2 (by omega)
  have k0 := k0.keptC z1 hk2 (by omega)
  have k1 := k1.keptC z1 hk2 (by omega)
  have go := go.keptC z1 hk2 (by omega)
  have ga := ga.keptC z1 hk2 (by omega)
  have fo := fo.keptC z1 hk2 (by omega)
  have fa := fa.keptC z1 hk2 (by omega)
  have hz : H2.size = sz + 9 := hz3
  refine q_putF (v := .ref (sz + 6)) hx hb hts hin3 tyX3 tyX3_ok nmX3 hown hK hh rfl 4 (by decide) (hts (.fieldLink RX3 34 "PuddingstoneLine" "spanRow" "LPuddingstoneLine$SpanRow;") (by decide +kernel)) (fun _ h9 => h9) rfl hin rfl rfl rfl (Nat.le_of_ble_eq_true rfl) hS hA_h dX3_init_51 (fun H2 locs2 hh z2 o2 hS => ?_)
  have k0 := k0.ne o2 (by omega)
  have k1 := k1.ne o2 (by omega)
  have go := go.ne o2 (by omega)
  have ga := ga.ne o2 (by omega)
  have fo := fo.ne o2 (by omega)
  have fa := fa.ne o2 (by omega)
  have ro := ro.ne o2 (by omega)
  have ra := ra.ne o2 (by omega)
  have rb := rb.ne o2 (by omega)
  have hh : pAt D H2 h (eO 3 [.ref sz, .ref (sz + 1), .ref (sz + 2), .ref (sz + 4), .ref (sz + 6), .null]) := hh
  have hz := z2.trans hz
  refine lv_aload_n hx hb dX3_init_54 rfl (lv_at hl 0 rfl) ?_
  refine lv_sipush (v := nI 201) hx hb dX3_init_55 (by decide) ?_
  refine q_newi hx hb (hts (.arrayClass .int) (by decide +kernel)) hK 201 rfl (by decide) (Nat.le_of_ble_eq_true rfl) (Nat.le_of_ble_eq_true rfl) hS dX3_init_58 (fun H1 kc z1 o1 hS => ?_)
  have hh := hh.old o1
  have k0 := k0.old o1
  have k1 := k1.old o1
  have go := go.old o1
  have ga := ga.old o1
  have fo := fo.old o1
  have fa := fa.old o1
  have ro := ro.old o1
  have ra := ra.old o1
  have rb := rb.old o1
  rw [hz] at kc z1 ⊢
  have hz := z1
  refine q_putF (v := .ref (sz + 9)) hx hb hts hin3 tyX3 tyX3_ok nmX3 hown hK hh rfl 5 (by decide) (hts (.fieldLink RX3 38 "PuddingstoneLine" "coverSets" "[I") (by decide +kernel)) (fun _ h9 => h9) rfl hin rfl rfl rfl (Nat.le_of_ble_eq_true rfl) hS hA_h dX3_init_60 (fun H2 locs2 hh z2 o2 hS => ?_)
  have k0 := k0.ne o2 (by omega)
  have k1 := k1.ne o2 (by omega)
  have go := go.ne o2 (by omega)
  have ga := ga.ne o2 (by omega)
  have fo := fo.ne o2 (by omega)
  have fa := fa.ne o2 (by omega)
  have ro := ro.ne o2 (by omega)
  have ra := ra.ne o2 (by omega)
  have rb := rb.ne o2 (by omega)
  have kc := kc.ne o2 (by omega)
  have hh : pAt D H2 h (eO 3 [.ref sz, .ref (sz + 1), .ref (sz + 2), .ref (sz + 4), .ref (sz + 6), .ref (sz + 9)]) := hh
  have hz := z2.trans hz
  refine lv_iconst (v := nI 0) hx hb dX3_init_63 (by decide) ?_
  refine lv_istore_n (lv' := [(1, .int (nI 0)), (0, .ref h)]) hx hb dX3_init_64 rfl hl (by decide) rfl (fun ls hl => ?_)
  have k0 : pAt D H2 sz (eR (T 2) 8 (fun k => if k < 0 then some (sz + 10 + 2 * k) else none)) := by simpa using k0
  refine q_forg (plI1 D T A s.heap h sz) 8 2 202 ⟨hS, hl, by rw [hz], k0, hh, k1, go, ga, fo, fa, ro, ra, rb, kc, fun k hk => absurd hk (Nat.not_lt_zero _), fun k hk => absurd hk (Nat.not_lt_zero _)⟩ (fun i H locs ls hi hI again => plI1_turn hx hb hml hown hts hK hA hlt (by dsimp only [headSpec]; omega) (by dsimp only [headSpec]; omega) (Nat.le_of_ble_eq_true rfl) (Nat.le_of_ble_eq_true rfl) hi hI (fun H1 locs1 ls1 h9 => W.cs9 (by omega) (by omega) (again H1 locs1 ls1 h9))) ?_
  intro H locs ls hI
  have hI9 := hI
  obtain ⟨hS, hl, hz, k0, hh, k1, go, ga, fo, fa, ro, ra, rb, kc, no, na⟩ := hI9
  refine lv_iload_n hx hb dX3_init_65 rfl (lv_at hl 0 rfl) ?_
  refine lv_aload_n hx hb dX3_init_66 rfl (lv_at hl 1 rfl) ?_
  refine q_get (v := .ref sz) hx hb hts hin3 hown hK hh rfl 0 (by decide) (hts (.fieldLink RX3 11 "PuddingstoneLine" "sets" "[LPuddingstoneLine$GrainSet;") (by decide +kernel)) (fun _ h9 => h9) rfl dX3_init_67 ?_
  refine q_len hx hb hK 2 rfl k0 dX3_init_70 ?_
  refine lv_icmp_ge (tgt := 93) hx hb dX3_init_71 (by decide) (fun c9 => ?_) (fun c9 => absurd (Int32.le_refl _) c9)
  have qo := no
  have qa := na
  refine lv_iconst (v := nI 0) hx hb dX3_init_93 (by decide) ?_
  refine lv_istore_n (lv' := [(1, .int (nI 0)), (0, .ref h)]) hx hb dX3_init_94 rfl hl (by decide) rfl (fun ls hl => ?_)
  have k1 : pAt D H (sz + 1) (eR (T 3) 5 (fun k => if k < 0 then some (sz + 26 + 2 * k) else none)) := by simpa using k1
  refine q_forg (plI2 D T A s.heap h sz) 5 2 202 ⟨hS, hl, by rw [hz], k1, hh, k0, go, ga, fo, fa, ro, ra, rb, kc, fun k hk => absurd hk (Nat.not_lt_zero _), fun k hk => absurd hk (Nat.not_lt_zero _), qo, qa⟩ (fun i H locs ls hi hI again => plI2_turn hx hb hml hown hts hK hA hlt (by dsimp only [headSpec]; omega) (by dsimp only [headSpec]; omega) (Nat.le_of_ble_eq_true rfl) (Nat.le_of_ble_eq_true rfl) hi hI (fun H1 locs1 ls1 h9 => W.cs9 (by omega) (by omega) (again H1 locs1 ls1 h9))) ?_
  intro H locs ls hI
  have hI9 := hI
  obtain ⟨hS, hl, hz, k1, hh, k0, go, ga, fo, fa, ro, ra, rb, kc, no, na, qo, qa⟩ := hI9
  refine lv_iload_n hx hb dX3_init_95 rfl (lv_at hl 0 rfl) ?_
  refine lv_aload_n hx hb dX3_init_96 rfl (lv_at hl 1 rfl) ?_
  refine q_get (v := .ref (sz + 1)) hx hb hts hin3 hown hK hh rfl 1 (by decide) (hts (.fieldLink RX3 17 "PuddingstoneLine" "functions" "[LPuddingstoneLine$StepFunction;") (by decide +kernel)) (fun _ h9 => h9) rfl dX3_init_97 ?_
  refine q_len hx hb hK 3 rfl k1 dX3_init_100 ?_
  refine lv_icmp_ge (tgt := 123) hx hb dX3_init_101 (by decide) (fun c9 => ?_) (fun c9 => absurd (Int32.le_refl _) c9)
  exact W.vret hx hb hr (fun t ht _ => ⟨⟨(), rfl, trivial, by dsimp only; rw [ht]; exact ⟨hz, plI2_end hlt hI⟩⟩, hS.F ht⟩) hS.2.2 dX3_init_123
