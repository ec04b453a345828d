section FWR2
variable {p : Program} {l : Launch} {e : Env} {R : Room} {s : State} {m : MethodId} {args : Array Value} {below : List Frame} {meth : Method} {c : Code} {H : Heap} {locs : List Loc} {cells slots : Nat} {Q : State → Prop}
variable {cc : ByteArray} {pc : Nat} {ls : Array Slot} {rest : List Value} {D : va_G} {T : Nat → ClassId} {A : Nat → Prop} {a : Nat} {H0 : Heap}
theorem q_put (hexec : p.tables.exec = Jvm.exec) (hb : c.code = cc) {own ref C : String} {Tb : u_T} {N ci index : Nat} {Ts : List Cond} (hts : ∀ w ∈ Ts, w.before args s = true) (hin : ∀ w ∈ u_ws C Tb N, w ∈ Ts) (ty0 : Nat → FieldType) (hty : ∀ k, k < N → parseFieldDescriptor (Tb k).2.2.1 = some (ty0 k)) (hnm : ∀ a, a < N → ∀ b, b < N → a ≠ b → (Tb a).2.1 ≠ (Tb b).2.1) (hown : s.vm.findClass own = some m.cls) (hK : KB D T s) {fs : List Value} (ha : pAt D H a (eO ci fs)) (hc : vwCl[ci]? = some (C, Tb, N)) (k : Nat) (hk : k < N) (hlink : (Cond.fieldLink own index ref (Tb k).2.1 (Tb k).2.2.1).before args s = true) (hsame : ∀ x, s.fieldFound? (Tb k).1 (Tb k).2.1 (Tb k).2.2.1 = some x → s.fieldFound? ref (Tb k).2.1 (Tb k).2.2.1 = some x) (hfin : (Tb k).2.2.2 = false) {v : Value} (hn : narrow (ty0 k) v = v) (hfit : fits (ty0 k) v = true) (hl : k < fs.length) (hS0 : va_S A H0 H locs) (hA : A a)
    (hdg : decode cc pc = .ok (.putfield index, 3)) (kk : ∀ (H1 : Heap) (locs1 : List Loc), pAt D H1 a (eO ci (fs.set k v)) → (∀ q : Nat, q ≠ a → H1[q]? = H[q]?) → va_S A H0 H1 locs1 → W p l e R s m args below meth c H1 locs1 cells slots Q (F0 m (pc + 3) ls rest)) : W p l e R s m args below meth c H locs cells slots Q (F0 m pc ls (v :: .ref a :: rest)) := by
  have hd : parseFieldDescriptor (Tb k).2.2.1 = some (ty0 k) := hty k hk
  have hap := va_apart (own := own) hts hin ty0 hty hnm hK.1 hc
  obtain ⟨r, h1, cell, q1, q2, q3, q4⟩ := ha
  have hr : r = (C, Tb, N) := Option.some.inj (h1.symm.trans hc)
  subst hr
  obtain ⟨hS, hfc, kC, hkC, hkind⟩ := hK.1.1 ci _ hc
  obtain ⟨cf, kf, fi, f, hi, hsl⟩ := hS k hk
  have hlay := hts _ (hin _ (u_in_lay hk))
  unfold u_lay at hlay
  rw [if_neg (by rw [hfin]; decide)] at hlay
  have hst := (u_facts hfc hkC (u_lays hts hin hk) hi).1
  have h6 := u_store hfc hkC hkind hlay hi hd hn hfit
  refine W.putK hexec hb (f := f) ⟨hown, hlink, ⟨_, _, _, hsame _ hi⟩, hst⟩ (by rw [q2]; exact h6) q1 q3 (by rw [hsl]; exact k2_hasslot (q4 k hk)) rfl rfl hdg fun H' e1 e2 e3 => ?_
  rw [hsl] at e1 ⊢
  exact kk H' _ ⟨_, hc, t_OB.to (V := updV (vp_V fs) k v) ⟨_, e1, q2, q3, t_set q4 hap hk v⟩ (fun j _ => vp_updV_set hl v j)⟩ e3 (hS0.put e2 e3 hA)
/-- a counted loop: the invariant at i, from i0 to N; one turn; behind it -/
theorem q_for {ls0 : Array Slot} (I : Nat → Heap → List Loc → Array Slot → Prop) {N : Nat} (i0 : Nat) (hi0 : i0 ≤ N) (h0 : I i0 H locs ls0)
    (hstep : ∀ (i : Nat) (H : Heap) (locs : List Loc) (ls : Array Slot), i0 ≤ i ∧ i < N → I i H locs ls → (∀ (H' : Heap) (locs' : List Loc) (ls' : Array Slot), I (i + 1) H' locs' ls' → W p l e R s m args below meth c H' locs' cells slots Q (F0 m pc ls' [])) → W p l e R s m args below meth c H locs cells slots Q (F0 m pc ls []))
    (hexit : ∀ (H : Heap) (locs : List Loc) (ls : Array Slot), I N H locs ls → W p l e R s m args below meth c H locs cells slots Q (F0 m pc ls [])) : W p l e R s m args below meth c H locs cells slots Q (F0 m pc ls0 []) := by
  have key : ∀ (n i : Nat) (H : Heap) (locs : List Loc) (ls : Array Slot), i0 ≤ i → i ≤ N → N - i < n → I i H locs ls → W p l e R s m args below meth c H locs cells slots Q (F0 m pc ls []) := by
    intro n
    induction n with
    | zero => intro i _ _ _ _ _ h; exact absurd h (Nat.not_lt_zero _)
    | succ n ih =>
      intro i H locs ls hlo hi hn hI
      rcases Nat.lt_or_ge i N with h | h
      · exact hstep i H locs ls ⟨hlo, h⟩ hI fun H' locs' ls' hI' => ih (i + 1) H' locs' ls' (by omega) (by omega) (by omega) hI'
      · have hN : i = N := by omega
        subst hN
        exact hexit H locs ls hI
  exact key (N - i0 + 1) i0 H locs ls0 (Nat.le_refl _) hi0 (by omega) h0
end FWR2
theorem inc_1 (a : Nat) : nI a + Int32.ofInt 1 = nI (a + 1) := nI_1 a
theorem inc_2 (a : Nat) : nI a + Int32.ofInt 2 = nI (a + 2) := nI_add a 2
theorem inc_6 (a : Nat) : nI a + Int32.ofInt 6 = nI (a + 6) := nI_add a 6
theorem nc_le {a b : Nat} (ha : a < 2 ^ 31) (hb : b < 2 ^ 31) : nI a ≤ nI b ↔ a ≤ b := nI_leI ha hb
theorem nc_lt {a b : Nat} (ha : a < 2 ^ 31) (hb : b < 2 ^ 31) : nI a < nI b ↔ a < b := nI_ltI ha hb
theorem nc_eq {a b : Nat} (ha : a < 2 ^ 31) (hb : b < 2 ^ 31) : nI a = nI b ↔ a = b := nI_eq ha hb
theorem lv_to {ls : Array Slot} {nL : Nat} {l l' : List (Nat × Value)} (h : lv_has ls nL l) (e : l = l') : lv_has ls nL l' := e ▸ h
def jmax (x y : Int32) : Int32 := if x < y then y else x
def jmin (x y : Int32) : Int32 := if y < x then y else x
/-- f n (.. (f 0 a)) -/
def itr {α : Type} (f : Nat → α → α) : Nat → α → α
  | 0, a => a
  | n + 1, a => f n (itr f n a)
theorem itr_s {α : Type} (f : Nat → α → α) (n : Nat) (a : α) : itr f (n + 1) a = f n (itr f n a) := rfl
theorem itr_0 {α : Type} (f : Nat → α → α) (a : α) : itr f 0 a = a := rfl
/-- SETS, as the class reads and writes them: what GrainSet.holds and .write do -/
def holdZ (f : Nat → Int32) (g : Int32) : Int32 := if g < 0 then nI 0 else if nI 201 ≤ g then nI 0 else if f g.toNatClampNeg = 0 then nI 0 else nI 1
def wrZ (f : Nat → Int32) (g v : Int32) : Nat → Int32 := if g < 0 then f else if nI 201 ≤ g then f else upd f g.toNatClampNeg v
/-- a GrainSet at h, its row at a -/
def GS (D : va_G) (T : Nat → ClassId) (h a : Nat) (f : Nat → Int32) (H : Heap) : Prop := pAt D H h (eO 0 [.ref a]) ∧ pAt D H a (eN (T 0) 201 f) ∧ h ≠ a
theorem in_eq {g : Int32} (h : ¬ g < 0) : g = nI g.toNatClampNeg := by
  obtain ⟨j, hj, rfl⟩ := nI_of h
  rw [nI_clamp hj]
theorem in_lt {g : Int32} {n : Nat} (h : ¬ g < 0) (h2 : ¬ nI n ≤ g) : g.toNatClampNeg < n := by
  obtain ⟨j, hj, rfl⟩ := nI_of h
  rw [nI_clamp hj]
  rcases Nat.lt_or_ge j n with q | q
  · exact q
  · exact absurd (nI_le q hj) h2
theorem nar_holdZ (f : Nat → Int32) (g : Int32) : vp_nar .boolean (holdZ f g) = holdZ f g := by
  unfold holdZ
  split
  · rfl
  · split
    · rfl
    · split
      · rfl
      · rfl
def cntZ (f : Nat → Int32) (n : Nat) : Int32 := itr (fun i c => if holdZ f (nI i) = 0 then c else c + 1) n (nI 0)
theorem cntZ_s (f : Nat → Int32) (n : Nat) : cntZ f (n + 1) = if holdZ f (nI n) = 0 then cntZ f n else cntZ f n + 1 := rfl
def lenZ (f : Nat → Int32) (n : Nat) : Int32 := itr (fun i c => if holdZ f (nI (2 * i + 1)) = 0 then c else c + 1) n (nI 0)
theorem lenZ_s (f : Nat → Int32) (n : Nat) : lenZ f (n + 1) = if holdZ f (nI (2 * n + 1)) = 0 then lenZ f n else lenZ f n + 1 := rfl
theorem lt_pred {last : Int32} {hi i : Nat} (h : last.toInt + 1 = (hi : Int)) (hi2 : i < 2 ^ 31) : last < nI i ↔ hi ≤ i := by
  rw [Int32.lt_iff_toInt_lt, nI_toInt hi2]
  omega
theorem jmax_0 {a : Nat} (h : a < 2 ^ 31) : jmax (nI a) (nI 0) = nI a := by
  unfold jmax
  rw [if_neg]
  intro q
  exact absurd ((nI_ltI h (by omega)).mp q) (by omega)
def fillS (f : Nat → Int32) (v : Int32) (lo k : Nat) : (Nat → Int32) × Int32 := itr (fun k s => if holdZ s.1 (nI (lo + k)) = v then s else (wrZ s.1 (nI (lo + k)) v, s.2 + 1)) k (f, nI 0)
theorem fillS_s (f : Nat → Int32) (v : Int32) (lo k : Nat) : fillS f v lo (k + 1) = if holdZ (fillS f v lo k).1 (nI (lo + k)) = v then fillS f v lo k else (wrZ (fillS f v lo k).1 (nI (lo + k)) v, (fillS f v lo k).2 + 1) := rfl
def copyZ (f g : Nat → Int32) (n : Nat) : Nat → Int32 := itr (fun i s => wrZ s (nI i) (holdZ g (nI i))) n f
theorem copyZ_s (f g : Nat → Int32) (n : Nat) : copyZ f g (n + 1) = wrZ (copyZ f g n) (nI n) (holdZ g (nI n)) := rfl
def invZ (f : Nat → Int32) (n : Nat) : Nat → Int32 := itr (fun i s => wrZ s (nI i) (if holdZ s (nI i) = 0 then nI 1 else nI 0)) n f
theorem invZ_s (f : Nat → Int32) (n : Nat) : invZ f (n + 1) = wrZ (invZ f n) (nI n) (if holdZ (invZ f n) (nI n) = 0 then nI 1 else nI 0) := rfl
/-- FUNCTIONS, as the class reads and writes them -/
def atV (f : Nat → Int32) (g : Int32) : Int32 := if g < 0 then nI 0 else if nI 201 ≤ g then nI 0 else f g.toNatClampNeg
def wrV (f : Nat → Int32) (g v : Int32) : Nat → Int32 := if g < 0 then f else if nI 201 ≤ g then f else upd f g.toNatClampNeg (jmax (-10000) (jmin (nI 10000) v))
/-- a StepFunction at h, its row at a -/
def SF (D : va_G) (T : Nat → ClassId) (h a : Nat) (f : Nat → Int32) (H : Heap) : Prop := pAt D H h (eO 2 [.ref a]) ∧ pAt D H a (eN (T 1) 201 f) ∧ h ≠ a
def copyV (f g : Nat → Int32) (n : Nat) : Nat → Int32 := itr (fun i s => wrV s (nI i) (atV g (nI i))) n f
theorem copyV_s (f g : Nat → Int32) (n : Nat) : copyV f g (n + 1) = wrV (copyV f g n) (nI n) (atV g (nI n)) := rfl
def stepsV (f : Nat → Int32) (n : Nat) : Int32 := itr (fun i c => if atV f (nI (i + 1)) = atV f (nI (i + 1) - nI 1) then c else c + 1) n (nI 1)
theorem stepsV_s (f : Nat → Int32) (n : Nat) : stepsV f (n + 1) = if atV f (nI (n + 1)) = atV f (nI (n + 1) - nI 1) then stepsV f n else stepsV f n + 1 := rfl
theorem lv_ex {ls : Array Slot} {nL : Nat} {l : List (Nat × Value)} (h : lv_has ls nL l) (k : Nat) {i : Nat} {v v' : Value} (hk : l[k]? = some (i, v)) (e : v = v') : lv_has ls nL (l.set k (i, v')) := by
  refine ⟨h.1, h.2.1, fun q hq => ?_⟩
  rcases List.mem_or_eq_of_mem_set hq with h1 | h1
  · exact h.2.2 q h1
  · subst h1
    subst e
    exact lv_at h k hk
