/-! WHAT HOLDS OF STONES: its rows of spans are the class's sets, its rows of values the class's functions -/
theorem kp_sz {H Hw : Heap} (h : ∀ z : Nat, z < Hw.size → H[z]? = Hw[z]?) : Hw.size ≤ H.size := by
  by_cases c : Hw.size ≤ H.size
  · exact c
  · have h1 := h H.size (by omega)
    rw [Array.getElem?_eq_none (Nat.le_refl _), Array.getElem?_eq_getElem (by omega)] at h1
    cases h1
theorem ILA.wk {D : va_G} {T : Nat → ClassId} {w w2 q n : Nat} {ads a b : Nat → Nat} {H : Heap} (h : ILA D T w q ads n a b H) (hw : w2 ≤ w) : ILA D T w2 q ads n a b H := ⟨h.1, fun k hk => ⟨Nat.le_trans hw (h.2 k hk).1, (h.2 k hk).2⟩⟩
theorem IL.wk {D : va_G} {T : Nat → ClassId} {w w2 q : Nat} {S : SL} {H : Heap} (h : IL D T w q S H) (hw : w2 ≤ w) : IL D T w2 q S H := by
  obtain ⟨ads, h⟩ := h
  exact ⟨ads, h.wk hw⟩
theorem IL.old {D : va_G} {T : Nat → ClassId} {w q : Nat} {S : SL} {H H1 : Heap} (h : IL D T w q S H) (o1 : ∀ z : Nat, z < H.size → H1[z]? = H[z]?) : IL D T w q S H1 := by
  obtain ⟨ads, h⟩ := h
  exact ⟨ads, h.old o1⟩
section SW2
variable {D : va_G} {T : Nat → ClassId} {ad : Nat → Nat} {o sc N dr : Nat} {sf : Nat → Int32} {F V : Nat → Nat → Int32} {sr : SRs} {C : Nat → Int32} {L : Nat → SL} {U : Nat → Nat → Int32} {la vv : Nat → Nat} {H H1 : Heap}
theorem SW.uU {k : Nat} {u : Nat → Int32} (h : SW D T ad o sc N sf dr F V sr C L (va_up U k u) la vv H) (hk : k < 5) : pAt D H (vv k) (eN (T 1) 201 u) := by
  have h1 := (h.u k hk).2
  rwa [va_up_s] at h1
theorem SW.setUU {k : Nat} {u0 : Nat → Int32} (h : SW D T ad o sc N sf dr F V sr C L (va_up U k u0) la vv H) (hk : k < 5) {u : Nat → Int32} (hn : pAt D H1 (vv k) (eN (T 1) 201 u)) (oq : ∀ q : Nat, q ≠ vv k → H1[q]? = H[q]?) : SW D T ad o sc N sf dr F V sr C L (va_up U k u) la vv H1 := by
  have h1 := h.setU hk hn oq
  rwa [va_up_up] at h1
def Inv (F V : Nat → Nat → Int32) (sr : SRs) (L : Nat → SL) (U : Nat → Nat → Int32) : Prop := sr.2.2 ≤ 201 ∧ (∀ k : Nat, k < 8 → Rep (pB (F k)) 201 (L k)) ∧ ∀ f g : Nat, f < 5 → g < 201 → U f g = V f g ∧ inL (V f g)
def ST (D : va_G) (T : Nat → ClassId) (ad : Nat → Nat) (o sc N : Nat) (sf : Nat → Int32) (d : Nat) (H : Heap) : Prop := ∃ (dr : Nat) (F V : Nat → Nat → Int32) (sr : SRs) (C : Nat → Int32) (L : Nat → SL) (U : Nat → Nat → Int32) (la vv : Nat → Nat), dr ≤ d ∧ o + 53 ≤ H.size ∧ SW D T ad o sc N sf dr F V sr C L U la vv H ∧ Inv F V sr L U
theorem ST.le {d d2 : Nat} (h : ST D T ad o sc N sf d H) (hd : d ≤ d2) : ST D T ad o sc N sf d2 H := by
  obtain ⟨dr, F, V, sr, C, L, U, la, vv, h1, h2⟩ := h
  exact ⟨dr, F, V, sr, C, L, U, la, vv, Nat.le_trans h1 hd, h2⟩
theorem Inv.put (h : Inv F V sr L U) {F' : Nat → Nat → Int32} {sr' : SRs} {k : Nat} {S : SL} (hs : sr'.2.2 ≤ 201) (hF : ∀ j : Nat, j < 8 → j ≠ k → F' j = F j) (hk : Rep (pB (F' k)) 201 S) : Inv F' V sr' (va_up L k S) U := by
  refine ⟨hs, fun j hj => ?_, h.2.2⟩
  by_cases e : j = k
  · rw [e, va_up_s]
    exact hk
  · rw [va_up_n _ _ e, hF j hj e]
    exact h.2.1 j hj
theorem Inv.fun (h : Inv F V sr L U) {V' : Nat → Nat → Int32} {k : Nat} {u : Nat → Int32} (hV : ∀ j : Nat, j < 5 → j ≠ k → V' j = V j) (hk : ∀ g : Nat, g < 201 → u g = V' k g ∧ inL (V' k g)) : Inv F V' sr L (va_up U k u) := by
  refine ⟨h.1, h.2.1, fun j g hj hg => ?_⟩
  by_cases e : j = k
  · rw [e, va_up_s]
    exact hk g hg
  · rw [va_up_n _ _ e, hV j hj e]
    exact h.2.2 j g hj hg
end SW2
theorem cntZ_n (f : Nat → Int32) {n : Nat} : cntZ f n = nI (cntB (pB f) n) := by
  induction n with
  | zero => rfl
  | succ n ih =>
    by_cases c : holdZ f (nI n) = 0
    · rw [cntZ_s, if_pos c, cntB_n (by rw [pB_n.mpr c]; decide), ih]
    · rw [cntZ_s, if_neg c, cntB_y (pB_y.mpr c), ih]
      exact nI_1 _
theorem ans_cnt {f : Nat → Int32} {S : SL} (h : Rep (pB f) 201 S) : cntZ f 201 = nI (cntS S.2.1 S.2.2 S.1) := by
  rw [cntZ_n, ← h.count]
  rfl
theorem up_ne {α : Type} {F : Nat → α} {k : Nat} {f : α} : ∀ j : Nat, j < 8 → j ≠ k → va_up F k f j = F j := fun j _ h => va_up_n _ _ h
theorem up_ne8 {α : Type} {F : Nat → α} {k : Nat} {c f : α} : ∀ j : Nat, j < 8 → j ≠ k → va_up (va_up F 8 c) k f j = F j := fun j h1 h => by rw [va_up_n _ _ h, va_up_n _ _ (by omega)]
/-! change 5, 6: the longest span alone; all from the first to the last -/
theorem runs_eq {f : Nat → Int32} {L : SL} (h : Rep (pB f) 201 L) : (runs f).1 = L.1 ∧ ∀ k : Nat, k < L.1 → (runs f).2.1 k = L.2.1 k ∧ (runs f).2.2 k = L.2.2 k := ⟨(runs_ok f).uniqN h, fun k hk => by
  have h1 := h.uniq (runs_ok f) k hk
  exact ⟨h1.2.1.symm, h1.2.2.symm⟩⟩
theorem fs_la (f : Nat → Int32) (s : SRs) {L : SL} (h : Rep (pB f) 201 L) {k : Nat} (hk : k < L.1) : fsN (rrR f (nI 1) s 201) (nI k) = L.2.1 k ∧ laN (rrR f (nI 1) s 201) (nI k) = L.2.2 k + 1 := by
  obtain ⟨e1, e2⟩ := runs_eq h
  obtain ⟨e3, e4⟩ := e2 k hk
  have h0 := h.1 k hk
  have hr : k < (runV f (nI 1)).1 := by rw [runV_1, e1]; exact hk
  have h1 := rr_fst f (nI 1) s hr
  have h2 := rr_las f (nI 1) s hr
  rw [runV_1, e3] at h1
  rw [runV_1, e4] at h2
  unfold fsN laN
  rw [h1, h2, nI_clamp (by omega), nI_toInt (by omega)]
  exact ⟨rfl, by omega⟩
theorem rr_size (f : Nat → Int32) (s : SRs) {L : SL} (h : Rep (pB f) 201 L) : (rrR f (nI 1) s 201).2.2 = L.1 := by rw [rr_n, runV_1, (runs_eq h).1]
theorem fsla_0 (f : Nat → Int32) (s : SRs) {L : SL} (h : Rep (pB f) 201 L) (h0 : L.1 = 0) (k : Int32) : fsN (rrR f (nI 1) s 201) k = 0 ∧ laN (rrR f (nI 1) s 201) k = 0 := by
  have e := rr_size f s h
  rw [h0] at e
  generalize rrR f (nI 1) s 201 = w at e ⊢
  obtain ⟨a, b, c⟩ := w
  have e : c = 0 := e
  subst e
  unfold fsN laN
  rw [fstR_0, lasR_0]
  exact ⟨rfl, rfl⟩
theorem fill1_h (f : Nat → Int32) {x y g : Nat} (hy : y ≤ 200) (hg : g < 201) : pB (fillS f (nI 1) x (min (y + 1) 201 - x)).1 g = if x ≤ g ∧ g ≤ y then true else pB f g := by
  by_cases c : x ≤ 201
  · rw [fillS_h f (nI 1) _ _ (by omega) g hg]
    by_cases c2 : x ≤ g ∧ g ≤ y
    · rw [if_pos c2, if_pos (by omega)]
      decide
    · rw [if_neg c2, if_neg (by omega)]
  · rw [show min (y + 1) 201 - x = 0 by omega, if_neg (by omega)]
    rfl
theorem fill0_h (f : Nat → Int32) {g : Nat} (hg : g < 201) : pB (fillS f (nI 0) 0 (min 201 201 - 0)).1 g = false := by
  rw [fillS_h f (nI 0) _ _ (by omega) g hg, if_pos (by omega)]
  decide
theorem fill_z (g : Nat → Int32) (v : Int32) : (fillS g v 0 (min 0 201 - 0)).1 = g := rfl
theorem gapZ_h (f : Nat → Int32) (s : SRs) {L : SL} (h : Rep (pB f) 201 L) (h0 : 0 < L.1) : ∀ j : Nat, j < 201 → (pB (gapZ f (rrR f (nI 1) s 201)) j = true ↔ L.2.1 0 ≤ j ∧ j ≤ L.2.2 (L.1 - 1)) := by
  intro j hj
  have e := rr_size f s h
  have e1 := (fs_la f s h h0).1
  have e2 := (fs_la f s h (show L.1 - 1 < L.1 by omega)).2
  have hb := h.sp (i := L.1 - 1) (by omega)
  unfold gapZ
  rw [e, pk_sub (by omega), e1, e2, fill1_h f hb.2 hj]
  by_cases c : L.2.1 0 ≤ j ∧ j ≤ L.2.2 (L.1 - 1)
  · rw [if_pos c]
    exact ⟨fun _ => c, fun _ => rfl⟩
  · rw [if_neg c]
    refine ⟨fun q => ?_, fun q => absurd q c⟩
    exfalso
    rcases Nat.lt_or_ge j (L.2.1 0) with c2 | c2
    · rw [h.bef h0 c2] at q
      cases q
    · rw [h.aft h0 (by omega) hj] at q
      cases q
theorem gapZ_0 (f : Nat → Int32) (s : SRs) {L : SL} (h : Rep (pB f) 201 L) (h0 : L.1 = 0) : ∀ j : Nat, j < 201 → pB (gapZ f (rrR f (nI 1) s 201)) j = false := by
  intro j hj
  unfold gapZ
  rw [(fsla_0 f s h h0 _).1, (fsla_0 f s h h0 _).2, fill_z]
  exact h.emp h0 hj
theorem lenN_ext {s t : SL} {n : Nat} (h : ∀ k : Nat, k ≤ n → s.2.1 k = t.2.1 k ∧ s.2.2 k = t.2.2 k) : ∀ k : Nat, k ≤ n → lenN s k = lenN t k := fun k hk => by
  unfold lenN
  rw [(h k hk).1, (h k hk).2]
theorem lngN_ext {s t : SL} {n : Nat} (h : ∀ k : Nat, k ≤ n → lenN s k = lenN t k) : lngN s n = lngN t n := by
  induction n with
  | zero => rfl
  | succ n ih =>
    have h1 := ih fun k hk => h k (by omega)
    have h2 := (lngN_ok t n).1
    rw [lngN_s, lngN_s, h1, h (n + 1) (Nat.le_refl _), h (lngN t n) (by omega)]
theorem lng_eq (f : Nat → Int32) (s : SRs) {L : SL} (h : Rep (pB f) 201 L) (h0 : 0 < L.1) : lngR (rrR f (nI 1) s 201) ((rrR f (nI 1) s 201).2.2 - 1) = nI (lngN L (L.1 - 1)) := by
  obtain ⟨e1, e2⟩ := runs_eq h
  rw [rr_size f s h, rr_lng f (nI 1) s (by rw [runV_1, e1]; omega), runV_1]
  congr 1
  exact lngN_ext (lenN_ext fun k hk => e2 k (by omega))
theorem klgZ_h (f : Nat → Int32) (s : SRs) {L : SL} (h : Rep (pB f) 201 L) (h0 : 0 < L.1) : ∀ j : Nat, j < 201 → (pB (klgZ f (rrR f (nI 1) s 201)) j = true ↔ L.2.1 (lngN L (L.1 - 1)) ≤ j ∧ j ≤ L.2.2 (lngN L (L.1 - 1))) := by
  intro j hj
  have h1 := (lngN_ok L (L.1 - 1)).1
  obtain ⟨e1, e2⟩ := fs_la f s h (show lngN L (L.1 - 1) < L.1 by omega)
  have hb := h.sp (i := lngN L (L.1 - 1)) (by omega)
  unfold klgZ
  rw [lng_eq f s h h0, e1, e2, fill1_h _ hb.2 hj]
  by_cases c : L.2.1 (lngN L (L.1 - 1)) ≤ j ∧ j ≤ L.2.2 (lngN L (L.1 - 1))
  · rw [if_pos c]
    exact ⟨fun _ => c, fun _ => rfl⟩
  · rw [if_neg c, fill0_h f hj]
    exact ⟨fun q => (by cases q), fun q => absurd q c⟩
theorem klgZ_0 (f : Nat → Int32) (s : SRs) {L : SL} (h : Rep (pB f) 201 L) (h0 : L.1 = 0) : ∀ j : Nat, j < 201 → pB (klgZ f (rrR f (nI 1) s 201)) j = false := by
  intro j hj
  unfold klgZ
  rw [(fsla_0 f s h h0 _).1, (fsla_0 f s h h0 _).2, fill_z]
  exact fill0_h f hj
/-- the greatest length of a span -/
def mostN (s : SL) (n : Nat) : Nat := itr (fun k c => max c (lenN s k)) n 0
theorem mostN_s (s : SL) (n : Nat) : mostN s (n + 1) = max (mostN s n) (lenN s n) := rfl
theorem mostN_ge (s : SL) (n : Nat) : ∀ k : Nat, k < n → lenN s k ≤ mostN s n := by
  induction n with
  | zero => exact fun k hk => absurd hk (Nat.not_lt_zero k)
  | succ n ih =>
    intro k hk
    rw [mostN_s]
    by_cases c : k = n
    · rw [c]
      omega
    · have := ih k (by omega)
      omega
theorem mostN_in (s : SL) (n : Nat) : mostN s n = 0 ∨ ∃ k : Nat, k < n ∧ mostN s n = lenN s k := by
  induction n with
  | zero => exact Or.inl rfl
  | succ n ih =>
    rw [mostN_s]
    by_cases c : mostN s n ≤ lenN s n
    · exact Or.inr ⟨n, Nat.lt_succ_self n, by omega⟩
    · rcases ih with ih | ⟨k, h1, h2⟩
      · omega
      · exact Or.inr ⟨k, by omega, by omega⟩
theorem most_lng (s : SL) {n : Nat} (h : 0 < n) : mostN s n = lenN s (lngN s (n - 1)) := by
  obtain ⟨h1, h2, h3⟩ := lngN_ok s (n - 1)
  have h4 := mostN_ge s n (lngN s (n - 1)) (by omega)
  rcases mostN_in s n with h5 | ⟨k, h5, h6⟩
  · omega
  · have := h2 k (by omega)
    omega
