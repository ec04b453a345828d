/-! STONES: CHANGE -/
def opD (a : Nat) : Nat := if a % 2 = 0 ∧ 0 < a then 1 else 0
def opE (b : Nat) : Nat := if b % 2 = 0 ∧ b < 200 then 1 else 0
theorem opX_e (a : Nat) : a + opD a = opX a := by
  unfold opD opX
  split <;> rfl
theorem opY_e (b : Nat) : b - opE b = opY b := by
  unfold opE opY
  split <;> rfl
theorem opE_le {b : Nat} (h : 0 < b) : opE b ≤ b := by
  unfold opE
  split <;> omega
theorem bool_if {a b : Bool} (h : a = true ↔ b = true) : a = b := by
  cases a <;> cases b <;> simp_all
theorem pL_y {f : Nat → Int32} {j : Nat} : pL f j = true ↔ 0 < j ∧ pB f (j - 1) = true := by
  unfold pL
  by_cases c : j = 0
  · rw [if_pos c]
    exact ⟨fun q => (by cases q), fun q => absurd q.1 (by omega)⟩
  · rw [if_neg c]
    exact ⟨fun q => ⟨by omega, q⟩, fun q => q.2⟩
theorem chg_q1 (f : Nat → Int32) : opQ (pB f) (pB (dropZ f 101)) := by
  intro j hj
  rw [dropZ_h f 101 (Nat.le_refl _) j hj]
  by_cases c : j % 2 = 0 ∧ j < 2 * 101 ∧ ¬ ((j = 0 ∨ pL f j = true) ∧ (j = 200 ∨ pB f (j + 1) = true))
  · rw [if_pos c]
    refine ⟨fun q => (by cases q), ?_⟩
    rintro ⟨-, q | ⟨q1, q2⟩⟩
    · omega
    · refine absurd ⟨?_, q2⟩ c.2.2
      rcases q1 with q1 | q1
      · exact Or.inl q1
      · by_cases z : j = 0
        · exact Or.inl z
        · exact Or.inr (pL_y.mpr ⟨by omega, q1⟩)
  · rw [if_neg c]
    refine ⟨fun q => ⟨q, ?_⟩, fun q => q.1⟩
    by_cases o : j % 2 = 1
    · exact Or.inl o
    · refine Or.inr ?_
      have h := Classical.byContradiction fun q => c ⟨by omega, by omega, q⟩
      exact ⟨h.1.imp id fun q => (pL_y.mp q).2, h.2⟩
theorem chg_q2 (f : Nat → Int32) : clQ (pB f) (pB (edgZ (nI 1) f 101)) := by
  intro j hj
  rw [edgZ_h (nI 1) f 101 (Nat.le_refl _) j hj]
  by_cases c : j % 2 = 0 ∧ j < 2 * 101 ∧ (pL f j = true ∨ pB f (j + 1) = true)
  · rw [if_pos c]
    exact ⟨fun _ => Or.inr ⟨c.1, c.2.2.imp (fun q => pL_y.mp q) id⟩, fun _ => by decide⟩
  · rw [if_neg c]
    refine ⟨Or.inl, fun q => ?_⟩
    rcases q with q | ⟨q1, q2⟩
    · exact q
    · exact absurd ⟨q1, by omega, q2.imp (fun q => pL_y.mpr q) id⟩ c
theorem chg_q3 (f : Nat → Int32) : loQ (pB f) (pB (oddZ (edgZ (nI 0) f 101) 100)) := by
  intro j hj
  rw [oddZ_h _ 100 (Nat.le_refl _) j hj]
  by_cases o : j % 2 = 1 ∧ j < 2 * 100
  · rw [if_pos o]
    exact ⟨fun q => (by cases q), fun q => absurd q.2.1 (by omega)⟩
  · rw [if_neg o, edgZ_h (nI 0) f 101 (Nat.le_refl _) j hj]
    by_cases c : j % 2 = 0 ∧ j < 2 * 101 ∧ (pL f j = true ∨ pB f (j + 1) = true)
    · rw [if_pos c]
      refine ⟨fun q => absurd q (by decide), fun q => ?_⟩
      rcases c.2.2 with c2 | c2
      · exact absurd (pL_y.mp c2) q.2.2.1
      · exact absurd c2 q.2.2.2
    · rw [if_neg c]
      exact ⟨fun q => ⟨q, by omega, fun q2 => c ⟨by omega, by omega, Or.inl (pL_y.mpr q2)⟩, fun q2 => c ⟨by omega, by omega, Or.inr q2⟩⟩, fun q => q.1⟩
theorem chg_q4 (f : Nat → Int32) : ∀ j : Nat, j < 201 → pB (mirZ f 100) j = pB f (200 - j) := fun _ hj => mirZ_a f hj
theorem chg_r0 {f : Nat → Int32} {S : SL} (h : Rep (npB (pB f)) 201 S) : Rep (pB (invZ f 201)) 201 S := h.congr fun g hg => invZ_h f g hg
theorem end_fr {p q : Nat → Bool} {L S : SL} (h : Rep p 201 L) (hs : ∀ j : Nat, j < 201 → q j = true → p j = true) (hS : Rep q (frN L L.1) S) : Rep q 201 S := hS.skip (h.fr_le (Nat.le_refl _)) fun g a1 a2 => q_no hs a2 (h.fr_end a1 a2)
theorem cl_e {p q : Nat → Bool} {L S : SL} (h : Rep p 201 L) (hq : clQ p q) (h201 : p 201 = false) (hS : Rep q (cfN L L.1) S) : Rep q 201 S := by
  have hle : cfN L L.1 ≤ 201 := by
    rcases Nat.eq_zero_or_pos L.1 with e | e
    · rw [e, cfN_0]
      omega
    · have e1 : cfN L L.1 = L.2.2 (L.1 - 1) + L.2.2 (L.1 - 1) % 2 + 1 := if_neg (by omega)
      have := h.sp (i := L.1 - 1) (by omega)
      omega
  have hno : ∀ g : Nat, cfN L L.1 ≤ g + 1 → g < 201 → (L.1 ≠ 0 → cfN L L.1 ≤ g + g % 2) → p g = false := fun g a1 a2 a3 => by
    rcases Nat.eq_zero_or_pos L.1 with e | e
    · exact h.emp e a2
    · have e1 : cfN L L.1 = L.2.2 (L.1 - 1) + L.2.2 (L.1 - 1) % 2 + 1 := if_neg (by omega)
      exact h.aft e (by have := a3 (by omega); omega) a2
  refine hS.skip hle fun g a1 a2 => Bool.eq_false_iff.mpr fun q9 => ?_
  rcases (hq g a2).mp q9 with e | ⟨e0, ⟨e1, e⟩ | e⟩
  · rw [hno g (by omega) a2 (fun _ => by omega)] at e
    cases e
  · rcases Nat.eq_zero_or_pos L.1 with z | z
    · rw [h.emp z (by omega)] at e
      cases e
    · have z1 : cfN L L.1 = L.2.2 (L.1 - 1) + L.2.2 (L.1 - 1) % 2 + 1 := if_neg (by omega)
      rw [h.aft z (by omega) (by omega)] at e
      cases e
  · by_cases c : g = 200
    · rw [c, h201] at e
      cases e
    · rw [hno (g + 1) (by omega) (by omega) (fun _ => by omega)] at e
      cases e
theorem six_le {p : Nat → Bool} {L : SL} (h : Rep p 201 L) (h0 : 0 < L.1) : L.2.1 0 ≤ L.2.2 (L.1 - 1) := by
  have h1 := h.sp (i := 0) h0
  rcases Nat.eq_zero_or_pos (L.1 - 1) with e | e
  · rw [e]
    exact h1.1
  · have h2 := h.mono (i := 0) (j := L.1 - 1) e (by omega)
    have h3 := h.sp (i := L.1 - 1) (by omega)
    omega
theorem mostN_le {p : Nat → Bool} {L : SL} (h : Rep p 201 L) {n : Nat} (hn : n ≤ L.1) : mostN L n ≤ 101 := by
  rcases mostN_in L n with e | ⟨k, h1, h2⟩
  · omega
  · have := h.sp (i := k) (by omega)
    rw [h2]
    unfold lenN
    omega
def Inc (n : Nat) (ads : Nat → Nat) (m : Nat) : Prop := (∀ k : Nat, k < n → ads k < m) ∧ ∀ k j : Nat, k < j → j < n → ads k < ads j
theorem inc_0 {ads : Nat → Nat} {m : Nat} : Inc 0 ads m := ⟨fun k hk => absurd hk (Nat.not_lt_zero k), fun k j _ hj => absurd hj (Nat.not_lt_zero j)⟩
theorem inc_snoc {n b m m2 : Nat} {ads : Nat → Nat} (h : Inc n ads m) (h1 : m < b) (h2 : b < m2) : Inc (n + 1) (fun k => if k = n then b else ads k) m2 := by
  refine ⟨fun k hk => ?_, fun k j hkj hj => ?_⟩
  · dsimp only
    by_cases e : k = n
    · rw [if_pos e]
      exact h2
    · rw [if_neg e]
      have := h.1 k (by omega)
      omega
  · dsimp only
    rw [if_neg (show ¬ k = n by omega)]
    by_cases e : j = n
    · rw [if_pos e]
      have := h.1 k (by omega)
      omega
    · rw [if_neg e]
      exact h.2 k j hkj (by omega)
theorem cs_snoc {L S : SL} {i x : Nat} : (i + 1 = 0 ∧ (snocS S x (L.2.2 i + L.2.2 i % 2)).1 = 0) ∨ (0 < i + 1 ∧ 0 < (snocS S x (L.2.2 i + L.2.2 i % 2)).1 ∧ (snocS S x (L.2.2 i + L.2.2 i % 2)).2.2 ((snocS S x (L.2.2 i + L.2.2 i % 2)).1 - 1) + 1 = cfN L (i + 1)) := by
  refine Or.inr ⟨by omega, Nat.succ_pos _, ?_⟩
  show updN S.2.2 S.1 _ (S.1 + 1 - 1) + 1 = _
  rw [Nat.add_sub_cancel, updN_s, cfN_s]
theorem cs_more {L S : SL} {i : Nat} (h : 0 < S.1) : (i + 1 = 0 ∧ (moreS S (L.2.2 i + L.2.2 i % 2)).1 = 0) ∨ (0 < i + 1 ∧ 0 < (moreS S (L.2.2 i + L.2.2 i % 2)).1 ∧ (moreS S (L.2.2 i + L.2.2 i % 2)).2.2 ((moreS S (L.2.2 i + L.2.2 i % 2)).1 - 1) + 1 = cfN L (i + 1)) := by
  refine Or.inr ⟨by omega, h, ?_⟩
  show updN S.2.2 (S.1 - 1) _ (S.1 - 1) + 1 = _
  rw [updN_s, cfN_s]
/-! the longest one alone -/
section K5
variable {p q : Nat → Bool} {L S : SL} {i : Nat}
abbrev onQ (L : SL) (q : Nat → Bool) : Prop := ∀ j : Nat, j < 201 → (q j = true ↔ L.2.1 (lngN L (L.1 - 1)) ≤ j ∧ j ≤ L.2.2 (lngN L (L.1 - 1)))
abbrev oneQ (L S : SL) (i : Nat) : Prop := (i ≤ lngN L (L.1 - 1) → S.1 = 0) ∧ (lngN L (L.1 - 1) < i → S.1 = 1)
theorem k5_eq (hi : i < L.1) (h1 : oneQ L S i) (c1 : S.1 = 0) (c2 : (L.2.2 i + 1) / 2 - L.2.1 i / 2 = mostN L L.1) : i = lngN L (L.1 - 1) := by
  obtain ⟨a1, a2, a3⟩ := lngN_ok L (L.1 - 1)
  have e : lenN L i = lenN L (lngN L (L.1 - 1)) := c2.trans (most_lng L (by omega))
  rcases Nat.lt_trichotomy i (lngN L (L.1 - 1)) with r | r | r
  · have := a3 i r
    omega
  · exact r
  · have := h1.2 r
    omega
theorem k5_ne (hi : i < L.1) (h1 : oneQ L S i) (c : ¬ S.1 = 0 ∨ ¬ (L.2.2 i + 1) / 2 - L.2.1 i / 2 = mostN L L.1) : i ≠ lngN L (L.1 - 1) := by
  intro e
  rcases c with c | c
  · exact c (h1.1 (by omega))
  · refine c ?_
    have e2 : lenN L i = mostN L L.1 := by rw [most_lng L (by omega), ← e]
    exact e2
theorem k5_y (h : Rep p 201 L) (hq : onQ L q) (hi : i < L.1) (hS : Rep q (frN L i) S) (h1 : oneQ L S i) (c1 : S.1 = 0) (c2 : (L.2.2 i + 1) / 2 - L.2.1 i / 2 = mostN L L.1) : Rep q (frN L (i + 1)) (snocS S (L.2.1 i) (L.2.2 i)) := by
  have e := k5_eq hi h1 c1 c2
  refine on_y h (m := i) (fun j hj => ?_) hi hS
  rw [e]
  exact hq j hj
theorem k5_n (h : Rep p 201 L) (hq : onQ L q) (hi : i < L.1) (hS : Rep q (frN L i) S) (h1 : oneQ L S i) (c : ¬ S.1 = 0 ∨ ¬ (L.2.2 i + 1) / 2 - L.2.1 i / 2 = mostN L L.1) : Rep q (frN L (i + 1)) S := on_n h hq (by have := (lngN_ok L (L.1 - 1)).1; omega) hi (k5_ne hi h1 c) hS
theorem k5_oy {x y : Nat} (h : Rep p 201 L) (hi : i < L.1) (h1 : oneQ L S i) (c1 : S.1 = 0) (c2 : (L.2.2 i + 1) / 2 - L.2.1 i / 2 = mostN L L.1) : oneQ L (snocS S x y) (i + 1) := by
  have e := k5_eq hi h1 c1 c2
  exact ⟨fun q => by omega, fun _ => by show S.1 + 1 = 1; omega⟩
theorem k5_on (h : Rep p 201 L) (hi : i < L.1) (h1 : oneQ L S i) (c : ¬ S.1 = 0 ∨ ¬ (L.2.2 i + 1) / 2 - L.2.1 i / 2 = mostN L L.1) : oneQ L S (i + 1) := by
  have e := k5_ne hi h1 c
  exact ⟨fun q => h1.1 (by omega), fun q => h1.2 (by omega)⟩
theorem k5_e (h : Rep p 201 L) (hq : 0 < L.1 → onQ L q) (h0 : L.1 = 0 → ∀ j : Nat, j < 201 → q j = false) (hS : Rep q (frN L L.1) S) : Rep q 201 S := by
  by_cases c : L.1 = 0
  · exact hS.skip (h.fr_le (Nat.le_refl _)) fun g _ a2 => h0 c g a2
  · exact on_e h (hq (by omega)) (by have := (lngN_ok L (L.1 - 1)).1; omega) hS
end K5
theorem lo_y2 {p q : Nat → Bool} {L S : SL} {i : Nat} (h : Rep p 201 L) (hq : loQ p q) (h201 : p 201 = false) (hi : i < L.1) (hS : Rep q (frN L i) S) (c1 : L.2.1 i = L.2.2 i) (c2 : L.2.1 i % 2 = 0) : Rep q (frN L (i + 1)) (snocS S (L.2.1 i) (L.2.2 i)) := by
  have e := lo_y h hq h201 hi hS c1 c2
  rwa [show snocS S (L.2.1 i) (L.2.2 i) = snocS S (L.2.1 i) (L.2.1 i) by rw [c1]]
theorem op_bd (a b : Nat) : a ≤ opX a ∧ opX a ≤ a + 1 ∧ opY b ≤ b ∧ opD a ≤ 1 ∧ opE b ≤ 1 := by
  unfold opX opY opD opE
  split <;> split <;> omega
theorem pr2_g (f : Nat → Int32) (x y : Nat) : ∀ k : Nat, k < 2 → upd (upd f 0 (nI x)) 1 (nI y) k = pr2 x y k := by
  intro k hk
  rcases (show k = 0 ∨ k = 1 by omega) with rfl | rfl
  · rfl
  · rfl
theorem chgG_0 (f : Nat → Int32) (s : SRs) : chgG f s 0 = invZ f 201 := by
  unfold chgG
  rw [if_pos rfl]
theorem chgG_1 (f : Nat → Int32) (s : SRs) : chgG f s 1 = dropZ f 101 := by
  unfold chgG
  rw [if_neg (by decide), if_pos rfl]
theorem chgG_2 (f : Nat → Int32) (s : SRs) : chgG f s 2 = edgZ (nI 1) f 101 := by
  unfold chgG
  rw [if_neg (by decide), if_neg (by decide), if_pos rfl]
theorem chgG_3 (f : Nat → Int32) (s : SRs) : chgG f s 3 = oddZ (edgZ (nI 0) f 101) 100 := by
  unfold chgG
  rw [if_neg (by decide), if_neg (by decide), if_neg (by decide), if_pos rfl]
theorem chgG_4 (f : Nat → Int32) (s : SRs) : chgG f s 4 = mirZ f 100 := by
  unfold chgG
  rw [if_neg (by decide), if_neg (by decide), if_neg (by decide), if_neg (by decide), if_pos rfl]
theorem chgG_5 (f : Nat → Int32) (s : SRs) : chgG f s 5 = klgZ f (rrR f (nI 1) s 201) := by
  unfold chgG
  rw [if_neg (by decide), if_neg (by decide), if_neg (by decide), if_neg (by decide), if_neg (by decide), if_pos rfl]
theorem chgG_6 (f : Nat → Int32) (s : SRs) : chgG f s 6 = gapZ f (rrR f (nI 1) s 201) := by
  unfold chgG
  rw [if_neg (by decide), if_neg (by decide), if_neg (by decide), if_neg (by decide), if_neg (by decide), if_neg (by decide), if_pos rfl]
theorem chgG_7 (f : Nat → Int32) (s : SRs) : chgG f s 7 = (fillS f (nI 0) 0 (min 201 201 - 0)).1 := by
  unfold chgG
  rw [if_neg (by decide), if_neg (by decide), if_neg (by decide), if_neg (by decide), if_neg (by decide), if_neg (by decide), if_neg (by decide)]
set_option maxHeartbeats 40000000 in
set_option maxRecDepth 100000 in
theorem conX4_change (l : Launch) (D : va_G) (T : Nat → ClassId) (ad : Nat → Nat) (o sc N : Nat) (sf : Nat → Int32) (d : Nat) (hN : N < 2 ^ 30) (hd : d + 20 < 2 ^ 30) : Met l yX4_change wsX4_change ({ frames := 7, cells := 310, slots := 11000, locals := 153 }) (cP D T [.ref o] (fun H => ST D T ad o sc N sf d H)) (va_Qi (fun (r : Int32) (_ : Unit) => r = nI 1) (fun _ t => ST D T ad o sc N sf (d + 10) t.heap) (fun z : Nat => o ≤ z)) 310 11000 (fun z : Nat => o ≤ z) := by
  refine Met.ofW (cc := cX4_change) (maxL := 10) (ret := (some .boolean)) (by decide) rfl ?_
  intro p e s m args below meth c s₁ B hml hv9
  obtain ⟨rfl, hK, ⟨dr, F, V, sr, C, L, U, la, vv, hdr, ho9, hw, hinv⟩⟩ := hv9
  have hx := B.exec
  have hb := B.bytes
  have hr := B.returns
  have hts := atoms_spec (ws := wsX4_change) B.pre
  have hown : s.vm.findClass RX4 = some m.cls := findClass_of_methodNamed B.named
  have hlocks := B.notSynchronized
  have hin4 : ∀ w ∈ wsX40, w ∈ wsX4_change := by decide +kernel
  generalize hAe : (fun z : Nat => o ≤ z) = A
  have hA : ∀ z : Nat, o ≤ z → A z := fun z h9 => by subst hAe; exact h9
  have hS : va_S A s.heap s.heap [] := va_S.rf
  have hl := lv_entry ([.ref o]) (n := 10) (Nat.le_of_ble_eq_true rfl)
  rw [lg_entry_eq]
  generalize (lg_sl ([.ref o]) ++ List.replicate (10 - (lg_sl ([.ref o])).length) Slot.unset).toArray = ls at hl ⊢
  have hl : lv_has ls 10 [(0, .ref o)] := hl
  have hA_o : A o := hA o (Nat.le_refl _)
  have hlt9 := hw.lt
  refine lv_aload_n hx hb dX4_change_0 rfl (lv_at hl 0 rfl) ?_
  refine lv_bipush (v := nI 8) hx hb dX4_change_1 (by decide) ?_
  refine va_calli (va_runV (As := [.int (nI 8)]) (rest := []) ⟨hx, hb, hml, hown, hts⟩ (conX4_draw l D T ad o sc N sf dr F V sr C L U la vv (by omega) (by omega) 8 (by omega) (by omega)) (cwV 1 hts gX4_change_X4_draw rfl rfl rfl (by decide +kernel) ⟨Nat.le_of_ble_eq_true rfl, Nat.le_of_ble_eq_true rfl⟩) (preV hK hw.ob rfl hw) rfl rfl hl.1 rfl (lv_room (Nat.le_of_ble_eq_true rfl)) dX4_change_3 ⟨Nat.le_of_ble_eq_true rfl, Nat.le_of_ble_eq_true rfl⟩) hS (fun q _ h9 => (by have h8 : q = o := h9; rw [h8]; exact hA_o)) (fun q h9 => (by have h8 : q = o := h9; rw [h8]; exact hA_o)) (fun r u t H1 locs1 ht hvm hw9 hB hz1 hk1 hS => ?_)
  try dsimp only at hB
  rw [ht] at hB
  obtain ⟨k1, hk1, rfl⟩ := hw9
  replace hw := hB
  refine lv_istore_n (lv' := [(1, .int (nI k1)), (0, .ref o)]) hx hb dX4_change_6 rfl hl (by decide) rfl (fun ls hl => ?_)
  refine lv_aload_n hx hb dX4_change_7 rfl (lv_at hl 1 rfl) ?_
  refine lv_bipush (v := nI 8) hx hb dX4_change_8 (by decide) ?_
  refine va_calli (va_runV (As := [.int (nI 8)]) (rest := []) ⟨hx, hb, hml, hown, hts⟩ (conX4_draw l D T ad o sc N sf (dr + 1) F V sr C L U la vv (by omega) (by omega) 8 (by omega) (by omega)) (cwV 1 hts gX4_change_X4_draw rfl rfl rfl (by decide +kernel) ⟨Nat.le_of_ble_eq_true rfl, Nat.le_of_ble_eq_true rfl⟩) (preV hK hw.ob rfl hw) rfl rfl hl.1 rfl (lv_room (Nat.le_of_ble_eq_true rfl)) dX4_change_10 ⟨Nat.le_of_ble_eq_true rfl, Nat.le_of_ble_eq_true rfl⟩) hS (fun q _ h9 => (by have h8 : q = o := h9; rw [h8]; exact hA_o)) (fun q h9 => (by have h8 : q = o := h9; rw [h8]; exact hA_o)) (fun r u t H1 locs1 ht hvm hw9 hB hz1 hk1 hS => ?_)
  try dsimp only at hB
  rw [ht] at hB
  obtain ⟨k2, hk2, rfl⟩ := hw9
  replace hw := hB
  refine lv_istore_n (lv' := [(2, .int (nI k2)), (1, .int (nI k1)), (0, .ref o)]) hx hb dX4_change_13 rfl hl (by decide) rfl (fun ls hl => ?_)
  refine lv_aload_n hx hb dX4_change_14 rfl (lv_at hl 2 rfl) ?_
  refine q_get (v := .ref (o + 38)) hx hb hts hin4 hown hK hw.ob rfl 3 (by decide) (hts (.fieldLink RX4 18 "PuddingstoneLineLaw$Stones" "sets" "[[[I") (by decide +kernel)) (fun _ h9 => h9) rfl dX4_change_15 ?_
  refine lv_iload_n hx hb dX4_change_18 rfl (lv_at hl 1 rfl) ?_
  refine q_aald hx hb hK 8 rfl rfl hw.ss k1 rfl (by omega) (by decide) (b := la k1) rfl dX4_change_19 ?_
  obtain ⟨hla1, hln1, ads1, hi1⟩ := hw.il k1 (by omega)
  have hR1 := hinv.2.1 k1 (by omega)
  refine lv_astore_n (lv' := [(3, .ref (la k1)), (2, .int (nI k2)), (1, .int (nI k1)), (0, .ref o)]) hx hb dX4_change_20 rfl hl (by decide) rfl (fun ls hl => ?_)
  refine lv_iconst (v := nI 0) hx hb dX4_change_21 (by decide) ?_
  obtain ⟨Hw, hHw⟩ : ∃ z : Heap, z = H1 := ⟨_, rfl⟩
  obtain ⟨b1, hb1⟩ : ∃ z : Nat, z = H1.size := ⟨_, rfl⟩
  have ln_b1 : s.heap.size ≤ b1 := by have h8 := hS.1; omega
  have lw_b1 : Hw.size ≤ b1 := by rw [hHw]; omega
  refine q_newqa hx hb hown (hts (.classLink RX4 44 "[I") (by decide +kernel)) hK 0 rfl (by omega) (by show _ ≤ 310; omega) (by show _ ≤ 11000; omega) hS dX4_change_22 (fun H1 hw9 z1 o1 hS => ?_)
  rw [← hb1] at hw9 ⊢
  have nb1 := hw9
  have sb1 : H1.size = b1 + 1 := by omega
  rw [← hHw] at hw hi1
  have hwk : ∀ z : Nat, z < Hw.size → H1[z]? = Hw[z]? := by rw [hHw]; exact fun z hz => o1 z (by omega)
  have hil : ILA D T b1 b1 (fun _ => 0) 0 (fun _ => 0) (fun _ => 0) H1 := ILA.nil nb1
  refine lv_astore (lv' := [(4, .ref b1), (3, .ref (la k1)), (2, .int (nI k2)), (1, .int (nI k1)), (0, .ref o)]) hx hb dX4_change_25 hl (by decide) rfl (fun ls hl => ?_)
  refine lv_iconst (v := nI 0) hx hb dX4_change_27 (by decide) ?_
  refine lv_istore (lv' := [(5, .int (nI 0)), (4, .ref b1), (3, .ref (la k1)), (2, .int (nI k2)), (1, .int (nI k1)), (0, .ref o)]) hx hb dX4_change_28 hl (by decide) rfl (fun ls hl => ?_)
  refine lv_aload_n hx hb dX4_change_30 rfl (lv_at hl 2 rfl) ?_
  refine lv_astore (lv' := [(6, .ref (la k1)), (5, .int (nI 0)), (4, .ref b1), (3, .ref (la k1)), (2, .int (nI k2)), (1, .int (nI k1)), (0, .ref o)]) hx hb dX4_change_31 hl (by decide) rfl (fun ls hl => ?_)
  refine lv_aload hx hb dX4_change_33 (lv_at hl 0 rfl) ?_
  refine q_len hx hb hK 5 rfl (hi1.old hwk).1 dX4_change_35 ?_
  refine lv_istore (lv' := [(7, .int (nI ((L k1).1))), (6, .ref (la k1)), (5, .int (nI 0)), (4, .ref b1), (3, .ref (la k1)), (2, .int (nI k2)), (1, .int (nI k1)), (0, .ref o)]) hx hb dX4_change_36 hl (by decide) rfl (fun ls hl => ?_)
  refine lv_iconst (v := nI 0) hx hb dX4_change_38 (by decide) ?_
  refine lv_istore (lv' := [(8, .int (nI 0)), (7, .int (nI ((L k1).1))), (6, .ref (la k1)), (5, .int (nI 0)), (4, .ref b1), (3, .ref (la k1)), (2, .int (nI k2)), (1, .int (nI k1)), (0, .ref o)]) hx hb dX4_change_39 hl (by decide) rfl (fun ls hl => ?_)
  refine q_for (fun (i : Nat) (H : Heap) (locs : List Loc) (ls : Array Slot) => va_S A s.heap H locs ∧ lv_has ls 10 [(8, .int (nI i)), (7, .int (nI ((L k1).1))), (6, .ref (la k1)), (5, .int (nI (mostN (L k1) i))), (4, .ref b1), (3, .ref (la k1)), (2, .int (nI k2)), (1, .int (nI k1)), (0, .ref o)] ∧ ILA D T b1 b1 (fun _ => 0) 0 (fun _ => 0) (fun _ => 0) H ∧ ∀ z : Nat, z < Hw.size → H[z]? = Hw[z]?) (N := ((L k1).1)) 0 (by omega) ?_ ?_ ?_
  · skip
    have e1 : nI 0 = nI (mostN (L k1) 0) := by rfl
    exact ⟨hS, lv_sub (lv_ex hl 3 rfl (congrArg Value.int e1)) [0, 1, 2, 3, 4, 5, 6, 7, 8] rfl, (by exact hil), (by exact hwk)⟩
  · skip
    intro i H locs ls hi9 hin9 hnext
    obtain ⟨hS, hl, hil, hwk⟩ := hin9
    have hmo9 := mostN_le hR1 (show i ≤ (L k1).1 by omega)
    refine lv_iload hx hb dX4_change_41 (lv_at hl 0 rfl) ?_
    refine lv_iload hx hb dX4_change_43 (lv_at hl 1 rfl) ?_
    refine lv_icmp_ge (tgt := 79) hx hb dX4_change_45 (by decide) (fun c45 => ?_) (fun c45 => ?_)
    · skip
      have c45 : (L k1).1 ≤ i := (nc_le (a := (L k1).1) (b := i) (by omega) (by omega)).mp c45
      omega
    · skip
      have c45 : ¬ ((L k1).1 ≤ i) := fun q9 => c45 ((nc_le (a := (L k1).1) (b := i) (by omega) (by omega)).mpr q9)
      have hsp9 := hR1.sp (show i < (L k1).1 by omega)
      refine lv_aload hx hb dX4_change_48 (lv_at hl 2 rfl) ?_
      refine lv_iload hx hb dX4_change_50 (lv_at hl 0 rfl) ?_
      refine q_aald hx hb hK 5 rfl rfl (hi1.old hwk).1 i rfl (by omega) (by omega) (b := ads1 i) rfl dX4_change_52 ?_
      refine lv_astore (lv' := [(9, .ref (ads1 i)), (8, .int (nI i)), (7, .int (nI ((L k1).1))), (6, .ref (la k1)), (5, .int (nI (mostN (L k1) i))), (4, .ref b1), (3, .ref (la k1)), (2, .int (nI k2)), (1, .int (nI k1)), (0, .ref o)]) hx hb dX4_change_53 hl (by decide) rfl (fun ls hl => ?_)
      refine lv_iload hx hb dX4_change_55 (lv_at hl 4 rfl) ?_
      refine lv_aload hx hb dX4_change_57 (lv_at hl 0 rfl) ?_
      refine vp_callSi (va_runS (As := [.ref (ads1 i)]) (rest := [.int (nI (mostN (L k1) i))]) ⟨hx, hb, hml, hown, hts⟩ (conX4_end l D T (ads1 i) ((L k1).2.1 i) ((L k1).2.2 i) (by omega) (by omega)) (va_cwS 1 hts gX4_change_X4_end rfl rfl rfl (by decide +kernel) ⟨Nat.le_of_ble_eq_true rfl, Nat.le_of_ble_eq_true rfl⟩) (preS hK (((hi1.old hwk).2 i (by omega)).2)) rfl rfl hl.1 rfl (lv_room (Nat.le_of_ble_eq_true rfl)) dX4_change_59 ⟨by show _ ≤ 310; omega, by show _ ≤ 11000; omega⟩).run (fun r2 hr2 => ?_)
      rw [hr2]
      refine W.eq (g2 := F0 m 62 ls [.int (nI (((L k1).2.2 i + 1) / 2)), .int (nI (mostN (L k1) i))]) rfl ?_
      refine lv_aload hx hb dX4_change_62 (lv_at hl 0 rfl) ?_
      refine vp_callSi (va_runS (As := [.ref (ads1 i)]) (rest := [.int (nI (((L k1).2.2 i + 1) / 2)), .int (nI (mostN (L k1) i))]) ⟨hx, hb, hml, hown, hts⟩ (conX4_begin l D T (ads1 i) ((L k1).2.1 i) ((L k1).2.2 i) (by omega) (by omega)) (va_cwS 1 hts gX4_change_X4_begin rfl rfl rfl (by decide +kernel) ⟨Nat.le_of_ble_eq_true rfl, Nat.le_of_ble_eq_true rfl⟩) (preS hK (((hi1.old hwk).2 i (by omega)).2)) rfl rfl hl.1 rfl (lv_room (Nat.le_of_ble_eq_true rfl)) dX4_change_64 ⟨by show _ ≤ 310; omega, by show _ ≤ 11000; omega⟩).run (fun r3 hr3 => ?_)
      rw [hr3]
      refine lv_isub hx hb dX4_change_67 ?_
      rw [pk_sub (a := ((L k1).2.2 i + 1) / 2) (b := ((L k1).2.1 i) / 2) (by omega)]
      refine va_mmax hx hb (hml.trans hl.1.symm) hown (hts (.methodLink RX4 71 Lib.Math.max.name) (by decide +kernel)) (hts (.static Lib.Math.max.name) (by decide +kernel)) (hts (.initialized "java/lang/Math") (by decide +kernel)) (hts (.code Lib.Math.max.name Lib.Math.max.code 2 (some .int)) (by decide +kernel)) (Nat.le_of_ble_eq_true rfl) (Nat.le_of_ble_eq_true rfl) (by show _ ≤ 310; omega) (by show _ ≤ 11000; omega) dX4_change_68 ?_
      refine W.eq (g2 := F0 m 71 ls [.int (jmax (nI (mostN (L k1) i)) (nI ((((L k1).2.2 i + 1) / 2) - (((L k1).2.1 i) / 2))))]) rfl ?_
      rw [jmax_nat (a := mostN (L k1) i) (b := (((L k1).2.2 i + 1) / 2) - (((L k1).2.1 i) / 2)) (by omega) (by omega)]
      refine lv_istore (lv' := [(5, .int (nI (max (mostN (L k1) i) ((((L k1).2.2 i + 1) / 2) - (((L k1).2.1 i) / 2))))), (9, .ref (ads1 i)), (8, .int (nI i)), (7, .int (nI ((L k1).1))), (6, .ref (la k1)), (4, .ref b1), (3, .ref (la k1)), (2, .int (nI k2)), (1, .int (nI k1)), (0, .ref o)]) hx hb dX4_change_71 hl (by decide) rfl (fun ls hl => ?_)
      refine lv_iinc (v := nI (i + 1)) (lv' := [(8, .int (nI (i + 1))), (5, .int (nI (max (mostN (L k1) i) ((((L k1).2.2 i + 1) / 2) - (((L k1).2.1 i) / 2))))), (9, .ref (ads1 i)), (7, .int (nI ((L k1).1))), (6, .ref (la k1)), (4, .ref b1), (3, .ref (la k1)), (2, .int (nI k2)), (1, .int (nI k1)), (0, .ref o)]) hx hb dX4_change_73 hl (k := 2) rfl (inc_1 _) (by decide) rfl (fun ls hl => ?_)
      refine lv_goto (tgt := 41) hx hb dX4_change_76 (by decide) ?_
      have e4 : nI (max (mostN (L k1) i) ((((L k1).2.2 i + 1) / 2) - (((L k1).2.1 i) / 2))) = nI (mostN (L k1) (i + 1)) := by (exact congrArg nI (mostN_s _ _).symm)
      exact hnext _ _ _ ⟨hS, lv_sub (lv_ex hl 1 rfl (congrArg Value.int e4)) [0, 3, 4, 1, 5, 6, 7, 8, 9] rfl, (by exact hil), (by exact hwk)⟩
  · skip
    intro H locs ls hin9
    obtain ⟨hS, hl, hil, hwk⟩ := hin9
    have hmo9 := mostN_le hR1 (show (L k1).1 ≤ (L k1).1 by omega)
    refine lv_iload hx hb dX4_change_41 (lv_at hl 0 rfl) ?_
    refine lv_iload hx hb dX4_change_43 (lv_at hl 1 rfl) ?_
    refine lv_icmp_ge (tgt := 79) hx hb dX4_change_45 (by decide) (fun c45 => ?_) (fun c45 => ?_)
    · skip
      have c45 : (L k1).1 ≤ (L k1).1 := (nc_le (a := (L k1).1) (b := (L k1).1) (by omega) (by omega)).mp c45
      rcases (show k2 = 0 ∨ k2 = 1 ∨ k2 = 2 ∨ k2 = 3 ∨ k2 = 4 ∨ k2 = 5 ∨ k2 = 6 ∨ k2 = 7 by omega) with rfl | rfl | rfl | rfl | rfl | rfl | rfl | rfl
      · skip
        refine lv_iconst (v := nI 0) hx hb dX4_change_79 (by decide) ?_
        refine lv_istore (lv' := [(6, .int (nI 0)), (8, .int (nI ((L k1).1))), (7, .int (nI ((L k1).1))), (5, .int (nI (mostN (L k1) ((L k1).1)))), (4, .ref b1), (3, .ref (la k1)), (2, .int (nI 0)), (1, .int (nI k1)), (0, .ref o)]) hx hb dX4_change_80 hl (by decide) rfl (fun ls hl => ?_)
        refine q_forg (fun (i : Nat) (H : Heap) (locs : List Loc) (ls : Array Slot) => va_S A s.heap H locs ∧ lv_has ls 10 [(6, .int (nI i)), (4, .ref b1), (3, .ref (la k1)), (2, .int (nI 0)), (1, .int (nI k1)), (0, .ref o)] ∧ ILA D T b1 b1 (fun _ => 0) 0 (fun _ => 0) (fun _ => 0) H ∧ ∀ z : Nat, z < Hw.size → H[z]? = Hw[z]?) ((L k1).1) 1 2 ?_ ?_ ?_
        · skip
          exact ⟨hS, lv_sub hl [0, 4, 5, 6, 7, 8] rfl, (by exact hil), (by exact hwk)⟩
        · skip
          intro i H locs ls hi9 hin9 hnext
          obtain ⟨hS, hl, hil, hwk⟩ := hin9
          refine lv_iload hx hb dX4_change_82 (lv_at hl 0 rfl) ?_
          refine lv_aload_n hx hb dX4_change_84 rfl (lv_at hl 2 rfl) ?_
          refine q_len hx hb hK 5 rfl (hi1.old hwk).1 dX4_change_85 ?_
          refine lv_icmp_ge (tgt := 450) hx hb dX4_change_86 (by decide) (fun c86 => ?_) (fun c86 => ?_)
          · skip
            have c86 : (L k1).1 ≤ i := (nc_le (a := (L k1).1) (b := i) (by omega) (by omega)).mp c86
            omega
          · skip
            have c86 : ¬ ((L k1).1 ≤ i) := fun q9 => c86 ((nc_le (a := (L k1).1) (b := i) (by omega) (by omega)).mpr q9)
            have hsp9 := hR1.sp (show i < (L k1).1 by omega)
            refine lv_iconst (v := nI 2) hx hb dX4_change_89 (by decide) ?_
            have hlw9 := hil.low
            obtain ⟨b2, hb2⟩ : ∃ z : Nat, z = H.size := ⟨_, rfl⟩
            have ln_b2 : s.heap.size ≤ b2 := by have h8 := hS.1; omega
            have lw_b2 : Hw.size ≤ b2 := by have h8 := kp_sz hwk; omega
            refine q_newi hx hb (hts (.arrayClass .int) (by decide +kernel)) hK 2 rfl (by decide) (by show _ ≤ 310; omega) (by show _ ≤ 11000; omega) hS dX4_change_90 (fun H1 hw9 z1 o1 hS => ?_)
            rw [← hb2] at hw9 ⊢
            have nb2 := hw9
            have sb2 : H1.size = b2 + 1 := by omega
            replace hwk := fun (z : Nat) (hz : z < Hw.size) => (o1 z (by omega)).trans (hwk z hz)
            replace hil := hil.old o1
            refine lv_dup hx hb dX4_change_92 rfl ?_
            refine lv_iconst (v := nI 0) hx hb dX4_change_93 (by decide) ?_
            refine lv_aload_n hx hb dX4_change_94 rfl (lv_at hl 2 rfl) ?_
            refine lv_iload hx hb dX4_change_95 (lv_at hl 0 rfl) ?_
            refine q_aald hx hb hK 5 rfl rfl (hi1.old hwk).1 i rfl (by omega) (by omega) (b := ads1 i) rfl dX4_change_97 ?_
            refine lv_iconst (v := nI 0) hx hb dX4_change_98 (by decide) ?_
            refine q_iald hx hb hK ((hi1.old hwk).2 i (by omega)).2 0 (rfl) (by omega) (by decide) dX4_change_99 ?_
            refine W.eq (g2 := F0 m 100 ls [.int (nI ((L k1).2.1 i)), .int (nI 0), .ref b2, .ref b2]) rfl ?_
            refine q_iast hx hb hK nb2 0 (rfl) (by omega) (by decide) hS (hA _ (by omega)) dX4_change_100 (fun H1 locs1 hw9 hz oq hS => ?_)
            have nb2 := hw9
            replace hwk := fun (z : Nat) (hz : z < Hw.size) => (oq z (by omega)).trans (hwk z hz)
            replace hil := hil.ne hlw9 (by omega) oq
            refine lv_dup hx hb dX4_change_101 rfl ?_
            refine lv_iconst (v := nI 1) hx hb dX4_change_102 (by decide) ?_
            refine lv_aload_n hx hb dX4_change_103 rfl (lv_at hl 2 rfl) ?_
            refine lv_iload hx hb dX4_change_104 (lv_at hl 0 rfl) ?_
            refine q_aald hx hb hK 5 rfl rfl (hi1.old hwk).1 i rfl (by omega) (by omega) (b := ads1 i) rfl dX4_change_106 ?_
            refine lv_iconst (v := nI 1) hx hb dX4_change_107 (by decide) ?_
            refine q_iald hx hb hK ((hi1.old hwk).2 i (by omega)).2 1 (rfl) (by omega) (by decide) dX4_change_108 ?_
            refine W.eq (g2 := F0 m 109 ls [.int (nI ((L k1).2.2 i)), .int (nI 1), .ref b2, .ref b2]) rfl ?_
            refine q_iast hx hb hK nb2 1 (rfl) (by omega) (by decide) hS (hA _ (by omega)) dX4_change_109 (fun H1 locs1 hw9 hz oq hS => ?_)
            have nb2 := hw9
            replace hwk := fun (z : Nat) (hz : z < Hw.size) => (oq z (by omega)).trans (hwk z hz)
            replace hil := hil.ne hlw9 (by omega) oq
            refine lv_astore (lv' := [(7, .ref b2), (6, .int (nI i)), (4, .ref b1), (3, .ref (la k1)), (2, .int (nI 0)), (1, .int (nI k1)), (0, .ref o)]) hx hb dX4_change_110 hl (by decide) rfl (fun ls hl => ?_)
            refine lv_iload_n hx hb dX4_change_112 rfl (lv_at hl 4 rfl) ?_
            refine lv_iconst (v := nI 1) hx hb dX4_change_113 (by decide) ?_
            refine lv_icmp_ne (tgt := 237) hx hb dX4_change_114 (by decide) (fun c114 => ?_) (fun c114 => ?_)
            · skip
              have c114 : ¬ (0 = 1) := fun q9 => c114 ((nc_eq (a := 0) (b := 1) (by omega) (by omega)).mpr q9)
              refine lv_iload_n hx hb dX4_change_237 rfl (lv_at hl 4 rfl) ?_
              refine lv_iconst (v := nI 2) hx hb dX4_change_238 (by decide) ?_
              refine lv_icmp_ne (tgt := 319) hx hb dX4_change_239 (by decide) (fun c239 => ?_) (fun c239 => ?_)
              · skip
                have c239 : ¬ (0 = 2) := fun q9 => c239 ((nc_eq (a := 0) (b := 2) (by omega) (by omega)).mpr q9)
                refine lv_iload_n hx hb dX4_change_319 rfl (lv_at hl 4 rfl) ?_
                refine lv_iconst (v := nI 3) hx hb dX4_change_320 (by decide) ?_
                refine lv_icmp_ne (tgt := 353) hx hb dX4_change_321 (by decide) (fun c321 => ?_) (fun c321 => ?_)
                · skip
                  have c321 : ¬ (0 = 3) := fun q9 => c321 ((nc_eq (a := 0) (b := 3) (by omega) (by omega)).mpr q9)
                  refine lv_iload_n hx hb dX4_change_353 rfl (lv_at hl 4 rfl) ?_
                  refine lv_iconst (v := nI 4) hx hb dX4_change_354 (by decide) ?_
                  refine lv_icmp_ne (tgt := 408) hx hb dX4_change_355 (by decide) (fun c355 => ?_) (fun c355 => ?_)
                  · skip
                    have c355 : ¬ (0 = 4) := fun q9 => c355 ((nc_eq (a := 0) (b := 4) (by omega) (by omega)).mpr q9)
                    refine lv_iload_n hx hb dX4_change_408 rfl (lv_at hl 4 rfl) ?_
                    refine lv_iconst (v := nI 5) hx hb dX4_change_409 (by decide) ?_
                    refine lv_icmp_ne (tgt := 444) hx hb dX4_change_410 (by decide) (fun c410 => ?_) (fun c410 => ?_)
                    · skip
                      have c410 : ¬ (0 = 5) := fun q9 => c410 ((nc_eq (a := 0) (b := 5) (by omega) (by omega)).mpr q9)
                      refine lv_iinc (v := nI (i + 1)) (lv' := [(6, .int (nI (i + 1))), (7, .ref b2), (4, .ref b1), (3, .ref (la k1)), (2, .int (nI 0)), (1, .int (nI k1)), (0, .ref o)]) hx hb dX4_change_444 hl (k := 1) rfl (inc_1 _) (by decide) rfl (fun ls hl => ?_)
                      refine lv_goto (tgt := 82) hx hb dX4_change_447 (by decide) ?_
                      exact W.widen (by omega) (by omega) (hnext _ _ _ ⟨hS, lv_sub hl [0, 2, 3, 4, 5, 6] rfl, (by exact hil), (by exact hwk)⟩)
                    · skip
                      have c410 : 0 = 5 := (nc_eq (a := 0) (b := 5) (by omega) (by omega)).mp c410
                      omega
                  · skip
                    have c355 : 0 = 4 := (nc_eq (a := 0) (b := 4) (by omega) (by omega)).mp c355
                    omega
                · skip
                  have c321 : 0 = 3 := (nc_eq (a := 0) (b := 3) (by omega) (by omega)).mp c321
                  omega
              · skip
                have c239 : 0 = 2 := (nc_eq (a := 0) (b := 2) (by omega) (by omega)).mp c239
                omega
            · skip
              have c114 : 0 = 1 := (nc_eq (a := 0) (b := 1) (by omega) (by omega)).mp c114
              omega
        · skip
          intro H locs ls hin9
          obtain ⟨hS, hl, hil, hwk⟩ := hin9
          refine lv_iload hx hb dX4_change_82 (lv_at hl 0 rfl) ?_
          refine lv_aload_n hx hb dX4_change_84 rfl (lv_at hl 2 rfl) ?_
          refine q_len hx hb hK 5 rfl (hi1.old hwk).1 dX4_change_85 ?_
          refine lv_icmp_ge (tgt := 450) hx hb dX4_change_86 (by decide) (fun c86 => ?_) (fun c86 => ?_)
          · skip
            have c86 : (L k1).1 ≤ (L k1).1 := (nc_le (a := (L k1).1) (b := (L k1).1) (by omega) (by omega)).mp c86
            refine lv_iload_n hx hb dX4_change_450 rfl (lv_at hl 3 rfl) ?_
            refine lv_if_ne (tgt := 460) hx hb dX4_change_451 (by decide) (fun c451 => ?_) (fun c451 => ?_)
            · skip
              have c451 : ¬ (0 = 0) := fun q9 => c451 ((nc_eq (a := 0) (b := 0) (by omega) (by omega)).mpr q9)
              omega
            · skip
              have c451 : 0 = 0 := (nc_eq (a := 0) (b := 0) (by omega) (by omega)).mp c451
              refine lv_aload_n hx hb dX4_change_454 rfl (lv_at hl 2 rfl) ?_
              obtain ⟨b2, hb2⟩ : ∃ z : Nat, z = H.size := ⟨_, rfl⟩
              have ln_b2 : s.heap.size ≤ b2 := by have h8 := hS.1; omega
              have lw_b2 : Hw.size ≤ b2 := by have h8 := kp_sz hwk; omega
              refine va_callr (va_runS (As := [.ref (la k1)]) (rest := []) ⟨hx, hb, hml, hown, hts⟩ (conX4_gaps l D T b2 (o + 53) (la k1) ads1 (L k1) _ hR1) (va_cwS 1 hts gX4_change_X4_gaps rfl rfl rfl (by decide +kernel) ⟨Nat.le_of_ble_eq_true rfl, Nat.le_of_ble_eq_true rfl⟩) (preS hK ⟨hb2.symm, (hi1.old hwk)⟩) rfl rfl hl.1 rfl (lv_room (Nat.le_of_ble_eq_true rfl)) dX4_change_455 ⟨by show _ ≤ 310; omega, by show _ ≤ 11000; omega⟩) hS (fun q _ h9 => (hA q (by have h8 : b2 ≤ q := h9; omega))) (fun q h9 => (hA q (by have h8 : b2 ≤ q := h9; omega))) (fun u ra t H1 locs1 ht hvm hw9 hB hz1 hk1 hS => ?_)
              try dsimp only at hB
              rw [ht] at hB
              obtain ⟨a5, rfl⟩ : ∃ z, z = ra := ⟨_, rfl⟩
              obtain ⟨hra, S, hrep, adm, hil⟩ := hB
              replace hwk := fun (z : Nat) (hz : z < Hw.size) => (hk1 z (by omega) (fun h9 => by have h8 : b2 ≤ z := h9; omega)).trans (hwk z hz)
              refine lv_astore (lv' := [(4, .ref a5), (6, .int (nI ((L k1).1))), (3, .ref (la k1)), (2, .int (nI 0)), (1, .int (nI k1)), (0, .ref o)]) hx hb dX4_change_458 hl (by decide) rfl (fun ls hl => ?_)
              refine lv_iload_n hx hb dX4_change_460 rfl (lv_at hl 3 rfl) ?_
              refine lv_bipush (v := nI 6) hx hb dX4_change_461 (by decide) ?_
              refine lv_icmp_ne (tgt := 504) hx hb dX4_change_463 (by decide) (fun c463 => ?_) (fun c463 => ?_)
              · skip
                have c463 : ¬ (0 = 6) := fun q9 => c463 ((nc_eq (a := 0) (b := 6) (by omega) (by omega)).mpr q9)
                have hrep : Rep (pB (chgG (F k1) sr 0)) 201 (S) := by rw [chgG_0]; exact chg_r0 hrep
                refine lv_aload_n hx hb dX4_change_504 rfl (lv_at hl 5 rfl) ?_
                refine q_get (v := .ref (o + 38)) hx hb hts hin4 hown hK (hw.ob.kept (hwk _ hw.ob.lt)) rfl 3 (by decide) (hts (.fieldLink RX4 18 "PuddingstoneLineLaw$Stones" "sets" "[[[I") (by decide +kernel)) (fun _ h9 => h9) rfl dX4_change_505 ?_
                refine lv_iload_n hx hb dX4_change_508 rfl (lv_at hl 4 rfl) ?_
                refine lv_aload hx hb dX4_change_509 (lv_at hl 0 rfl) ?_
                refine q_aastq hx hb hK (hw.ss.kept (hwk _ hw.ss.lt)) hil.1 k1 rfl (by omega) (by decide) hS (hA _ (by omega)) dX4_change_511 (fun H1 locs1 hw9 hz oq hS => ?_)
                replace hw := (hw.old hwk).setL (k := k1) (m := a5) (S := S) (by omega) hrep.1.le ⟨_, hil.wk (by omega)⟩ hw9 oq
                replace hil := hil.up (m := o + 53) (by omega) (by omega) (fun z h8 h7 => oq z (by omega))
                refine lv_aload_n hx hb dX4_change_512 rfl (lv_at hl 5 rfl) ?_
                refine q_get (v := .ref (ad 0)) hx hb hts hin4 hown hK hw.ob rfl 0 (by decide) (hts (.fieldLink RX4 10 "PuddingstoneLineLaw$Stones" "m" "LPuddingstoneLine;") (by decide +kernel)) (fun _ h9 => h9) rfl dX4_change_513 ?_
                refine lv_iload_n hx hb dX4_change_516 rfl (lv_at hl 4 rfl) ?_
                refine lv_iload_n hx hb dX4_change_517 rfl (lv_at hl 3 rfl) ?_
                refine va_calli (va_runV (As := [.int (nI k1), .int (nI 0)]) (rest := []) ⟨hx, hb, hml, hown, hts⟩ (conX3_change l D T ad F V sr C k1 0 (by omega) (by omega) hinv.1) (cwV 2 hts gX4_change_X3_change rfl rfl rfl (by decide +kernel) ⟨Nat.le_of_ble_eq_true rfl, Nat.le_of_ble_eq_true rfl⟩) (preV hK hw.pl.o rfl hw.pl) rfl rfl hl.1 rfl (lv_room (Nat.le_of_ble_eq_true rfl)) dX4_change_518 ⟨by show _ ≤ 310; omega, by show _ ≤ 11000; omega⟩) hS (fun q _ h9 => (by obtain ⟨i9, h8, rfl⟩ := h9; exact hA _ (by have := hw.1 i9 h8; omega))) (fun q h9 => (by obtain ⟨i9, h8, rfl⟩ := h9; exact hA _ (by have := hw.1 i9 h8; omega))) (fun r u t H1 locs1 ht hvm hw9 hB hz1 hk1 hS => ?_)
                try dsimp only at hB
                rw [ht] at hB
                rw [hw9]
                replace hil := hil.up (m := o + 53) (by omega) (by omega) (fun z h8 h7 => hk1 z h7 (fun ⟨i9, h6, h5⟩ => by have := hw.1 i9 h6; omega))
                replace hw := hw.setP hB (fun q h1 h2 => hk1 q h1 h2)
                refine lv_aload hx hb dX4_change_521 (lv_at hl 0 rfl) ?_
                refine vp_callSi (va_runS (As := [.ref a5]) (rest := [.int (cntZ (chgG (F k1) sr 0) 201)]) ⟨hx, hb, hml, hown, hts⟩ (conX4_count l D T b2 a5 (fun k => adm k) S.1 S.2.1 S.2.2 (fun k hk => hrep.sp hk) hrep.1.le) (va_cwS 1 hts gX4_change_X4_count rfl rfl rfl (by decide +kernel) ⟨Nat.le_of_ble_eq_true rfl, Nat.le_of_ble_eq_true rfl⟩) (preS hK hil) rfl rfl hl.1 rfl (lv_room (Nat.le_of_ble_eq_true rfl)) dX4_change_523 ⟨by show _ ≤ 310; omega, by show _ ≤ 11000; omega⟩).run (fun r6 hr6 => ?_)
                rw [hr6]
                have hans := ans_cnt hrep
                refine lv_icmp_ne (tgt := 533) hx hb dX4_change_526 (by decide) (fun c526 => ?_) (fun c526 => ?_)
                · skip
                  exact absurd hans c526
                · skip
                  refine lv_iconst (v := nI 1) hx hb dX4_change_529 (by decide) ?_
                  refine lv_goto (tgt := 534) hx hb dX4_change_530 (by decide) ?_
                  refine W.widen (k := 310) (n := 11000) (by first | omega | decide) (by first | omega | decide) ?_
                  exact W.zret (v := nI 1) hx hb hr (rfl) (fun t ht _ => ⟨⟨nI 1, (), rfl, by rfl, by dsimp only; rw [ht]; exact ⟨_, _, _, _, _, _, _, _, _, by omega, (by have h8 := hS.1; omega), hw, hinv.put (chgS_le hinv.1) up_ne (by rw [va_up_s]; exact hrep)⟩⟩, hS.F ht⟩) hS.2.2 dX4_change_534
              · skip
                have c463 : 0 = 6 := (nc_eq (a := 0) (b := 6) (by omega) (by omega)).mp c463
                omega
          · skip
            have c86 : ¬ ((L k1).1 ≤ (L k1).1) := fun q9 => c86 ((nc_le (a := (L k1).1) (b := (L k1).1) (by omega) (by omega)).mpr q9)
            omega
      · skip
        obtain ⟨qq, hqq⟩ : ∃ z, z = pB (dropZ (F k1) 101) := ⟨_, rfl⟩
        have hq := chg_q1 (F k1)
        rw [← hqq] at hq
        refine lv_iconst (v := nI 0) hx hb dX4_change_79 (by decide) ?_
        refine lv_istore (lv' := [(6, .int (nI 0)), (8, .int (nI ((L k1).1))), (7, .int (nI ((L k1).1))), (5, .int (nI (mostN (L k1) ((L k1).1)))), (4, .ref b1), (3, .ref (la k1)), (2, .int (nI 1)), (1, .int (nI k1)), (0, .ref o)]) hx hb dX4_change_80 hl (by decide) rfl (fun ls hl => ?_)
        refine q_forg (fun (i : Nat) (H : Heap) (locs : List Loc) (ls : Array Slot) => ∃ mk : Nat, ∃ adm : Nat → Nat, ∃ S : SL, va_S A s.heap H locs ∧ lv_has ls 10 [(6, .int (nI i)), (5, .int (nI (mostN (L k1) ((L k1).1)))), (4, .ref mk), (3, .ref (la k1)), (2, .int (nI 1)), (1, .int (nI k1)), (0, .ref o)] ∧ b1 ≤ mk ∧ ILA D T b1 mk adm S.1 S.2.1 S.2.2 H ∧ Rep (qq) (frN (L k1) i) S ∧ ∀ z : Nat, z < Hw.size → H[z]? = Hw[z]?) ((L k1).1) 2 104 ?_ ?_ ?_
        · skip
          exact ⟨b1, fun _ => 0, (0, fun _ => 0, fun _ => 0), hS, lv_sub hl [0, 3, 4, 5, 6, 7, 8] rfl, (by omega), (by exact hil), (by rw [frN_0]; exact Rep.nil _ _ _), (by exact hwk)⟩
        · skip
          intro i H locs ls hi9 hin9 hnext
          obtain ⟨mk, adm, S, hS, hl, hmk, hil, hrep, hwk⟩ := hin9
          have hle9 := hrep.1.le
          refine lv_iload hx hb dX4_change_82 (lv_at hl 0 rfl) ?_
          refine lv_aload_n hx hb dX4_change_84 rfl (lv_at hl 3 rfl) ?_
          refine q_len hx hb hK 5 rfl (hi1.old hwk).1 dX4_change_85 ?_
          refine lv_icmp_ge (tgt := 450) hx hb dX4_change_86 (by decide) (fun c86 => ?_) (fun c86 => ?_)
          · skip
            have c86 : (L k1).1 ≤ i := (nc_le (a := (L k1).1) (b := i) (by omega) (by omega)).mp c86
            omega
          · skip
            have c86 : ¬ ((L k1).1 ≤ i) := fun q9 => c86 ((nc_le (a := (L k1).1) (b := i) (by omega) (by omega)).mpr q9)
            have hsp9 := hR1.sp (show i < (L k1).1 by omega)
            have hob9 := op_bd ((L k1).2.1 i) ((L k1).2.2 i)
            refine lv_iconst (v := nI 2) hx hb dX4_change_89 (by decide) ?_
            have hlw9 := hil.low
            obtain ⟨b2, hb2⟩ : ∃ z : Nat, z = H.size := ⟨_, rfl⟩
            have ln_b2 : s.heap.size ≤ b2 := by have h8 := hS.1; omega
            have lw_b2 : Hw.size ≤ b2 := by have h8 := kp_sz hwk; omega
            refine q_newi hx hb (hts (.arrayClass .int) (by decide +kernel)) hK 2 rfl (by decide) (by show _ ≤ 310; omega) (by show _ ≤ 11000; omega) hS dX4_change_90 (fun H1 hw9 z1 o1 hS => ?_)
            rw [← hb2] at hw9 ⊢
            have nb2 := hw9
            have sb2 : H1.size = b2 + 1 := by omega
            replace hwk := fun (z : Nat) (hz : z < Hw.size) => (o1 z (by omega)).trans (hwk z hz)
            replace hil := hil.old o1
            refine lv_dup hx hb dX4_change_92 rfl ?_
            refine lv_iconst (v := nI 0) hx hb dX4_change_93 (by decide) ?_
            refine lv_aload_n hx hb dX4_change_94 rfl (lv_at hl 3 rfl) ?_
            refine lv_iload hx hb dX4_change_95 (lv_at hl 0 rfl) ?_
            refine q_aald hx hb hK 5 rfl rfl (hi1.old hwk).1 i rfl (by omega) (by omega) (b := ads1 i) rfl dX4_change_97 ?_
            refine lv_iconst (v := nI 0) hx hb dX4_change_98 (by decide) ?_
            refine q_iald hx hb hK ((hi1.old hwk).2 i (by omega)).2 0 (rfl) (by omega) (by decide) dX4_change_99 ?_
            refine W.eq (g2 := F0 m 100 ls [.int (nI ((L k1).2.1 i)), .int (nI 0), .ref b2, .ref b2]) rfl ?_
            refine q_iast hx hb hK nb2 0 (rfl) (by omega) (by decide) hS (hA _ (by omega)) dX4_change_100 (fun H1 locs1 hw9 hz oq hS => ?_)
            have nb2 := hw9
            replace hwk := fun (z : Nat) (hz : z < Hw.size) => (oq z (by omega)).trans (hwk z hz)
            replace hil := hil.ne hlw9 (by omega) oq
            refine lv_dup hx hb dX4_change_101 rfl ?_
            refine lv_iconst (v := nI 1) hx hb dX4_change_102 (by decide) ?_
            refine lv_aload_n hx hb dX4_change_103 rfl (lv_at hl 3 rfl) ?_
            refine lv_iload hx hb dX4_change_104 (lv_at hl 0 rfl) ?_
            refine q_aald hx hb hK 5 rfl rfl (hi1.old hwk).1 i rfl (by omega) (by omega) (b := ads1 i) rfl dX4_change_106 ?_
            refine lv_iconst (v := nI 1) hx hb dX4_change_107 (by decide) ?_
            refine q_iald hx hb hK ((hi1.old hwk).2 i (by omega)).2 1 (rfl) (by omega) (by decide) dX4_change_108 ?_
            refine W.eq (g2 := F0 m 109 ls [.int (nI ((L k1).2.2 i)), .int (nI 1), .ref b2, .ref b2]) rfl ?_
            refine q_iast hx hb hK nb2 1 (rfl) (by omega) (by decide) hS (hA _ (by omega)) dX4_change_109 (fun H1 locs1 hw9 hz oq hS => ?_)
            have nb2 := hw9
            replace hwk := fun (z : Nat) (hz : z < Hw.size) => (oq z (by omega)).trans (hwk z hz)
            replace hil := hil.ne hlw9 (by omega) oq
            refine lv_astore (lv' := [(7, .ref b2), (6, .int (nI i)), (5, .int (nI (mostN (L k1) ((L k1).1)))), (4, .ref mk), (3, .ref (la k1)), (2, .int (nI 1)), (1, .int (nI k1)), (0, .ref o)]) hx hb dX4_change_110 hl (by decide) rfl (fun ls hl => ?_)
            refine lv_iload_n hx hb dX4_change_112 rfl (lv_at hl 5 rfl) ?_
            refine lv_iconst (v := nI 1) hx hb dX4_change_113 (by decide) ?_
            refine lv_icmp_ne (tgt := 237) hx hb dX4_change_114 (by decide) (fun c114 => ?_) (fun c114 => ?_)
            · skip
              have c114 : ¬ (1 = 1) := fun q9 => c114 ((nc_eq (a := 1) (b := 1) (by omega) (by omega)).mpr q9)
              omega
            · skip
              have c114 : 1 = 1 := (nc_eq (a := 1) (b := 1) (by omega) (by omega)).mp c114
              by_cases hb0 : (L k1).2.2 i = 0
              · skip
                have hx0 : opX ((L k1).2.1 i) = 0 := by unfold opX; rw [if_neg (by omega)]; omega
                refine lv_aload hx hb dX4_change_117 (lv_at hl 0 rfl) ?_
                refine lv_iconst (v := nI 0) hx hb dX4_change_119 (by decide) ?_
                refine lv_dup2_11 hx hb dX4_change_120 rfl rfl ?_
                refine q_iald hx hb hK nb2 0 (rfl) (by omega) (by decide) dX4_change_121 ?_
                refine W.eq (g2 := F0 m 122 ls [.int (nI ((L k1).2.1 i)), .int (nI 0), .ref b2]) rfl ?_
                refine lv_aload hx hb dX4_change_122 (lv_at hl 0 rfl) ?_
                refine lv_iconst (v := nI 0) hx hb dX4_change_124 (by decide) ?_
                refine q_iald hx hb hK nb2 0 (rfl) (by omega) (by decide) dX4_change_125 ?_
                refine W.eq (g2 := F0 m 126 ls [.int (nI ((L k1).2.1 i)), .int (nI ((L k1).2.1 i)), .int (nI 0), .ref b2]) rfl ?_
                refine lv_iconst (v := nI 2) hx hb dX4_change_126 (by decide) ?_
                refine lv_irem hx hb dX4_change_127 (by decide) ?_
                rw [pk_rem (a := (L k1).2.1 i) (d := 2) (by omega) (by omega) (by omega)]
                refine lv_if_ne (tgt := 142) hx hb dX4_change_128 (by decide) (fun c128 => ?_) (fun c128 => ?_)
                · skip
                  have c128 : ¬ (((L k1).2.1 i) % 2 = 0) := fun q9 => c128 ((nc_eq (a := ((L k1).2.1 i) % 2) (b := 0) (by omega) (by omega)).mpr q9)
                  omega
                · skip
                  have c128 : ((L k1).2.1 i) % 2 = 0 := (nc_eq (a := ((L k1).2.1 i) % 2) (b := 0) (by omega) (by omega)).mp c128
                  refine lv_aload hx hb dX4_change_131 (lv_at hl 0 rfl) ?_
                  refine lv_iconst (v := nI 0) hx hb dX4_change_133 (by decide) ?_
                  refine q_iald hx hb hK nb2 0 (rfl) (by omega) (by decide) dX4_change_134 ?_
                  refine W.eq (g2 := F0 m 135 ls [.int (nI ((L k1).2.1 i)), .int (nI ((L k1).2.1 i)), .int (nI 0), .ref b2]) rfl ?_
                  refine lv_if_le (tgt := 142) hx hb dX4_change_135 (by decide) (fun c135 => ?_) (fun c135 => ?_)
                  · skip
                    have c135 : (L k1).2.1 i ≤ 0 := (nc_le (a := (L k1).2.1 i) (b := 0) (by omega) (by omega)).mp c135
                    refine lv_iconst (v := nI 0) hx hb dX4_change_142 (by decide) ?_
                    refine lv_iadd hx hb dX4_change_143 ?_
                    rw [nI_add]
                    refine q_iast hx hb hK nb2 0 (rfl) (by omega) (by decide) hS (hA _ (by omega)) dX4_change_144 (fun H1 locs1 hw9 hz oq hS => ?_)
                    have nb2 := hw9
                    replace hwk := fun (z : Nat) (hz : z < Hw.size) => (oq z (by omega)).trans (hwk z hz)
                    replace hil := hil.ne hlw9 (by omega) oq
                    refine lv_aload hx hb dX4_change_145 (lv_at hl 0 rfl) ?_
                    refine lv_iconst (v := nI 1) hx hb dX4_change_147 (by decide) ?_
                    refine lv_dup2_11 hx hb dX4_change_148 rfl rfl ?_
                    refine q_iald hx hb hK nb2 1 (rfl) (by omega) (by decide) dX4_change_149 ?_
                    refine W.eq (g2 := F0 m 150 ls [.int (nI ((L k1).2.2 i)), .int (nI 1), .ref b2]) rfl ?_
                    refine lv_aload hx hb dX4_change_150 (lv_at hl 0 rfl) ?_
                    refine lv_iconst (v := nI 1) hx hb dX4_change_152 (by decide) ?_
                    refine q_iald hx hb hK nb2 1 (rfl) (by omega) (by decide) dX4_change_153 ?_
                    refine W.eq (g2 := F0 m 154 ls [.int (nI ((L k1).2.2 i)), .int (nI ((L k1).2.2 i)), .int (nI 1), .ref b2]) rfl ?_
                    refine lv_iconst (v := nI 2) hx hb dX4_change_154 (by decide) ?_
                    refine lv_irem hx hb dX4_change_155 (by decide) ?_
                    rw [pk_rem (a := (L k1).2.2 i) (d := 2) (by omega) (by omega) (by omega)]
                    refine lv_if_ne (tgt := 173) hx hb dX4_change_156 (by decide) (fun c156 => ?_) (fun c156 => ?_)
                    · skip
                      have c156 : ¬ (((L k1).2.2 i) % 2 = 0) := fun q9 => c156 ((nc_eq (a := ((L k1).2.2 i) % 2) (b := 0) (by omega) (by omega)).mpr q9)
                      omega
                    · skip
                      have c156 : ((L k1).2.2 i) % 2 = 0 := (nc_eq (a := ((L k1).2.2 i) % 2) (b := 0) (by omega) (by omega)).mp c156
                      refine lv_aload hx hb dX4_change_159 (lv_at hl 0 rfl) ?_
                      refine lv_iconst (v := nI 1) hx hb dX4_change_161 (by decide) ?_
                      refine q_iald hx hb hK nb2 1 (rfl) (by omega) (by decide) dX4_change_162 ?_
                      refine W.eq (g2 := F0 m 163 ls [.int (nI ((L k1).2.2 i)), .int (nI ((L k1).2.2 i)), .int (nI 1), .ref b2]) rfl ?_
                      refine lv_sipush (v := nI 200) hx hb dX4_change_163 (by decide) ?_
                      refine lv_icmp_ge (tgt := 173) hx hb dX4_change_166 (by decide) (fun c166 => ?_) (fun c166 => ?_)
                      · skip
                        have c166 : 200 ≤ (L k1).2.2 i := (nc_le (a := 200) (b := (L k1).2.2 i) (by omega) (by omega)).mp c166
                        omega
                      · skip
                        have c166 : ¬ (200 ≤ (L k1).2.2 i) := fun q9 => c166 ((nc_le (a := 200) (b := (L k1).2.2 i) (by omega) (by omega)).mpr q9)
                        refine lv_iconst (v := nI 1) hx hb dX4_change_169 (by decide) ?_
                        refine lv_goto (tgt := 174) hx hb dX4_change_170 (by decide) ?_
                        refine lv_isub hx hb dX4_change_174 ?_
                        refine q_iast hx hb hK nb2 1 (rfl) (by omega) (by decide) hS (hA _ (by omega)) dX4_change_175 (fun H1 locs1 hw9 hz oq hS => ?_)
                        have nb2 := hw9
                        replace hwk := fun (z : Nat) (hz : z < Hw.size) => (oq z (by omega)).trans (hwk z hz)
                        replace hil := hil.ne hlw9 (by omega) oq
                        refine lv_aload hx hb dX4_change_176 (lv_at hl 0 rfl) ?_
                        refine lv_iconst (v := nI 0) hx hb dX4_change_178 (by decide) ?_
                        refine q_iald hx hb hK nb2 0 (rfl) (by omega) (by decide) dX4_change_179 ?_
                        refine W.eq (g2 := F0 m 180 ls [.int (nI (((L k1).2.1 i) + 0))]) rfl ?_
                        refine lv_if_ne (tgt := 192) hx hb dX4_change_180 (by decide) (fun c180 => ?_) (fun c180 => ?_)
                        · skip
                          have c180 : ¬ (((L k1).2.1 i) + 0 = 0) := fun q9 => c180 ((nc_eq (a := ((L k1).2.1 i) + 0) (b := 0) (by omega) (by omega)).mpr q9)
                          omega
                        · skip
                          have c180 : ((L k1).2.1 i) + 0 = 0 := (nc_eq (a := ((L k1).2.1 i) + 0) (b := 0) (by omega) (by omega)).mp c180
                          refine lv_aload_n hx hb dX4_change_183 rfl (lv_at hl 4 rfl) ?_
                          refine lv_iload hx hb dX4_change_184 (lv_at hl 1 rfl) ?_
                          refine q_aald hx hb hK 5 rfl rfl (hi1.old hwk).1 i rfl (by omega) (by omega) (b := ads1 i) rfl dX4_change_186 ?_
                          refine lv_iconst (v := nI 1) hx hb dX4_change_187 (by decide) ?_
                          refine q_iald hx hb hK ((hi1.old hwk).2 i (by omega)).2 1 (rfl) (by omega) (by decide) dX4_change_188 ?_
                          refine W.eq (g2 := F0 m 189 ls [.int (nI ((L k1).2.2 i))]) rfl ?_
                          refine lv_if_eq (tgt := 444) hx hb dX4_change_189 (by decide) (fun c189 => ?_) (fun c189 => ?_)
                          · skip
                            have c189 : (L k1).2.2 i = 0 := (nc_eq (a := (L k1).2.2 i) (b := 0) (by omega) (by omega)).mp c189
                            refine lv_iinc (v := nI (i + 1)) (lv' := [(6, .int (nI (i + 1))), (7, .ref b2), (5, .int (nI (mostN (L k1) ((L k1).1)))), (4, .ref mk), (3, .ref (la k1)), (2, .int (nI 1)), (1, .int (nI k1)), (0, .ref o)]) hx hb dX4_change_444 hl (k := 1) rfl (inc_1 _) (by decide) rfl (fun ls hl => ?_)
                            refine lv_goto (tgt := 82) hx hb dX4_change_447 (by decide) ?_
                            exact W.widen (by omega) (by omega) (hnext _ _ _ ⟨mk, adm, S, hS, lv_sub hl [0, 2, 3, 4, 5, 6, 7] rfl, (by omega), (by exact hil), (by first | exact op_y hR1 hq (by omega) hrep (by omega) (by omega) (by omega) | exact op_n hR1 hq (by omega) hrep (by omega)), (by exact hwk)⟩)
                          · skip
                            have c189 : ¬ ((L k1).2.2 i = 0) := fun q9 => c189 ((nc_eq (a := (L k1).2.2 i) (b := 0) (by omega) (by omega)).mpr q9)
                            omega
                  · skip
                    have c135 : ¬ ((L k1).2.1 i ≤ 0) := fun q9 => c135 ((nc_le (a := (L k1).2.1 i) (b := 0) (by omega) (by omega)).mpr q9)
                    omega
              · skip
                refine lv_aload hx hb dX4_change_117 (lv_at hl 0 rfl) ?_
                refine lv_iconst (v := nI 0) hx hb dX4_change_119 (by decide) ?_
                refine lv_dup2_11 hx hb dX4_change_120 rfl rfl ?_
                refine q_iald hx hb hK nb2 0 (rfl) (by omega) (by decide) dX4_change_121 ?_
                refine W.eq (g2 := F0 m 122 ls [.int (nI ((L k1).2.1 i)), .int (nI 0), .ref b2]) rfl ?_
                refine W.join (g2 := F0 m 143 ls [.int (nI (opD ((L k1).2.1 i))), .int (nI ((L k1).2.1 i)), .int (nI 0), .ref b2]) ?_ (fun kk => ?_)
                · skip
                  refine lv_iadd hx hb dX4_change_143 ?_
                  rw [nI_add]
                  refine W.eq (congrArg (fun z9 => F0 m 144 ls [.int (nI z9), .int (nI 0), .ref b2]) (opX_e ((L k1).2.1 i))) ?_
                  refine q_iast hx hb hK nb2 0 (rfl) (by omega) (by decide) hS (hA _ (by omega)) dX4_change_144 (fun H1 locs1 hw9 hz oq hS => ?_)
                  have nb2 := hw9
                  replace hwk := fun (z : Nat) (hz : z < Hw.size) => (oq z (by omega)).trans (hwk z hz)
                  replace hil := hil.ne hlw9 (by omega) oq
                  refine lv_aload hx hb dX4_change_145 (lv_at hl 0 rfl) ?_
                  refine lv_iconst (v := nI 1) hx hb dX4_change_147 (by decide) ?_
                  refine lv_dup2_11 hx hb dX4_change_148 rfl rfl ?_
                  refine q_iald hx hb hK nb2 1 (rfl) (by omega) (by decide) dX4_change_149 ?_
                  refine W.eq (g2 := F0 m 150 ls [.int (nI ((L k1).2.2 i)), .int (nI 1), .ref b2]) rfl ?_
                  refine W.join (g2 := F0 m 174 ls [.int (nI (opE ((L k1).2.2 i))), .int (nI ((L k1).2.2 i)), .int (nI 1), .ref b2]) ?_ (fun kk => ?_)
                  · skip
                    have hoe9 : opE ((L k1).2.2 i) ≤ (L k1).2.2 i := opE_le (by omega)
                    refine lv_isub hx hb dX4_change_174 ?_
                    rw [pk_sub (a := (L k1).2.2 i) (b := opE ((L k1).2.2 i)) (by omega)]
                    refine W.eq (congrArg (fun z9 => F0 m 175 ls [.int (nI z9), .int (nI 1), .ref b2]) (opY_e ((L k1).2.2 i))) ?_
                    refine q_iast hx hb hK nb2 1 (rfl) (by omega) (by decide) hS (hA _ (by omega)) dX4_change_175 (fun H1 locs1 hw9 hz oq hS => ?_)
                    have nb2 := hw9
                    replace hwk := fun (z : Nat) (hz : z < Hw.size) => (oq z (by omega)).trans (hwk z hz)
                    replace hil := hil.ne hlw9 (by omega) oq
                    refine W.joinP (P := True) (g2 := F0 m 192 ls []) (fun hj192 => ?_) (fun kk => ?_)
                    · skip
                      refine W.joinP (P := ¬ (opY ((L k1).2.2 i) = 200 ∧ (L k1).2.1 i = 200)) (g2 := F0 m 217 ls []) (fun hj217 => ?_) (fun kk => ?_)
                      · skip
                        refine lv_aload hx hb dX4_change_217 (lv_at hl 0 rfl) ?_
                        refine lv_iconst (v := nI 1) hx hb dX4_change_219 (by decide) ?_
                        refine q_iald hx hb hK nb2 1 (rfl) (by omega) (by decide) dX4_change_220 ?_
                        refine W.eq (g2 := F0 m 221 ls [.int (nI (opY ((L k1).2.2 i)))]) rfl ?_
                        refine lv_aload hx hb dX4_change_221 (lv_at hl 0 rfl) ?_
                        refine lv_iconst (v := nI 0) hx hb dX4_change_223 (by decide) ?_
                        refine q_iald hx hb hK nb2 0 (rfl) (by omega) (by decide) dX4_change_224 ?_
                        refine W.eq (g2 := F0 m 225 ls [.int (nI (opX ((L k1).2.1 i))), .int (nI (opY ((L k1).2.2 i)))]) rfl ?_
                        refine lv_icmp_lt (tgt := 237) hx hb dX4_change_225 (by decide) (fun c225 => ?_) (fun c225 => ?_)
                        · skip
                          have c225 : opY ((L k1).2.2 i) < opX ((L k1).2.1 i) := (nc_lt (a := opY ((L k1).2.2 i)) (b := opX ((L k1).2.1 i)) (by omega) (by omega)).mp c225
                          refine lv_iload_n hx hb dX4_change_237 rfl (lv_at hl 5 rfl) ?_
                          refine lv_iconst (v := nI 2) hx hb dX4_change_238 (by decide) ?_
                          refine lv_icmp_ne (tgt := 319) hx hb dX4_change_239 (by decide) (fun c239 => ?_) (fun c239 => ?_)
                          · skip
                            have c239 : ¬ (1 = 2) := fun q9 => c239 ((nc_eq (a := 1) (b := 2) (by omega) (by omega)).mpr q9)
                            refine lv_iload_n hx hb dX4_change_319 rfl (lv_at hl 5 rfl) ?_
                            refine lv_iconst (v := nI 3) hx hb dX4_change_320 (by decide) ?_
                            refine lv_icmp_ne (tgt := 353) hx hb dX4_change_321 (by decide) (fun c321 => ?_) (fun c321 => ?_)
                            · skip
                              have c321 : ¬ (1 = 3) := fun q9 => c321 ((nc_eq (a := 1) (b := 3) (by omega) (by omega)).mpr q9)
                              refine lv_iload_n hx hb dX4_change_353 rfl (lv_at hl 5 rfl) ?_
                              refine lv_iconst (v := nI 4) hx hb dX4_change_354 (by decide) ?_
                              refine lv_icmp_ne (tgt := 408) hx hb dX4_change_355 (by decide) (fun c355 => ?_) (fun c355 => ?_)
                              · skip
                                have c355 : ¬ (1 = 4) := fun q9 => c355 ((nc_eq (a := 1) (b := 4) (by omega) (by omega)).mpr q9)
                                refine lv_iload_n hx hb dX4_change_408 rfl (lv_at hl 5 rfl) ?_
                                refine lv_iconst (v := nI 5) hx hb dX4_change_409 (by decide) ?_
                                refine lv_icmp_ne (tgt := 444) hx hb dX4_change_410 (by decide) (fun c410 => ?_) (fun c410 => ?_)
                                · skip
                                  have c410 : ¬ (1 = 5) := fun q9 => c410 ((nc_eq (a := 1) (b := 5) (by omega) (by omega)).mpr q9)
                                  refine lv_iinc (v := nI (i + 1)) (lv' := [(6, .int (nI (i + 1))), (7, .ref b2), (5, .int (nI (mostN (L k1) ((L k1).1)))), (4, .ref mk), (3, .ref (la k1)), (2, .int (nI 1)), (1, .int (nI k1)), (0, .ref o)]) hx hb dX4_change_444 hl (k := 1) rfl (inc_1 _) (by decide) rfl (fun ls hl => ?_)
                                  refine lv_goto (tgt := 82) hx hb dX4_change_447 (by decide) ?_
                                  exact W.widen (by omega) (by omega) (hnext _ _ _ ⟨mk, adm, S, hS, lv_sub hl [0, 2, 3, 4, 5, 6, 7] rfl, (by omega), (by exact hil), (by first | exact op_y hR1 hq (by omega) hrep (by omega) (by omega) (by omega) | exact op_n hR1 hq (by omega) hrep (by omega)), (by exact hwk)⟩)
                                · skip
                                  have c410 : 1 = 5 := (nc_eq (a := 1) (b := 5) (by omega) (by omega)).mp c410
                                  omega
                              · skip
                                have c355 : 1 = 4 := (nc_eq (a := 1) (b := 4) (by omega) (by omega)).mp c355
                                omega
                            · skip
                              have c321 : 1 = 3 := (nc_eq (a := 1) (b := 3) (by omega) (by omega)).mp c321
                              omega
                          · skip
                            have c239 : 1 = 2 := (nc_eq (a := 1) (b := 2) (by omega) (by omega)).mp c239
                            omega
                        · skip
                          have c225 : ¬ (opY ((L k1).2.2 i) < opX ((L k1).2.1 i)) := fun q9 => c225 ((nc_lt (a := opY ((L k1).2.2 i)) (b := opX ((L k1).2.1 i)) (by omega) (by omega)).mpr q9)
                          refine lv_aload hx hb dX4_change_228 (lv_at hl 3 rfl) ?_
                          refine lv_aload hx hb dX4_change_230 (lv_at hl 0 rfl) ?_
                          obtain ⟨b3, hb3⟩ : ∃ z : Nat, z = H1.size := ⟨_, rfl⟩
                          have lnb2_b3 : b2 < b3 := by have h8 := nb2.lt; omega
                          have ln_b3 : s.heap.size ≤ b3 := by have h8 := hS.1; omega
                          have lw_b3 : Hw.size ≤ b3 := by have h8 := kp_sz hwk; omega
                          refine va_callr (va_runS (As := [.ref mk, .ref b2]) (rest := []) ⟨hx, hb, hml, hown, hts⟩ (conX4_with l D T b3 b1 mk b2 (opX ((L k1).2.1 i)) (opY ((L k1).2.2 i)) (fun k => adm k) S.1 S.2.1 S.2.2 (by omega) (by omega)) (va_cwS 2 hts gX4_change_X4_with rfl rfl rfl (by decide +kernel) ⟨Nat.le_of_ble_eq_true rfl, Nat.le_of_ble_eq_true rfl⟩) (preS hK ⟨hb3.symm, hil, nb2.outN (pr2_g _ _ _)⟩) rfl rfl hl.1 rfl (lv_room (Nat.le_of_ble_eq_true rfl)) dX4_change_232 ⟨by show _ ≤ 310; omega, by show _ ≤ 11000; omega⟩) hS (fun q _ h9 => (hA q (by have h8 : b3 ≤ q := h9; omega))) (fun q h9 => (hA q (by have h8 : b3 ≤ q := h9; omega))) (fun u ra t H1 locs1 ht hvm hw9 hB hz1 hk1 hS => ?_)
                          try dsimp only at hB
                          rw [ht] at hB
                          obtain ⟨a7, rfl⟩ : ∃ z, z = ra := ⟨_, rfl⟩
                          obtain ⟨hra, hz9, hil⟩ := hB
                          subst hra
                          replace hwk := fun (z : Nat) (hz : z < Hw.size) => (hk1 z (by omega) (fun h9 => by have h8 : a7 ≤ z := h9; omega)).trans (hwk z hz)
                          refine lv_astore (lv' := [(4, .ref a7), (7, .ref b2), (6, .int (nI i)), (5, .int (nI (mostN (L k1) ((L k1).1)))), (3, .ref (la k1)), (2, .int (nI 1)), (1, .int (nI k1)), (0, .ref o)]) hx hb dX4_change_235 hl (by decide) rfl (fun ls hl => ?_)
                          refine lv_iload_n hx hb dX4_change_237 rfl (lv_at hl 5 rfl) ?_
                          refine lv_iconst (v := nI 2) hx hb dX4_change_238 (by decide) ?_
                          refine lv_icmp_ne (tgt := 319) hx hb dX4_change_239 (by decide) (fun c239 => ?_) (fun c239 => ?_)
                          · skip
                            have c239 : ¬ (1 = 2) := fun q9 => c239 ((nc_eq (a := 1) (b := 2) (by omega) (by omega)).mpr q9)
                            refine lv_iload_n hx hb dX4_change_319 rfl (lv_at hl 5 rfl) ?_
                            refine lv_iconst (v := nI 3) hx hb dX4_change_320 (by decide) ?_
                            refine lv_icmp_ne (tgt := 353) hx hb dX4_change_321 (by decide) (fun c321 => ?_) (fun c321 => ?_)
                            · skip
                              have c321 : ¬ (1 = 3) := fun q9 => c321 ((nc_eq (a := 1) (b := 3) (by omega) (by omega)).mpr q9)
                              refine lv_iload_n hx hb dX4_change_353 rfl (lv_at hl 5 rfl) ?_
                              refine lv_iconst (v := nI 4) hx hb dX4_change_354 (by decide) ?_
                              refine lv_icmp_ne (tgt := 408) hx hb dX4_change_355 (by decide) (fun c355 => ?_) (fun c355 => ?_)
                              · skip
                                have c355 : ¬ (1 = 4) := fun q9 => c355 ((nc_eq (a := 1) (b := 4) (by omega) (by omega)).mpr q9)
                                refine lv_iload_n hx hb dX4_change_408 rfl (lv_at hl 5 rfl) ?_
                                refine lv_iconst (v := nI 5) hx hb dX4_change_409 (by decide) ?_
                                refine lv_icmp_ne (tgt := 444) hx hb dX4_change_410 (by decide) (fun c410 => ?_) (fun c410 => ?_)
                                · skip
                                  have c410 : ¬ (1 = 5) := fun q9 => c410 ((nc_eq (a := 1) (b := 5) (by omega) (by omega)).mpr q9)
                                  refine lv_iinc (v := nI (i + 1)) (lv' := [(6, .int (nI (i + 1))), (4, .ref a7), (7, .ref b2), (5, .int (nI (mostN (L k1) ((L k1).1)))), (3, .ref (la k1)), (2, .int (nI 1)), (1, .int (nI k1)), (0, .ref o)]) hx hb dX4_change_444 hl (k := 2) rfl (inc_1 _) (by decide) rfl (fun ls hl => ?_)
                                  refine lv_goto (tgt := 82) hx hb dX4_change_447 (by decide) ?_
                                  exact W.widen (by omega) (by omega) (hnext _ _ _ ⟨a7, fun k => if k = S.1 then b2 else adm k, snocS S (opX ((L k1).2.1 i)) (opY ((L k1).2.2 i)), hS, lv_sub hl [0, 3, 1, 4, 5, 6, 7] rfl, (by omega), (by exact hil), (by first | exact op_y hR1 hq (by omega) hrep (by omega) (by omega) (by omega) | exact op_n hR1 hq (by omega) hrep (by omega)), (by exact hwk)⟩)
                                · skip
                                  have c410 : 1 = 5 := (nc_eq (a := 1) (b := 5) (by omega) (by omega)).mp c410
                                  omega
                              · skip
                                have c355 : 1 = 4 := (nc_eq (a := 1) (b := 4) (by omega) (by omega)).mp c355
                                omega
                            · skip
                              have c321 : 1 = 3 := (nc_eq (a := 1) (b := 3) (by omega) (by omega)).mp c321
                              omega
                          · skip
                            have c239 : 1 = 2 := (nc_eq (a := 1) (b := 2) (by omega) (by omega)).mp c239
                            omega
                      · skip
                        refine lv_aload hx hb dX4_change_192 (lv_at hl 0 rfl) ?_
                        refine lv_iconst (v := nI 1) hx hb dX4_change_194 (by decide) ?_
                        refine q_iald hx hb hK nb2 1 (rfl) (by omega) (by decide) dX4_change_195 ?_
                        refine W.eq (g2 := F0 m 196 ls [.int (nI (opY ((L k1).2.2 i)))]) rfl ?_
                        refine lv_sipush (v := nI 200) hx hb dX4_change_196 (by decide) ?_
                        refine lv_icmp_ne (tgt := 217) hx hb dX4_change_199 (by decide) (fun c199 => ?_) (fun c199 => ?_)
                        · skip
                          have c199 : ¬ (opY ((L k1).2.2 i) = 200) := fun q9 => c199 ((nc_eq (a := opY ((L k1).2.2 i)) (b := 200) (by omega) (by omega)).mpr q9)
                          exact kk (by first | trivial | omega)
                        · skip
                          have c199 : opY ((L k1).2.2 i) = 200 := (nc_eq (a := opY ((L k1).2.2 i)) (b := 200) (by omega) (by omega)).mp c199
                          refine lv_aload_n hx hb dX4_change_202 rfl (lv_at hl 4 rfl) ?_
                          refine lv_iload hx hb dX4_change_203 (lv_at hl 1 rfl) ?_
                          refine q_aald hx hb hK 5 rfl rfl (hi1.old hwk).1 i rfl (by omega) (by omega) (b := ads1 i) rfl dX4_change_205 ?_
                          refine lv_iconst (v := nI 0) hx hb dX4_change_206 (by decide) ?_
                          refine q_iald hx hb hK ((hi1.old hwk).2 i (by omega)).2 0 (rfl) (by omega) (by decide) dX4_change_207 ?_
                          refine W.eq (g2 := F0 m 208 ls [.int (nI ((L k1).2.1 i))]) rfl ?_
                          refine lv_sipush (v := nI 200) hx hb dX4_change_208 (by decide) ?_
                          refine lv_icmp_ne (tgt := 217) hx hb dX4_change_211 (by decide) (fun c211 => ?_) (fun c211 => ?_)
                          · skip
                            have c211 : ¬ ((L k1).2.1 i = 200) := fun q9 => c211 ((nc_eq (a := (L k1).2.1 i) (b := 200) (by omega) (by omega)).mpr q9)
                            exact kk (by first | trivial | omega)
                          · skip
                            have c211 : (L k1).2.1 i = 200 := (nc_eq (a := (L k1).2.1 i) (b := 200) (by omega) (by omega)).mp c211
                            refine lv_goto (tgt := 444) hx hb dX4_change_214 (by decide) ?_
                            refine lv_iinc (v := nI (i + 1)) (lv' := [(6, .int (nI (i + 1))), (7, .ref b2), (5, .int (nI (mostN (L k1) ((L k1).1)))), (4, .ref mk), (3, .ref (la k1)), (2, .int (nI 1)), (1, .int (nI k1)), (0, .ref o)]) hx hb dX4_change_444 hl (k := 1) rfl (inc_1 _) (by decide) rfl (fun ls hl => ?_)
                            refine lv_goto (tgt := 82) hx hb dX4_change_447 (by decide) ?_
                            exact W.widen (by omega) (by omega) (hnext _ _ _ ⟨mk, adm, S, hS, lv_sub hl [0, 2, 3, 4, 5, 6, 7] rfl, (by omega), (by exact hil), (by first | exact op_y hR1 hq (by omega) hrep (by omega) (by omega) (by omega) | exact op_n hR1 hq (by omega) hrep (by omega)), (by exact hwk)⟩)
                    · skip
                      refine lv_aload hx hb dX4_change_176 (lv_at hl 0 rfl) ?_
                      refine lv_iconst (v := nI 0) hx hb dX4_change_178 (by decide) ?_
                      refine q_iald hx hb hK nb2 0 (rfl) (by omega) (by decide) dX4_change_179 ?_
                      refine W.eq (g2 := F0 m 180 ls [.int (nI (opX ((L k1).2.1 i)))]) rfl ?_
                      refine lv_if_ne (tgt := 192) hx hb dX4_change_180 (by decide) (fun c180 => ?_) (fun c180 => ?_)
                      · skip
                        have c180 : ¬ (opX ((L k1).2.1 i) = 0) := fun q9 => c180 ((nc_eq (a := opX ((L k1).2.1 i)) (b := 0) (by omega) (by omega)).mpr q9)
                        exact kk (by first | trivial | omega)
                      · skip
                        have c180 : opX ((L k1).2.1 i) = 0 := (nc_eq (a := opX ((L k1).2.1 i)) (b := 0) (by omega) (by omega)).mp c180
                        refine lv_aload_n hx hb dX4_change_183 rfl (lv_at hl 4 rfl) ?_
                        refine lv_iload hx hb dX4_change_184 (lv_at hl 1 rfl) ?_
                        refine q_aald hx hb hK 5 rfl rfl (hi1.old hwk).1 i rfl (by omega) (by omega) (b := ads1 i) rfl dX4_change_186 ?_
                        refine lv_iconst (v := nI 1) hx hb dX4_change_187 (by decide) ?_
                        refine q_iald hx hb hK ((hi1.old hwk).2 i (by omega)).2 1 (rfl) (by omega) (by decide) dX4_change_188 ?_
                        refine W.eq (g2 := F0 m 189 ls [.int (nI ((L k1).2.2 i))]) rfl ?_
                        refine lv_if_eq (tgt := 444) hx hb dX4_change_189 (by decide) (fun c189 => ?_) (fun c189 => ?_)
                        · skip
                          have c189 : (L k1).2.2 i = 0 := (nc_eq (a := (L k1).2.2 i) (b := 0) (by omega) (by omega)).mp c189
                          omega
                        · skip
                          have c189 : ¬ ((L k1).2.2 i = 0) := fun q9 => c189 ((nc_eq (a := (L k1).2.2 i) (b := 0) (by omega) (by omega)).mpr q9)
                          exact kk (by first | trivial | omega)
                  · skip
                    refine lv_aload hx hb dX4_change_150 (lv_at hl 0 rfl) ?_
                    refine lv_iconst (v := nI 1) hx hb dX4_change_152 (by decide) ?_
                    refine q_iald hx hb hK nb2 1 (rfl) (by omega) (by decide) dX4_change_153 ?_
                    refine W.eq (g2 := F0 m 154 ls [.int (nI ((L k1).2.2 i)), .int (nI ((L k1).2.2 i)), .int (nI 1), .ref b2]) rfl ?_
                    refine lv_iconst (v := nI 2) hx hb dX4_change_154 (by decide) ?_
                    refine lv_irem hx hb dX4_change_155 (by decide) ?_
                    rw [pk_rem (a := (L k1).2.2 i) (d := 2) (by omega) (by omega) (by omega)]
                    refine lv_if_ne (tgt := 173) hx hb dX4_change_156 (by decide) (fun c156 => ?_) (fun c156 => ?_)
                    · skip
                      have c156 : ¬ (((L k1).2.2 i) % 2 = 0) := fun q9 => c156 ((nc_eq (a := ((L k1).2.2 i) % 2) (b := 0) (by omega) (by omega)).mpr q9)
                      refine lv_iconst (v := nI 0) hx hb dX4_change_173 (by decide) ?_
                      exact W.eq (congrArg (fun z9 => F0 m 174 ls [.int z9, .int (nI ((L k1).2.2 i)), .int (nI 1), .ref b2]) (show nI 0 = nI (opE ((L k1).2.2 i)) from by unfold opE; first | (rw [if_pos (by omega)]; done) | (rw [if_neg (by omega)]; done))) kk
                    · skip
                      have c156 : ((L k1).2.2 i) % 2 = 0 := (nc_eq (a := ((L k1).2.2 i) % 2) (b := 0) (by omega) (by omega)).mp c156
                      refine lv_aload hx hb dX4_change_159 (lv_at hl 0 rfl) ?_
                      refine lv_iconst (v := nI 1) hx hb dX4_change_161 (by decide) ?_
                      refine q_iald hx hb hK nb2 1 (rfl) (by omega) (by decide) dX4_change_162 ?_
                      refine W.eq (g2 := F0 m 163 ls [.int (nI ((L k1).2.2 i)), .int (nI ((L k1).2.2 i)), .int (nI 1), .ref b2]) rfl ?_
                      refine lv_sipush (v := nI 200) hx hb dX4_change_163 (by decide) ?_
                      refine lv_icmp_ge (tgt := 173) hx hb dX4_change_166 (by decide) (fun c166 => ?_) (fun c166 => ?_)
                      · skip
                        have c166 : 200 ≤ (L k1).2.2 i := (nc_le (a := 200) (b := (L k1).2.2 i) (by omega) (by omega)).mp c166
                        refine lv_iconst (v := nI 0) hx hb dX4_change_173 (by decide) ?_
                        exact W.eq (congrArg (fun z9 => F0 m 174 ls [.int z9, .int (nI ((L k1).2.2 i)), .int (nI 1), .ref b2]) (show nI 0 = nI (opE ((L k1).2.2 i)) from by unfold opE; first | (rw [if_pos (by omega)]; done) | (rw [if_neg (by omega)]; done))) kk
                      · skip
                        have c166 : ¬ (200 ≤ (L k1).2.2 i) := fun q9 => c166 ((nc_le (a := 200) (b := (L k1).2.2 i) (by omega) (by omega)).mpr q9)
                        refine lv_iconst (v := nI 1) hx hb dX4_change_169 (by decide) ?_
                        refine lv_goto (tgt := 174) hx hb dX4_change_170 (by decide) ?_
                        exact W.eq (congrArg (fun z9 => F0 m 174 ls [.int z9, .int (nI ((L k1).2.2 i)), .int (nI 1), .ref b2]) (show nI 1 = nI (opE ((L k1).2.2 i)) from by unfold opE; first | (rw [if_pos (by omega)]; done) | (rw [if_neg (by omega)]; done))) kk
                · skip
                  refine lv_aload hx hb dX4_change_122 (lv_at hl 0 rfl) ?_
                  refine lv_iconst (v := nI 0) hx hb dX4_change_124 (by decide) ?_
                  refine q_iald hx hb hK nb2 0 (rfl) (by omega) (by decide) dX4_change_125 ?_
                  refine W.eq (g2 := F0 m 126 ls [.int (nI ((L k1).2.1 i)), .int (nI ((L k1).2.1 i)), .int (nI 0), .ref b2]) rfl ?_
                  refine lv_iconst (v := nI 2) hx hb dX4_change_126 (by decide) ?_
                  refine lv_irem hx hb dX4_change_127 (by decide) ?_
                  rw [pk_rem (a := (L k1).2.1 i) (d := 2) (by omega) (by omega) (by omega)]
                  refine lv_if_ne (tgt := 142) hx hb dX4_change_128 (by decide) (fun c128 => ?_) (fun c128 => ?_)
                  · skip
                    have c128 : ¬ (((L k1).2.1 i) % 2 = 0) := fun q9 => c128 ((nc_eq (a := ((L k1).2.1 i) % 2) (b := 0) (by omega) (by omega)).mpr q9)
                    refine lv_iconst (v := nI 0) hx hb dX4_change_142 (by decide) ?_
                    exact W.eq (congrArg (fun z9 => F0 m 143 ls [.int z9, .int (nI ((L k1).2.1 i)), .int (nI 0), .ref b2]) (show nI 0 = nI (opD ((L k1).2.1 i)) from by unfold opD; first | (rw [if_pos (by omega)]; done) | (rw [if_neg (by omega)]; done))) kk
                  · skip
                    have c128 : ((L k1).2.1 i) % 2 = 0 := (nc_eq (a := ((L k1).2.1 i) % 2) (b := 0) (by omega) (by omega)).mp c128
                    refine lv_aload hx hb dX4_change_131 (lv_at hl 0 rfl) ?_
                    refine lv_iconst (v := nI 0) hx hb dX4_change_133 (by decide) ?_
                    refine q_iald hx hb hK nb2 0 (rfl) (by omega) (by decide) dX4_change_134 ?_
                    refine W.eq (g2 := F0 m 135 ls [.int (nI ((L k1).2.1 i)), .int (nI ((L k1).2.1 i)), .int (nI 0), .ref b2]) rfl ?_
                    refine lv_if_le (tgt := 142) hx hb dX4_change_135 (by decide) (fun c135 => ?_) (fun c135 => ?_)
                    · skip
                      have c135 : (L k1).2.1 i ≤ 0 := (nc_le (a := (L k1).2.1 i) (b := 0) (by omega) (by omega)).mp c135
                      refine lv_iconst (v := nI 0) hx hb dX4_change_142 (by decide) ?_
                      exact W.eq (congrArg (fun z9 => F0 m 143 ls [.int z9, .int (nI ((L k1).2.1 i)), .int (nI 0), .ref b2]) (show nI 0 = nI (opD ((L k1).2.1 i)) from by unfold opD; first | (rw [if_pos (by omega)]; done) | (rw [if_neg (by omega)]; done))) kk
                    · skip
                      have c135 : ¬ ((L k1).2.1 i ≤ 0) := fun q9 => c135 ((nc_le (a := (L k1).2.1 i) (b := 0) (by omega) (by omega)).mpr q9)
                      refine lv_iconst (v := nI 1) hx hb dX4_change_138 (by decide) ?_
                      refine lv_goto (tgt := 143) hx hb dX4_change_139 (by decide) ?_
                      exact W.eq (congrArg (fun z9 => F0 m 143 ls [.int z9, .int (nI ((L k1).2.1 i)), .int (nI 0), .ref b2]) (show nI 1 = nI (opD ((L k1).2.1 i)) from by unfold opD; first | (rw [if_pos (by omega)]; done) | (rw [if_neg (by omega)]; done))) kk
        · skip
          intro H locs ls hin9
          obtain ⟨mk, adm, S, hS, hl, hmk, hil, hrep, hwk⟩ := hin9
          have hle9 := hrep.1.le
          refine lv_iload hx hb dX4_change_82 (lv_at hl 0 rfl) ?_
          refine lv_aload_n hx hb dX4_change_84 rfl (lv_at hl 3 rfl) ?_
          refine q_len hx hb hK 5 rfl (hi1.old hwk).1 dX4_change_85 ?_
          refine lv_icmp_ge (tgt := 450) hx hb dX4_change_86 (by decide) (fun c86 => ?_) (fun c86 => ?_)
          · skip
            have c86 : (L k1).1 ≤ (L k1).1 := (nc_le (a := (L k1).1) (b := (L k1).1) (by omega) (by omega)).mp c86
            refine lv_iload_n hx hb dX4_change_450 rfl (lv_at hl 4 rfl) ?_
            refine lv_if_ne (tgt := 460) hx hb dX4_change_451 (by decide) (fun c451 => ?_) (fun c451 => ?_)
            · skip
              have c451 : ¬ (1 = 0) := fun q9 => c451 ((nc_eq (a := 1) (b := 0) (by omega) (by omega)).mpr q9)
              refine lv_iload_n hx hb dX4_change_460 rfl (lv_at hl 4 rfl) ?_
              refine lv_bipush (v := nI 6) hx hb dX4_change_461 (by decide) ?_
              refine lv_icmp_ne (tgt := 504) hx hb dX4_change_463 (by decide) (fun c463 => ?_) (fun c463 => ?_)
              · skip
                have c463 : ¬ (1 = 6) := fun q9 => c463 ((nc_eq (a := 1) (b := 6) (by omega) (by omega)).mpr q9)
                have hrep : Rep (pB (chgG (F k1) sr 1)) 201 (S) := by have e9 := end_fr hR1 (fun j hj q9 => ((hq j hj).mp q9).1) hrep; rw [hqq] at e9; rw [chgG_1]; exact e9
                refine lv_aload_n hx hb dX4_change_504 rfl (lv_at hl 6 rfl) ?_
                refine q_get (v := .ref (o + 38)) hx hb hts hin4 hown hK (hw.ob.kept (hwk _ hw.ob.lt)) rfl 3 (by decide) (hts (.fieldLink RX4 18 "PuddingstoneLineLaw$Stones" "sets" "[[[I") (by decide +kernel)) (fun _ h9 => h9) rfl dX4_change_505 ?_
                refine lv_iload_n hx hb dX4_change_508 rfl (lv_at hl 5 rfl) ?_
                refine lv_aload hx hb dX4_change_509 (lv_at hl 2 rfl) ?_
                refine q_aastq hx hb hK (hw.ss.kept (hwk _ hw.ss.lt)) hil.1 k1 rfl (by omega) (by decide) hS (hA _ (by omega)) dX4_change_511 (fun H1 locs1 hw9 hz oq hS => ?_)
                replace hw := (hw.old hwk).setL (k := k1) (m := mk) (S := S) (by omega) hrep.1.le ⟨_, hil.wk (by omega)⟩ hw9 oq
                replace hil := hil.up (m := o + 53) (by omega) (by omega) (fun z h8 h7 => oq z (by omega))
                refine lv_aload_n hx hb dX4_change_512 rfl (lv_at hl 6 rfl) ?_
                refine q_get (v := .ref (ad 0)) hx hb hts hin4 hown hK hw.ob rfl 0 (by decide) (hts (.fieldLink RX4 10 "PuddingstoneLineLaw$Stones" "m" "LPuddingstoneLine;") (by decide +kernel)) (fun _ h9 => h9) rfl dX4_change_513 ?_
                refine lv_iload_n hx hb dX4_change_516 rfl (lv_at hl 5 rfl) ?_
                refine lv_iload_n hx hb dX4_change_517 rfl (lv_at hl 4 rfl) ?_
                refine va_calli (va_runV (As := [.int (nI k1), .int (nI 1)]) (rest := []) ⟨hx, hb, hml, hown, hts⟩ (conX3_change l D T ad F V sr C k1 1 (by omega) (by omega) hinv.1) (cwV 2 hts gX4_change_X3_change rfl rfl rfl (by decide +kernel) ⟨Nat.le_of_ble_eq_true rfl, Nat.le_of_ble_eq_true rfl⟩) (preV hK hw.pl.o rfl hw.pl) rfl rfl hl.1 rfl (lv_room (Nat.le_of_ble_eq_true rfl)) dX4_change_518 ⟨by show _ ≤ 310; omega, by show _ ≤ 11000; omega⟩) hS (fun q _ h9 => (by obtain ⟨i9, h8, rfl⟩ := h9; exact hA _ (by have := hw.1 i9 h8; omega))) (fun q h9 => (by obtain ⟨i9, h8, rfl⟩ := h9; exact hA _ (by have := hw.1 i9 h8; omega))) (fun r u t H1 locs1 ht hvm hw9 hB hz1 hk1 hS => ?_)
                try dsimp only at hB
                rw [ht] at hB
                rw [hw9]
                replace hil := hil.up (m := o + 53) (by omega) (by omega) (fun z h8 h7 => hk1 z h7 (fun ⟨i9, h6, h5⟩ => by have := hw.1 i9 h6; omega))
                replace hw := hw.setP hB (fun q h1 h2 => hk1 q h1 h2)
                refine lv_aload hx hb dX4_change_521 (lv_at hl 2 rfl) ?_
                refine vp_callSi (va_runS (As := [.ref mk]) (rest := [.int (cntZ (chgG (F k1) sr 1) 201)]) ⟨hx, hb, hml, hown, hts⟩ (conX4_count l D T b1 mk (fun k => adm k) S.1 S.2.1 S.2.2 (fun k hk => hrep.sp hk) hrep.1.le) (va_cwS 1 hts gX4_change_X4_count rfl rfl rfl (by decide +kernel) ⟨Nat.le_of_ble_eq_true rfl, Nat.le_of_ble_eq_true rfl⟩) (preS hK hil) rfl rfl hl.1 rfl (lv_room (Nat.le_of_ble_eq_true rfl)) dX4_change_523 ⟨by show _ ≤ 310; omega, by show _ ≤ 11000; omega⟩).run (fun r8 hr8 => ?_)
                rw [hr8]
                have hans := ans_cnt hrep
                refine lv_icmp_ne (tgt := 533) hx hb dX4_change_526 (by decide) (fun c526 => ?_) (fun c526 => ?_)
                · skip
                  exact absurd hans c526
                · skip
                  refine lv_iconst (v := nI 1) hx hb dX4_change_529 (by decide) ?_
                  refine lv_goto (tgt := 534) hx hb dX4_change_530 (by decide) ?_
                  refine W.widen (k := 310) (n := 11000) (by first | omega | decide) (by first | omega | decide) ?_
                  exact W.zret (v := nI 1) hx hb hr (rfl) (fun t ht _ => ⟨⟨nI 1, (), rfl, by rfl, by dsimp only; rw [ht]; exact ⟨_, _, _, _, _, _, _, _, _, by omega, (by have h8 := hS.1; omega), hw, hinv.put (chgS_le hinv.1) up_ne (by rw [va_up_s]; exact hrep)⟩⟩, hS.F ht⟩) hS.2.2 dX4_change_534
              · skip
                have c463 : 1 = 6 := (nc_eq (a := 1) (b := 6) (by omega) (by omega)).mp c463
                omega
            · skip
              have c451 : 1 = 0 := (nc_eq (a := 1) (b := 0) (by omega) (by omega)).mp c451
              omega
          · skip
            have c86 : ¬ ((L k1).1 ≤ (L k1).1) := fun q9 => c86 ((nc_le (a := (L k1).1) (b := (L k1).1) (by omega) (by omega)).mpr q9)
            omega
      · skip
        obtain ⟨qq, hqq⟩ : ∃ z, z = pB (edgZ (nI 1) (F k1) 101) := ⟨_, rfl⟩
        have hq := chg_q2 (F k1)
        rw [← hqq] at hq
        refine lv_iconst (v := nI 0) hx hb dX4_change_79 (by decide) ?_
        refine lv_istore (lv' := [(6, .int (nI 0)), (8, .int (nI ((L k1).1))), (7, .int (nI ((L k1).1))), (5, .int (nI (mostN (L k1) ((L k1).1)))), (4, .ref b1), (3, .ref (la k1)), (2, .int (nI 2)), (1, .int (nI k1)), (0, .ref o)]) hx hb dX4_change_80 hl (by decide) rfl (fun ls hl => ?_)
        refine q_forg (fun (i : Nat) (H : Heap) (locs : List Loc) (ls : Array Slot) => ∃ mk : Nat, ∃ adm : Nat → Nat, ∃ S : SL, va_S A s.heap H locs ∧ lv_has ls 10 [(6, .int (nI i)), (5, .int (nI (mostN (L k1) ((L k1).1)))), (4, .ref mk), (3, .ref (la k1)), (2, .int (nI 2)), (1, .int (nI k1)), (0, .ref o)] ∧ b1 ≤ mk ∧ ILA D T b1 mk adm S.1 S.2.1 S.2.2 H ∧ Rep (qq) (cfN (L k1) i) S ∧ ((i = 0 ∧ S.1 = 0) ∨ (0 < i ∧ 0 < S.1 ∧ S.2.2 (S.1 - 1) + 1 = cfN (L k1) i)) ∧ Inc S.1 adm mk ∧ ∀ z : Nat, z < Hw.size → H[z]? = Hw[z]?) ((L k1).1) 2 104 ?_ ?_ ?_
        · skip
          exact ⟨b1, fun _ => 0, (0, fun _ => 0, fun _ => 0), hS, lv_sub hl [0, 3, 4, 5, 6, 7, 8] rfl, (by omega), (by exact hil), (by rw [cfN_0]; exact Rep.nil _ _ _), (by exact Or.inl ⟨rfl, rfl⟩), (by exact inc_0), (by exact hwk)⟩
        · skip
          intro i H locs ls hi9 hin9 hnext
          obtain ⟨mk, adm, S, hS, hl, hmk, hil, hrep, hcs, hinc, hwk⟩ := hin9
          have hle9 := hrep.1.le
          refine lv_iload hx hb dX4_change_82 (lv_at hl 0 rfl) ?_
          refine lv_aload_n hx hb dX4_change_84 rfl (lv_at hl 3 rfl) ?_
          refine q_len hx hb hK 5 rfl (hi1.old hwk).1 dX4_change_85 ?_
          refine lv_icmp_ge (tgt := 450) hx hb dX4_change_86 (by decide) (fun c86 => ?_) (fun c86 => ?_)
          · skip
            have c86 : (L k1).1 ≤ i := (nc_le (a := (L k1).1) (b := i) (by omega) (by omega)).mp c86
            omega
          · skip
            have c86 : ¬ ((L k1).1 ≤ i) := fun q9 => c86 ((nc_le (a := (L k1).1) (b := i) (by omega) (by omega)).mpr q9)
            have hsp9 := hR1.sp (show i < (L k1).1 by omega)
            refine lv_iconst (v := nI 2) hx hb dX4_change_89 (by decide) ?_
            have hlw9 := hil.low
            obtain ⟨b2, hb2⟩ : ∃ z : Nat, z = H.size := ⟨_, rfl⟩
            have ln_b2 : s.heap.size ≤ b2 := by have h8 := hS.1; omega
            have lw_b2 : Hw.size ≤ b2 := by have h8 := kp_sz hwk; omega
            refine q_newi hx hb (hts (.arrayClass .int) (by decide +kernel)) hK 2 rfl (by decide) (by show _ ≤ 310; omega) (by show _ ≤ 11000; omega) hS dX4_change_90 (fun H1 hw9 z1 o1 hS => ?_)
            rw [← hb2] at hw9 ⊢
            have nb2 := hw9
            have sb2 : H1.size = b2 + 1 := by omega
            replace hwk := fun (z : Nat) (hz : z < Hw.size) => (o1 z (by omega)).trans (hwk z hz)
            replace hil := hil.old o1
            refine lv_dup hx hb dX4_change_92 rfl ?_
            refine lv_iconst (v := nI 0) hx hb dX4_change_93 (by decide) ?_
            refine lv_aload_n hx hb dX4_change_94 rfl (lv_at hl 3 rfl) ?_
            refine lv_iload hx hb dX4_change_95 (lv_at hl 0 rfl) ?_
            refine q_aald hx hb hK 5 rfl rfl (hi1.old hwk).1 i rfl (by omega) (by omega) (b := ads1 i) rfl dX4_change_97 ?_
            refine lv_iconst (v := nI 0) hx hb dX4_change_98 (by decide) ?_
            refine q_iald hx hb hK ((hi1.old hwk).2 i (by omega)).2 0 (rfl) (by omega) (by decide) dX4_change_99 ?_
            refine W.eq (g2 := F0 m 100 ls [.int (nI ((L k1).2.1 i)), .int (nI 0), .ref b2, .ref b2]) rfl ?_
            refine q_iast hx hb hK nb2 0 (rfl) (by omega) (by decide) hS (hA _ (by omega)) dX4_change_100 (fun H1 locs1 hw9 hz oq hS => ?_)
            have nb2 := hw9
            replace hwk := fun (z : Nat) (hz : z < Hw.size) => (oq z (by omega)).trans (hwk z hz)
            replace hil := hil.ne hlw9 (by omega) oq
            refine lv_dup hx hb dX4_change_101 rfl ?_
            refine lv_iconst (v := nI 1) hx hb dX4_change_102 (by decide) ?_
            refine lv_aload_n hx hb dX4_change_103 rfl (lv_at hl 3 rfl) ?_
            refine lv_iload hx hb dX4_change_104 (lv_at hl 0 rfl) ?_
            refine q_aald hx hb hK 5 rfl rfl (hi1.old hwk).1 i rfl (by omega) (by omega) (b := ads1 i) rfl dX4_change_106 ?_
            refine lv_iconst (v := nI 1) hx hb dX4_change_107 (by decide) ?_
            refine q_iald hx hb hK ((hi1.old hwk).2 i (by omega)).2 1 (rfl) (by omega) (by decide) dX4_change_108 ?_
            refine W.eq (g2 := F0 m 109 ls [.int (nI ((L k1).2.2 i)), .int (nI 1), .ref b2, .ref b2]) rfl ?_
            refine q_iast hx hb hK nb2 1 (rfl) (by omega) (by decide) hS (hA _ (by omega)) dX4_change_109 (fun H1 locs1 hw9 hz oq hS => ?_)
            have nb2 := hw9
            replace hwk := fun (z : Nat) (hz : z < Hw.size) => (oq z (by omega)).trans (hwk z hz)
            replace hil := hil.ne hlw9 (by omega) oq
            refine lv_astore (lv' := [(7, .ref b2), (6, .int (nI i)), (5, .int (nI (mostN (L k1) ((L k1).1)))), (4, .ref mk), (3, .ref (la k1)), (2, .int (nI 2)), (1, .int (nI k1)), (0, .ref o)]) hx hb dX4_change_110 hl (by decide) rfl (fun ls hl => ?_)
            refine lv_iload_n hx hb dX4_change_112 rfl (lv_at hl 5 rfl) ?_
            refine lv_iconst (v := nI 1) hx hb dX4_change_113 (by decide) ?_
            refine lv_icmp_ne (tgt := 237) hx hb dX4_change_114 (by decide) (fun c114 => ?_) (fun c114 => ?_)
            · skip
              have c114 : ¬ (2 = 1) := fun q9 => c114 ((nc_eq (a := 2) (b := 1) (by omega) (by omega)).mpr q9)
              refine lv_iload_n hx hb dX4_change_237 rfl (lv_at hl 5 rfl) ?_
              refine lv_iconst (v := nI 2) hx hb dX4_change_238 (by decide) ?_
              refine lv_icmp_ne (tgt := 319) hx hb dX4_change_239 (by decide) (fun c239 => ?_) (fun c239 => ?_)
              · skip
                have c239 : ¬ (2 = 2) := fun q9 => c239 ((nc_eq (a := 2) (b := 2) (by omega) (by omega)).mpr q9)
                omega
              · skip
                have c239 : 2 = 2 := (nc_eq (a := 2) (b := 2) (by omega) (by omega)).mp c239
                refine lv_aload hx hb dX4_change_242 (lv_at hl 0 rfl) ?_
                refine lv_iconst (v := nI 0) hx hb dX4_change_244 (by decide) ?_
                refine lv_dup2_11 hx hb dX4_change_245 rfl rfl ?_
                refine q_iald hx hb hK nb2 0 (rfl) (by omega) (by decide) dX4_change_246 ?_
                refine W.eq (g2 := F0 m 247 ls [.int (nI ((L k1).2.1 i)), .int (nI 0), .ref b2]) rfl ?_
                refine lv_aload hx hb dX4_change_247 (lv_at hl 0 rfl) ?_
                refine lv_iconst (v := nI 0) hx hb dX4_change_249 (by decide) ?_
                refine q_iald hx hb hK nb2 0 (rfl) (by omega) (by decide) dX4_change_250 ?_
                refine W.eq (g2 := F0 m 251 ls [.int (nI ((L k1).2.1 i)), .int (nI ((L k1).2.1 i)), .int (nI 0), .ref b2]) rfl ?_
                refine lv_iconst (v := nI 2) hx hb dX4_change_251 (by decide) ?_
                refine lv_irem hx hb dX4_change_252 (by decide) ?_
                rw [pk_rem (a := (L k1).2.1 i) (d := 2) (by omega) (by omega) (by omega)]
                refine lv_isub hx hb dX4_change_253 ?_
                rw [pk_sub (a := (L k1).2.1 i) (b := ((L k1).2.1 i) % 2) (by omega)]
                refine q_iast hx hb hK nb2 0 (rfl) (by omega) (by decide) hS (hA _ (by omega)) dX4_change_254 (fun H1 locs1 hw9 hz oq hS => ?_)
                have nb2 := hw9
                replace hwk := fun (z : Nat) (hz : z < Hw.size) => (oq z (by omega)).trans (hwk z hz)
                replace hil := hil.ne hlw9 (by omega) oq
                refine lv_aload hx hb dX4_change_255 (lv_at hl 0 rfl) ?_
                refine lv_iconst (v := nI 1) hx hb dX4_change_257 (by decide) ?_
                refine lv_dup2_11 hx hb dX4_change_258 rfl rfl ?_
                refine q_iald hx hb hK nb2 1 (rfl) (by omega) (by decide) dX4_change_259 ?_
                refine W.eq (g2 := F0 m 260 ls [.int (nI ((L k1).2.2 i)), .int (nI 1), .ref b2]) rfl ?_
                refine lv_aload hx hb dX4_change_260 (lv_at hl 0 rfl) ?_
                refine lv_iconst (v := nI 1) hx hb dX4_change_262 (by decide) ?_
                refine q_iald hx hb hK nb2 1 (rfl) (by omega) (by decide) dX4_change_263 ?_
                refine W.eq (g2 := F0 m 264 ls [.int (nI ((L k1).2.2 i)), .int (nI ((L k1).2.2 i)), .int (nI 1), .ref b2]) rfl ?_
                refine lv_iconst (v := nI 2) hx hb dX4_change_264 (by decide) ?_
                refine lv_irem hx hb dX4_change_265 (by decide) ?_
                rw [pk_rem (a := (L k1).2.2 i) (d := 2) (by omega) (by omega) (by omega)]
                refine lv_iadd hx hb dX4_change_266 ?_
                rw [nI_add]
                refine q_iast hx hb hK nb2 1 (rfl) (by omega) (by decide) hS (hA _ (by omega)) dX4_change_267 (fun H1 locs1 hw9 hz oq hS => ?_)
                have nb2 := hw9
                replace hwk := fun (z : Nat) (hz : z < Hw.size) => (oq z (by omega)).trans (hwk z hz)
                replace hil := hil.ne hlw9 (by omega) oq
                refine lv_aload hx hb dX4_change_268 (lv_at hl 3 rfl) ?_
                refine q_len hx hb hK 5 rfl hil.1 dX4_change_270 ?_
                refine lv_if_le (tgt := 310) hx hb dX4_change_271 (by decide) (fun c271 => ?_) (fun c271 => ?_)
                · skip
                  have c271 : S.1 ≤ 0 := (nc_le (a := S.1) (b := 0) (by omega) (by omega)).mp c271
                  refine lv_aload hx hb dX4_change_310 (lv_at hl 3 rfl) ?_
                  refine lv_aload hx hb dX4_change_312 (lv_at hl 0 rfl) ?_
                  obtain ⟨b3, hb3⟩ : ∃ z : Nat, z = H1.size := ⟨_, rfl⟩
                  have lnb2_b3 : b2 < b3 := by have h8 := nb2.lt; omega
                  have ln_b3 : s.heap.size ≤ b3 := by have h8 := hS.1; omega
                  have lw_b3 : Hw.size ≤ b3 := by have h8 := kp_sz hwk; omega
                  refine va_callr (va_runS (As := [.ref mk, .ref b2]) (rest := []) ⟨hx, hb, hml, hown, hts⟩ (conX4_with l D T b3 b1 mk b2 ((L k1).2.1 i - (L k1).2.1 i % 2) ((L k1).2.2 i + (L k1).2.2 i % 2) (fun k => adm k) S.1 S.2.1 S.2.2 (by omega) (by omega)) (va_cwS 2 hts gX4_change_X4_with rfl rfl rfl (by decide +kernel) ⟨Nat.le_of_ble_eq_true rfl, Nat.le_of_ble_eq_true rfl⟩) (preS hK ⟨hb3.symm, hil, nb2.outN (pr2_g _ _ _)⟩) rfl rfl hl.1 rfl (lv_room (Nat.le_of_ble_eq_true rfl)) dX4_change_314 ⟨by show _ ≤ 310; omega, by show _ ≤ 11000; omega⟩) hS (fun q _ h9 => (hA q (by have h8 : b3 ≤ q := h9; omega))) (fun q h9 => (hA q (by have h8 : b3 ≤ q := h9; omega))) (fun u ra t H1 locs1 ht hvm hw9 hB hz1 hk1 hS => ?_)
                  try dsimp only at hB
                  rw [ht] at hB
                  obtain ⟨a9, rfl⟩ : ∃ z, z = ra := ⟨_, rfl⟩
                  obtain ⟨hra, hz9, hil⟩ := hB
                  subst hra
                  replace hwk := fun (z : Nat) (hz : z < Hw.size) => (hk1 z (by omega) (fun h9 => by have h8 : a9 ≤ z := h9; omega)).trans (hwk z hz)
                  refine lv_astore (lv' := [(4, .ref a9), (7, .ref b2), (6, .int (nI i)), (5, .int (nI (mostN (L k1) ((L k1).1)))), (3, .ref (la k1)), (2, .int (nI 2)), (1, .int (nI k1)), (0, .ref o)]) hx hb dX4_change_317 hl (by decide) rfl (fun ls hl => ?_)
                  refine lv_iload_n hx hb dX4_change_319 rfl (lv_at hl 5 rfl) ?_
                  refine lv_iconst (v := nI 3) hx hb dX4_change_320 (by decide) ?_
                  refine lv_icmp_ne (tgt := 353) hx hb dX4_change_321 (by decide) (fun c321 => ?_) (fun c321 => ?_)
                  · skip
                    have c321 : ¬ (2 = 3) := fun q9 => c321 ((nc_eq (a := 2) (b := 3) (by omega) (by omega)).mpr q9)
                    refine lv_iload_n hx hb dX4_change_353 rfl (lv_at hl 5 rfl) ?_
                    refine lv_iconst (v := nI 4) hx hb dX4_change_354 (by decide) ?_
                    refine lv_icmp_ne (tgt := 408) hx hb dX4_change_355 (by decide) (fun c355 => ?_) (fun c355 => ?_)
                    · skip
                      have c355 : ¬ (2 = 4) := fun q9 => c355 ((nc_eq (a := 2) (b := 4) (by omega) (by omega)).mpr q9)
                      refine lv_iload_n hx hb dX4_change_408 rfl (lv_at hl 5 rfl) ?_
                      refine lv_iconst (v := nI 5) hx hb dX4_change_409 (by decide) ?_
                      refine lv_icmp_ne (tgt := 444) hx hb dX4_change_410 (by decide) (fun c410 => ?_) (fun c410 => ?_)
                      · skip
                        have c410 : ¬ (2 = 5) := fun q9 => c410 ((nc_eq (a := 2) (b := 5) (by omega) (by omega)).mpr q9)
                        refine lv_iinc (v := nI (i + 1)) (lv' := [(6, .int (nI (i + 1))), (4, .ref a9), (7, .ref b2), (5, .int (nI (mostN (L k1) ((L k1).1)))), (3, .ref (la k1)), (2, .int (nI 2)), (1, .int (nI k1)), (0, .ref o)]) hx hb dX4_change_444 hl (k := 2) rfl (inc_1 _) (by decide) rfl (fun ls hl => ?_)
                        refine lv_goto (tgt := 82) hx hb dX4_change_447 (by decide) ?_
                        exact W.widen (by omega) (by omega) (hnext _ _ _ ⟨a9, fun k => if k = S.1 then b2 else adm k, snocS S ((L k1).2.1 i - (L k1).2.1 i % 2) ((L k1).2.2 i + (L k1).2.2 i % 2), hS, lv_sub hl [0, 3, 1, 4, 5, 6, 7] rfl, (by omega), (by exact hil), (by first | exact cl_m hR1 hq (by omega) hrep hcs ⟨by omega, by omega⟩ | exact cl_s hR1 hq (by omega) hrep hcs (by omega)), (by first | exact cs_more (by omega) | exact cs_snoc), (by first | exact hinc | exact inc_snoc hinc (by omega) (by omega)), (by exact hwk)⟩)
                      · skip
                        have c410 : 2 = 5 := (nc_eq (a := 2) (b := 5) (by omega) (by omega)).mp c410
                        omega
                    · skip
                      have c355 : 2 = 4 := (nc_eq (a := 2) (b := 4) (by omega) (by omega)).mp c355
                      omega
                  · skip
                    have c321 : 2 = 3 := (nc_eq (a := 2) (b := 3) (by omega) (by omega)).mp c321
                    omega
                · skip
                  have c271 : ¬ (S.1 ≤ 0) := fun q9 => c271 ((nc_le (a := S.1) (b := 0) (by omega) (by omega)).mpr q9)
                  have hss9 := hrep.1 (S.1 - 1) (by omega)
                  refine lv_aload hx hb dX4_change_274 (lv_at hl 0 rfl) ?_
                  refine lv_iconst (v := nI 0) hx hb dX4_change_276 (by decide) ?_
                  refine q_iald hx hb hK nb2 0 (rfl) (by omega) (by decide) dX4_change_277 ?_
                  refine W.eq (g2 := F0 m 278 ls [.int (nI (((L k1).2.1 i) - (((L k1).2.1 i) % 2)))]) rfl ?_
                  refine lv_aload hx hb dX4_change_278 (lv_at hl 3 rfl) ?_
                  refine lv_aload hx hb dX4_change_280 (lv_at hl 3 rfl) ?_
                  refine q_len hx hb hK 5 rfl hil.1 dX4_change_282 ?_
                  refine lv_iconst (v := nI 1) hx hb dX4_change_283 (by decide) ?_
                  refine lv_isub hx hb dX4_change_284 ?_
                  rw [pk_sub (a := S.1) (b := 1) (by omega)]
                  refine q_aald hx hb hK 5 rfl rfl hil.1 (S.1 - 1) rfl (by omega) (by omega) (b := adm (S.1 - 1)) rfl dX4_change_285 ?_
                  refine lv_iconst (v := nI 1) hx hb dX4_change_286 (by decide) ?_
                  refine q_iald hx hb hK (hil.2 (S.1 - 1) (by omega)).2 1 (rfl) (by omega) (by decide) dX4_change_287 ?_
                  refine W.eq (g2 := F0 m 288 ls [.int (nI (S.2.2 (S.1 - 1))), .int (nI (((L k1).2.1 i) - (((L k1).2.1 i) % 2)))]) rfl ?_
                  refine lv_iconst (v := nI 1) hx hb dX4_change_288 (by decide) ?_
                  refine lv_iadd hx hb dX4_change_289 ?_
                  rw [nI_add]
                  refine lv_icmp_gt (tgt := 310) hx hb dX4_change_290 (by decide) (fun c290 => ?_) (fun c290 => ?_)
                  · skip
                    have c290 : (S.2.2 (S.1 - 1)) + 1 < ((L k1).2.1 i) - (((L k1).2.1 i) % 2) := (nc_lt (a := (S.2.2 (S.1 - 1)) + 1) (b := ((L k1).2.1 i) - (((L k1).2.1 i) % 2)) (by omega) (by omega)).mp c290
                    refine lv_aload hx hb dX4_change_310 (lv_at hl 3 rfl) ?_
                    refine lv_aload hx hb dX4_change_312 (lv_at hl 0 rfl) ?_
                    obtain ⟨b3, hb3⟩ : ∃ z : Nat, z = H1.size := ⟨_, rfl⟩
                    have lnb2_b3 : b2 < b3 := by have h8 := nb2.lt; omega
                    have ln_b3 : s.heap.size ≤ b3 := by have h8 := hS.1; omega
                    have lw_b3 : Hw.size ≤ b3 := by have h8 := kp_sz hwk; omega
                    refine va_callr (va_runS (As := [.ref mk, .ref b2]) (rest := []) ⟨hx, hb, hml, hown, hts⟩ (conX4_with l D T b3 b1 mk b2 ((L k1).2.1 i - (L k1).2.1 i % 2) ((L k1).2.2 i + (L k1).2.2 i % 2) (fun k => adm k) S.1 S.2.1 S.2.2 (by omega) (by omega)) (va_cwS 2 hts gX4_change_X4_with rfl rfl rfl (by decide +kernel) ⟨Nat.le_of_ble_eq_true rfl, Nat.le_of_ble_eq_true rfl⟩) (preS hK ⟨hb3.symm, hil, nb2.outN (pr2_g _ _ _)⟩) rfl rfl hl.1 rfl (lv_room (Nat.le_of_ble_eq_true rfl)) dX4_change_314 ⟨by show _ ≤ 310; omega, by show _ ≤ 11000; omega⟩) hS (fun q _ h9 => (hA q (by have h8 : b3 ≤ q := h9; omega))) (fun q h9 => (hA q (by have h8 : b3 ≤ q := h9; omega))) (fun u ra t H1 locs1 ht hvm hw9 hB hz1 hk1 hS => ?_)
                    try dsimp only at hB
                    rw [ht] at hB
                    obtain ⟨a10, rfl⟩ : ∃ z, z = ra := ⟨_, rfl⟩
                    obtain ⟨hra, hz9, hil⟩ := hB
                    subst hra
                    replace hwk := fun (z : Nat) (hz : z < Hw.size) => (hk1 z (by omega) (fun h9 => by have h8 : a10 ≤ z := h9; omega)).trans (hwk z hz)
                    refine lv_astore (lv' := [(4, .ref a10), (7, .ref b2), (6, .int (nI i)), (5, .int (nI (mostN (L k1) ((L k1).1)))), (3, .ref (la k1)), (2, .int (nI 2)), (1, .int (nI k1)), (0, .ref o)]) hx hb dX4_change_317 hl (by decide) rfl (fun ls hl => ?_)
                    refine lv_iload_n hx hb dX4_change_319 rfl (lv_at hl 5 rfl) ?_
                    refine lv_iconst (v := nI 3) hx hb dX4_change_320 (by decide) ?_
                    refine lv_icmp_ne (tgt := 353) hx hb dX4_change_321 (by decide) (fun c321 => ?_) (fun c321 => ?_)
                    · skip
                      have c321 : ¬ (2 = 3) := fun q9 => c321 ((nc_eq (a := 2) (b := 3) (by omega) (by omega)).mpr q9)
                      refine lv_iload_n hx hb dX4_change_353 rfl (lv_at hl 5 rfl) ?_
                      refine lv_iconst (v := nI 4) hx hb dX4_change_354 (by decide) ?_
                      refine lv_icmp_ne (tgt := 408) hx hb dX4_change_355 (by decide) (fun c355 => ?_) (fun c355 => ?_)
                      · skip
                        have c355 : ¬ (2 = 4) := fun q9 => c355 ((nc_eq (a := 2) (b := 4) (by omega) (by omega)).mpr q9)
                        refine lv_iload_n hx hb dX4_change_408 rfl (lv_at hl 5 rfl) ?_
                        refine lv_iconst (v := nI 5) hx hb dX4_change_409 (by decide) ?_
                        refine lv_icmp_ne (tgt := 444) hx hb dX4_change_410 (by decide) (fun c410 => ?_) (fun c410 => ?_)
                        · skip
                          have c410 : ¬ (2 = 5) := fun q9 => c410 ((nc_eq (a := 2) (b := 5) (by omega) (by omega)).mpr q9)
                          refine lv_iinc (v := nI (i + 1)) (lv' := [(6, .int (nI (i + 1))), (4, .ref a10), (7, .ref b2), (5, .int (nI (mostN (L k1) ((L k1).1)))), (3, .ref (la k1)), (2, .int (nI 2)), (1, .int (nI k1)), (0, .ref o)]) hx hb dX4_change_444 hl (k := 2) rfl (inc_1 _) (by decide) rfl (fun ls hl => ?_)
                          refine lv_goto (tgt := 82) hx hb dX4_change_447 (by decide) ?_
                          exact W.widen (by omega) (by omega) (hnext _ _ _ ⟨a10, fun k => if k = S.1 then b2 else adm k, snocS S ((L k1).2.1 i - (L k1).2.1 i % 2) ((L k1).2.2 i + (L k1).2.2 i % 2), hS, lv_sub hl [0, 3, 1, 4, 5, 6, 7] rfl, (by omega), (by exact hil), (by first | exact cl_m hR1 hq (by omega) hrep hcs ⟨by omega, by omega⟩ | exact cl_s hR1 hq (by omega) hrep hcs (by omega)), (by first | exact cs_more (by omega) | exact cs_snoc), (by first | exact hinc | exact inc_snoc hinc (by omega) (by omega)), (by exact hwk)⟩)
                        · skip
                          have c410 : 2 = 5 := (nc_eq (a := 2) (b := 5) (by omega) (by omega)).mp c410
                          omega
                      · skip
                        have c355 : 2 = 4 := (nc_eq (a := 2) (b := 4) (by omega) (by omega)).mp c355
                        omega
                    · skip
                      have c321 : 2 = 3 := (nc_eq (a := 2) (b := 3) (by omega) (by omega)).mp c321
                      omega
                  · skip
                    have c290 : ¬ ((S.2.2 (S.1 - 1)) + 1 < ((L k1).2.1 i) - (((L k1).2.1 i) % 2)) := fun q9 => c290 ((nc_lt (a := (S.2.2 (S.1 - 1)) + 1) (b := ((L k1).2.1 i) - (((L k1).2.1 i) % 2)) (by omega) (by omega)).mpr q9)
                    refine lv_aload hx hb dX4_change_293 (lv_at hl 3 rfl) ?_
                    refine lv_aload hx hb dX4_change_295 (lv_at hl 3 rfl) ?_
                    refine q_len hx hb hK 5 rfl hil.1 dX4_change_297 ?_
                    refine lv_iconst (v := nI 1) hx hb dX4_change_298 (by decide) ?_
                    refine lv_isub hx hb dX4_change_299 ?_
                    rw [pk_sub (a := S.1) (b := 1) (by omega)]
                    refine q_aald hx hb hK 5 rfl rfl hil.1 (S.1 - 1) rfl (by omega) (by omega) (b := adm (S.1 - 1)) rfl dX4_change_300 ?_
                    refine lv_iconst (v := nI 1) hx hb dX4_change_301 (by decide) ?_
                    refine lv_aload hx hb dX4_change_302 (lv_at hl 0 rfl) ?_
                    refine lv_iconst (v := nI 1) hx hb dX4_change_304 (by decide) ?_
                    refine q_iald hx hb hK nb2 1 (rfl) (by omega) (by decide) dX4_change_305 ?_
                    refine W.eq (g2 := F0 m 306 ls [.int (nI (((L k1).2.2 i) + (((L k1).2.2 i) % 2))), .int (nI 1), .ref (adm (S.1 - 1))]) rfl ?_
                    have hin8 := hinc.1 (S.1 - 1) (by omega)
                    have hin7 := (hil.2 (S.1 - 1) (by omega)).1
                    refine q_iast hx hb hK (hil.2 (S.1 - 1) (by omega)).2 1 rfl (by omega) (by omega) hS (hA _ (by omega)) dX4_change_306 (fun H1 locs1 hw9 hz oq hS => ?_)
                    replace hil := hil.ext (g := ((L k1).2.2 i) + (((L k1).2.2 i) % 2)) (by omega) (fun k hk => by have h8 := hinc.2 k (S.1 - 1) (by omega) (by omega); omega) hw9 oq
                    replace hwk := fun (z : Nat) (hz : z < Hw.size) => (oq z (by omega)).trans (hwk z hz)
                    refine lv_goto (tgt := 319) hx hb dX4_change_307 (by decide) ?_
                    refine lv_iload_n hx hb dX4_change_319 rfl (lv_at hl 5 rfl) ?_
                    refine lv_iconst (v := nI 3) hx hb dX4_change_320 (by decide) ?_
                    refine lv_icmp_ne (tgt := 353) hx hb dX4_change_321 (by decide) (fun c321 => ?_) (fun c321 => ?_)
                    · skip
                      have c321 : ¬ (2 = 3) := fun q9 => c321 ((nc_eq (a := 2) (b := 3) (by omega) (by omega)).mpr q9)
                      refine lv_iload_n hx hb dX4_change_353 rfl (lv_at hl 5 rfl) ?_
                      refine lv_iconst (v := nI 4) hx hb dX4_change_354 (by decide) ?_
                      refine lv_icmp_ne (tgt := 408) hx hb dX4_change_355 (by decide) (fun c355 => ?_) (fun c355 => ?_)
                      · skip
                        have c355 : ¬ (2 = 4) := fun q9 => c355 ((nc_eq (a := 2) (b := 4) (by omega) (by omega)).mpr q9)
                        refine lv_iload_n hx hb dX4_change_408 rfl (lv_at hl 5 rfl) ?_
                        refine lv_iconst (v := nI 5) hx hb dX4_change_409 (by decide) ?_
                        refine lv_icmp_ne (tgt := 444) hx hb dX4_change_410 (by decide) (fun c410 => ?_) (fun c410 => ?_)
                        · skip
                          have c410 : ¬ (2 = 5) := fun q9 => c410 ((nc_eq (a := 2) (b := 5) (by omega) (by omega)).mpr q9)
                          refine lv_iinc (v := nI (i + 1)) (lv' := [(6, .int (nI (i + 1))), (7, .ref b2), (5, .int (nI (mostN (L k1) ((L k1).1)))), (4, .ref mk), (3, .ref (la k1)), (2, .int (nI 2)), (1, .int (nI k1)), (0, .ref o)]) hx hb dX4_change_444 hl (k := 1) rfl (inc_1 _) (by decide) rfl (fun ls hl => ?_)
                          refine lv_goto (tgt := 82) hx hb dX4_change_447 (by decide) ?_
                          exact W.widen (by omega) (by omega) (hnext _ _ _ ⟨mk, adm, moreS S (((L k1).2.2 i) + (((L k1).2.2 i) % 2)), hS, lv_sub hl [0, 2, 3, 4, 5, 6, 7] rfl, (by omega), (by exact hil), (by first | exact cl_m hR1 hq (by omega) hrep hcs ⟨by omega, by omega⟩ | exact cl_s hR1 hq (by omega) hrep hcs (by omega)), (by first | exact cs_more (by omega) | exact cs_snoc), (by first | exact hinc | exact inc_snoc hinc (by omega) (by omega)), (by exact hwk)⟩)
                        · skip
                          have c410 : 2 = 5 := (nc_eq (a := 2) (b := 5) (by omega) (by omega)).mp c410
                          omega
                      · skip
                        have c355 : 2 = 4 := (nc_eq (a := 2) (b := 4) (by omega) (by omega)).mp c355
                        omega
                    · skip
                      have c321 : 2 = 3 := (nc_eq (a := 2) (b := 3) (by omega) (by omega)).mp c321
                      omega
            · skip
              have c114 : 2 = 1 := (nc_eq (a := 2) (b := 1) (by omega) (by omega)).mp c114
              omega
        · skip
          intro H locs ls hin9
          obtain ⟨mk, adm, S, hS, hl, hmk, hil, hrep, hcs, hinc, hwk⟩ := hin9
          have hle9 := hrep.1.le
          refine lv_iload hx hb dX4_change_82 (lv_at hl 0 rfl) ?_
          refine lv_aload_n hx hb dX4_change_84 rfl (lv_at hl 3 rfl) ?_
          refine q_len hx hb hK 5 rfl (hi1.old hwk).1 dX4_change_85 ?_
          refine lv_icmp_ge (tgt := 450) hx hb dX4_change_86 (by decide) (fun c86 => ?_) (fun c86 => ?_)
          · skip
            have c86 : (L k1).1 ≤ (L k1).1 := (nc_le (a := (L k1).1) (b := (L k1).1) (by omega) (by omega)).mp c86
            refine lv_iload_n hx hb dX4_change_450 rfl (lv_at hl 4 rfl) ?_
            refine lv_if_ne (tgt := 460) hx hb dX4_change_451 (by decide) (fun c451 => ?_) (fun c451 => ?_)
            · skip
              have c451 : ¬ (2 = 0) := fun q9 => c451 ((nc_eq (a := 2) (b := 0) (by omega) (by omega)).mpr q9)
              refine lv_iload_n hx hb dX4_change_460 rfl (lv_at hl 4 rfl) ?_
              refine lv_bipush (v := nI 6) hx hb dX4_change_461 (by decide) ?_
              refine lv_icmp_ne (tgt := 504) hx hb dX4_change_463 (by decide) (fun c463 => ?_) (fun c463 => ?_)
              · skip
                have c463 : ¬ (2 = 6) := fun q9 => c463 ((nc_eq (a := 2) (b := 6) (by omega) (by omega)).mpr q9)
                have hrep : Rep (pB (chgG (F k1) sr 2)) 201 (S) := by have e9 := cl_e hR1 hq (pB_out (by omega) (by omega)) hrep; rw [hqq] at e9; rw [chgG_2]; exact e9
                refine lv_aload_n hx hb dX4_change_504 rfl (lv_at hl 6 rfl) ?_
                refine q_get (v := .ref (o + 38)) hx hb hts hin4 hown hK (hw.ob.kept (hwk _ hw.ob.lt)) rfl 3 (by decide) (hts (.fieldLink RX4 18 "PuddingstoneLineLaw$Stones" "sets" "[[[I") (by decide +kernel)) (fun _ h9 => h9) rfl dX4_change_505 ?_
                refine lv_iload_n hx hb dX4_change_508 rfl (lv_at hl 5 rfl) ?_
                refine lv_aload hx hb dX4_change_509 (lv_at hl 2 rfl) ?_
                refine q_aastq hx hb hK (hw.ss.kept (hwk _ hw.ss.lt)) hil.1 k1 rfl (by omega) (by decide) hS (hA _ (by omega)) dX4_change_511 (fun H1 locs1 hw9 hz oq hS => ?_)
                replace hw := (hw.old hwk).setL (k := k1) (m := mk) (S := S) (by omega) hrep.1.le ⟨_, hil.wk (by omega)⟩ hw9 oq
                replace hil := hil.up (m := o + 53) (by omega) (by omega) (fun z h8 h7 => oq z (by omega))
                refine lv_aload_n hx hb dX4_change_512 rfl (lv_at hl 6 rfl) ?_
                refine q_get (v := .ref (ad 0)) hx hb hts hin4 hown hK hw.ob rfl 0 (by decide) (hts (.fieldLink RX4 10 "PuddingstoneLineLaw$Stones" "m" "LPuddingstoneLine;") (by decide +kernel)) (fun _ h9 => h9) rfl dX4_change_513 ?_
                refine lv_iload_n hx hb dX4_change_516 rfl (lv_at hl 5 rfl) ?_
                refine lv_iload_n hx hb dX4_change_517 rfl (lv_at hl 4 rfl) ?_
                refine va_calli (va_runV (As := [.int (nI k1), .int (nI 2)]) (rest := []) ⟨hx, hb, hml, hown, hts⟩ (conX3_change l D T ad F V sr C k1 2 (by omega) (by omega) hinv.1) (cwV 2 hts gX4_change_X3_change rfl rfl rfl (by decide +kernel) ⟨Nat.le_of_ble_eq_true rfl, Nat.le_of_ble_eq_true rfl⟩) (preV hK hw.pl.o rfl hw.pl) rfl rfl hl.1 rfl (lv_room (Nat.le_of_ble_eq_true rfl)) dX4_change_518 ⟨by show _ ≤ 310; omega, by show _ ≤ 11000; omega⟩) hS (fun q _ h9 => (by obtain ⟨i9, h8, rfl⟩ := h9; exact hA _ (by have := hw.1 i9 h8; omega))) (fun q h9 => (by obtain ⟨i9, h8, rfl⟩ := h9; exact hA _ (by have := hw.1 i9 h8; omega))) (fun r u t H1 locs1 ht hvm hw9 hB hz1 hk1 hS => ?_)
                try dsimp only at hB
                rw [ht] at hB
                rw [hw9]
                replace hil := hil.up (m := o + 53) (by omega) (by omega) (fun z h8 h7 => hk1 z h7 (fun ⟨i9, h6, h5⟩ => by have := hw.1 i9 h6; omega))
                replace hw := hw.setP hB (fun q h1 h2 => hk1 q h1 h2)
                refine lv_aload hx hb dX4_change_521 (lv_at hl 2 rfl) ?_
                refine vp_callSi (va_runS (As := [.ref mk]) (rest := [.int (cntZ (chgG (F k1) sr 2) 201)]) ⟨hx, hb, hml, hown, hts⟩ (conX4_count l D T b1 mk (fun k => adm k) S.1 S.2.1 S.2.2 (fun k hk => hrep.sp hk) hrep.1.le) (va_cwS 1 hts gX4_change_X4_count rfl rfl rfl (by decide +kernel) ⟨Nat.le_of_ble_eq_true rfl, Nat.le_of_ble_eq_true rfl⟩) (preS hK hil) rfl rfl hl.1 rfl (lv_room (Nat.le_of_ble_eq_true rfl)) dX4_change_523 ⟨by show _ ≤ 310; omega, by show _ ≤ 11000; omega⟩).run (fun r11 hr11 => ?_)
                rw [hr11]
                have hans := ans_cnt hrep
                refine lv_icmp_ne (tgt := 533) hx hb dX4_change_526 (by decide) (fun c526 => ?_) (fun c526 => ?_)
                · skip
                  exact absurd hans c526
                · skip
                  refine lv_iconst (v := nI 1) hx hb dX4_change_529 (by decide) ?_
                  refine lv_goto (tgt := 534) hx hb dX4_change_530 (by decide) ?_
                  refine W.widen (k := 310) (n := 11000) (by first | omega | decide) (by first | omega | decide) ?_
                  exact W.zret (v := nI 1) hx hb hr (rfl) (fun t ht _ => ⟨⟨nI 1, (), rfl, by rfl, by dsimp only; rw [ht]; exact ⟨_, _, _, _, _, _, _, _, _, by omega, (by have h8 := hS.1; omega), hw, hinv.put (chgS_le hinv.1) up_ne (by rw [va_up_s]; exact hrep)⟩⟩, hS.F ht⟩) hS.2.2 dX4_change_534
              · skip
                have c463 : 2 = 6 := (nc_eq (a := 2) (b := 6) (by omega) (by omega)).mp c463
                omega
            · skip
              have c451 : 2 = 0 := (nc_eq (a := 2) (b := 0) (by omega) (by omega)).mp c451
              omega
          · skip
            have c86 : ¬ ((L k1).1 ≤ (L k1).1) := fun q9 => c86 ((nc_le (a := (L k1).1) (b := (L k1).1) (by omega) (by omega)).mpr q9)
            omega
      · skip
        obtain ⟨qq, hqq⟩ : ∃ z, z = pB (oddZ (edgZ (nI 0) (F k1) 101) 100) := ⟨_, rfl⟩
        have hq := chg_q3 (F k1)
        rw [← hqq] at hq
        refine lv_iconst (v := nI 0) hx hb dX4_change_79 (by decide) ?_
        refine lv_istore (lv' := [(6, .int (nI 0)), (8, .int (nI ((L k1).1))), (7, .int (nI ((L k1).1))), (5, .int (nI (mostN (L k1) ((L k1).1)))), (4, .ref b1), (3, .ref (la k1)), (2, .int (nI 3)), (1, .int (nI k1)), (0, .ref o)]) hx hb dX4_change_80 hl (by decide) rfl (fun ls hl => ?_)
        refine q_forg (fun (i : Nat) (H : Heap) (locs : List Loc) (ls : Array Slot) => ∃ mk : Nat, ∃ adm : Nat → Nat, ∃ S : SL, va_S A s.heap H locs ∧ lv_has ls 10 [(6, .int (nI i)), (5, .int (nI (mostN (L k1) ((L k1).1)))), (4, .ref mk), (3, .ref (la k1)), (2, .int (nI 3)), (1, .int (nI k1)), (0, .ref o)] ∧ b1 ≤ mk ∧ ILA D T b1 mk adm S.1 S.2.1 S.2.2 H ∧ Rep (qq) (frN (L k1) i) S ∧ ∀ z : Nat, z < Hw.size → H[z]? = Hw[z]?) ((L k1).1) 2 104 ?_ ?_ ?_
        · skip
          exact ⟨b1, fun _ => 0, (0, fun _ => 0, fun _ => 0), hS, lv_sub hl [0, 3, 4, 5, 6, 7, 8] rfl, (by omega), (by exact hil), (by rw [frN_0]; exact Rep.nil _ _ _), (by exact hwk)⟩
        · skip
          intro i H locs ls hi9 hin9 hnext
          obtain ⟨mk, adm, S, hS, hl, hmk, hil, hrep, hwk⟩ := hin9
          have hle9 := hrep.1.le
          refine lv_iload hx hb dX4_change_82 (lv_at hl 0 rfl) ?_
          refine lv_aload_n hx hb dX4_change_84 rfl (lv_at hl 3 rfl) ?_
          refine q_len hx hb hK 5 rfl (hi1.old hwk).1 dX4_change_85 ?_
          refine lv_icmp_ge (tgt := 450) hx hb dX4_change_86 (by decide) (fun c86 => ?_) (fun c86 => ?_)
          · skip
            have c86 : (L k1).1 ≤ i := (nc_le (a := (L k1).1) (b := i) (by omega) (by omega)).mp c86
            omega
          · skip
            have c86 : ¬ ((L k1).1 ≤ i) := fun q9 => c86 ((nc_le (a := (L k1).1) (b := i) (by omega) (by omega)).mpr q9)
            have hsp9 := hR1.sp (show i < (L k1).1 by omega)
            refine lv_iconst (v := nI 2) hx hb dX4_change_89 (by decide) ?_
            have hlw9 := hil.low
            obtain ⟨b2, hb2⟩ : ∃ z : Nat, z = H.size := ⟨_, rfl⟩
            have ln_b2 : s.heap.size ≤ b2 := by have h8 := hS.1; omega
            have lw_b2 : Hw.size ≤ b2 := by have h8 := kp_sz hwk; omega
            refine q_newi hx hb (hts (.arrayClass .int) (by decide +kernel)) hK 2 rfl (by decide) (by show _ ≤ 310; omega) (by show _ ≤ 11000; omega) hS dX4_change_90 (fun H1 hw9 z1 o1 hS => ?_)
            rw [← hb2] at hw9 ⊢
            have nb2 := hw9
            have sb2 : H1.size = b2 + 1 := by omega
            replace hwk := fun (z : Nat) (hz : z < Hw.size) => (o1 z (by omega)).trans (hwk z hz)
            replace hil := hil.old o1
            refine lv_dup hx hb dX4_change_92 rfl ?_
            refine lv_iconst (v := nI 0) hx hb dX4_change_93 (by decide) ?_
            refine lv_aload_n hx hb dX4_change_94 rfl (lv_at hl 3 rfl) ?_
            refine lv_iload hx hb dX4_change_95 (lv_at hl 0 rfl) ?_
            refine q_aald hx hb hK 5 rfl rfl (hi1.old hwk).1 i rfl (by omega) (by omega) (b := ads1 i) rfl dX4_change_97 ?_
            refine lv_iconst (v := nI 0) hx hb dX4_change_98 (by decide) ?_
            refine q_iald hx hb hK ((hi1.old hwk).2 i (by omega)).2 0 (rfl) (by omega) (by decide) dX4_change_99 ?_
            refine W.eq (g2 := F0 m 100 ls [.int (nI ((L k1).2.1 i)), .int (nI 0), .ref b2, .ref b2]) rfl ?_
            refine q_iast hx hb hK nb2 0 (rfl) (by omega) (by decide) hS (hA _ (by omega)) dX4_change_100 (fun H1 locs1 hw9 hz oq hS => ?_)
            have nb2 := hw9
            replace hwk := fun (z : Nat) (hz : z < Hw.size) => (oq z (by omega)).trans (hwk z hz)
            replace hil := hil.ne hlw9 (by omega) oq
            refine lv_dup hx hb dX4_change_101 rfl ?_
            refine lv_iconst (v := nI 1) hx hb dX4_change_102 (by decide) ?_
            refine lv_aload_n hx hb dX4_change_103 rfl (lv_at hl 3 rfl) ?_
            refine lv_iload hx hb dX4_change_104 (lv_at hl 0 rfl) ?_
            refine q_aald hx hb hK 5 rfl rfl (hi1.old hwk).1 i rfl (by omega) (by omega) (b := ads1 i) rfl dX4_change_106 ?_
            refine lv_iconst (v := nI 1) hx hb dX4_change_107 (by decide) ?_
            refine q_iald hx hb hK ((hi1.old hwk).2 i (by omega)).2 1 (rfl) (by omega) (by decide) dX4_change_108 ?_
            refine W.eq (g2 := F0 m 109 ls [.int (nI ((L k1).2.2 i)), .int (nI 1), .ref b2, .ref b2]) rfl ?_
            refine q_iast hx hb hK nb2 1 (rfl) (by omega) (by decide) hS (hA _ (by omega)) dX4_change_109 (fun H1 locs1 hw9 hz oq hS => ?_)
            have nb2 := hw9
            replace hwk := fun (z : Nat) (hz : z < Hw.size) => (oq z (by omega)).trans (hwk z hz)
            replace hil := hil.ne hlw9 (by omega) oq
            refine lv_astore (lv' := [(7, .ref b2), (6, .int (nI i)), (5, .int (nI (mostN (L k1) ((L k1).1)))), (4, .ref mk), (3, .ref (la k1)), (2, .int (nI 3)), (1, .int (nI k1)), (0, .ref o)]) hx hb dX4_change_110 hl (by decide) rfl (fun ls hl => ?_)
            refine lv_iload_n hx hb dX4_change_112 rfl (lv_at hl 5 rfl) ?_
            refine lv_iconst (v := nI 1) hx hb dX4_change_113 (by decide) ?_
            refine lv_icmp_ne (tgt := 237) hx hb dX4_change_114 (by decide) (fun c114 => ?_) (fun c114 => ?_)
            · skip
              have c114 : ¬ (3 = 1) := fun q9 => c114 ((nc_eq (a := 3) (b := 1) (by omega) (by omega)).mpr q9)
              refine lv_iload_n hx hb dX4_change_237 rfl (lv_at hl 5 rfl) ?_
              refine lv_iconst (v := nI 2) hx hb dX4_change_238 (by decide) ?_
              refine lv_icmp_ne (tgt := 319) hx hb dX4_change_239 (by decide) (fun c239 => ?_) (fun c239 => ?_)
              · skip
                have c239 : ¬ (3 = 2) := fun q9 => c239 ((nc_eq (a := 3) (b := 2) (by omega) (by omega)).mpr q9)
                refine lv_iload_n hx hb dX4_change_319 rfl (lv_at hl 5 rfl) ?_
                refine lv_iconst (v := nI 3) hx hb dX4_change_320 (by decide) ?_
                refine lv_icmp_ne (tgt := 353) hx hb dX4_change_321 (by decide) (fun c321 => ?_) (fun c321 => ?_)
                · skip
                  have c321 : ¬ (3 = 3) := fun q9 => c321 ((nc_eq (a := 3) (b := 3) (by omega) (by omega)).mpr q9)
                  omega
                · skip
                  have c321 : 3 = 3 := (nc_eq (a := 3) (b := 3) (by omega) (by omega)).mp c321
                  refine lv_aload hx hb dX4_change_324 (lv_at hl 0 rfl) ?_
                  refine lv_iconst (v := nI 0) hx hb dX4_change_326 (by decide) ?_
                  refine q_iald hx hb hK nb2 0 (rfl) (by omega) (by decide) dX4_change_327 ?_
                  refine W.eq (g2 := F0 m 328 ls [.int (nI ((L k1).2.1 i))]) rfl ?_
                  refine lv_aload hx hb dX4_change_328 (lv_at hl 0 rfl) ?_
                  refine lv_iconst (v := nI 1) hx hb dX4_change_330 (by decide) ?_
                  refine q_iald hx hb hK nb2 1 (rfl) (by omega) (by decide) dX4_change_331 ?_
                  refine W.eq (g2 := F0 m 332 ls [.int (nI ((L k1).2.2 i)), .int (nI ((L k1).2.1 i))]) rfl ?_
                  refine lv_icmp_ne (tgt := 353) hx hb dX4_change_332 (by decide) (fun c332 => ?_) (fun c332 => ?_)
                  · skip
                    have c332 : ¬ ((L k1).2.1 i = (L k1).2.2 i) := fun q9 => c332 ((nc_eq (a := (L k1).2.1 i) (b := (L k1).2.2 i) (by omega) (by omega)).mpr q9)
                    refine lv_iload_n hx hb dX4_change_353 rfl (lv_at hl 5 rfl) ?_
                    refine lv_iconst (v := nI 4) hx hb dX4_change_354 (by decide) ?_
                    refine lv_icmp_ne (tgt := 408) hx hb dX4_change_355 (by decide) (fun c355 => ?_) (fun c355 => ?_)
                    · skip
                      have c355 : ¬ (3 = 4) := fun q9 => c355 ((nc_eq (a := 3) (b := 4) (by omega) (by omega)).mpr q9)
                      refine lv_iload_n hx hb dX4_change_408 rfl (lv_at hl 5 rfl) ?_
                      refine lv_iconst (v := nI 5) hx hb dX4_change_409 (by decide) ?_
                      refine lv_icmp_ne (tgt := 444) hx hb dX4_change_410 (by decide) (fun c410 => ?_) (fun c410 => ?_)
                      · skip
                        have c410 : ¬ (3 = 5) := fun q9 => c410 ((nc_eq (a := 3) (b := 5) (by omega) (by omega)).mpr q9)
                        refine lv_iinc (v := nI (i + 1)) (lv' := [(6, .int (nI (i + 1))), (7, .ref b2), (5, .int (nI (mostN (L k1) ((L k1).1)))), (4, .ref mk), (3, .ref (la k1)), (2, .int (nI 3)), (1, .int (nI k1)), (0, .ref o)]) hx hb dX4_change_444 hl (k := 1) rfl (inc_1 _) (by decide) rfl (fun ls hl => ?_)
                        refine lv_goto (tgt := 82) hx hb dX4_change_447 (by decide) ?_
                        exact W.widen (by omega) (by omega) (hnext _ _ _ ⟨mk, adm, S, hS, lv_sub hl [0, 2, 3, 4, 5, 6, 7] rfl, (by omega), (by exact hil), (by first | exact lo_y2 hR1 hq (pB_out (by omega) (by omega)) (by omega) hrep (by omega) (by omega) | exact lo_n hR1 hq (by omega) hrep (by omega)), (by exact hwk)⟩)
                      · skip
                        have c410 : 3 = 5 := (nc_eq (a := 3) (b := 5) (by omega) (by omega)).mp c410
                        omega
                    · skip
                      have c355 : 3 = 4 := (nc_eq (a := 3) (b := 4) (by omega) (by omega)).mp c355
                      omega
                  · skip
                    have c332 : (L k1).2.1 i = (L k1).2.2 i := (nc_eq (a := (L k1).2.1 i) (b := (L k1).2.2 i) (by omega) (by omega)).mp c332
                    refine lv_aload hx hb dX4_change_335 (lv_at hl 0 rfl) ?_
                    refine lv_iconst (v := nI 0) hx hb dX4_change_337 (by decide) ?_
                    refine q_iald hx hb hK nb2 0 (rfl) (by omega) (by decide) dX4_change_338 ?_
                    refine W.eq (g2 := F0 m 339 ls [.int (nI ((L k1).2.1 i))]) rfl ?_
                    refine lv_iconst (v := nI 2) hx hb dX4_change_339 (by decide) ?_
                    refine lv_irem hx hb dX4_change_340 (by decide) ?_
                    rw [pk_rem (a := (L k1).2.1 i) (d := 2) (by omega) (by omega) (by omega)]
                    refine lv_if_ne (tgt := 353) hx hb dX4_change_341 (by decide) (fun c341 => ?_) (fun c341 => ?_)
                    · skip
                      have c341 : ¬ (((L k1).2.1 i) % 2 = 0) := fun q9 => c341 ((nc_eq (a := ((L k1).2.1 i) % 2) (b := 0) (by omega) (by omega)).mpr q9)
                      refine lv_iload_n hx hb dX4_change_353 rfl (lv_at hl 5 rfl) ?_
                      refine lv_iconst (v := nI 4) hx hb dX4_change_354 (by decide) ?_
                      refine lv_icmp_ne (tgt := 408) hx hb dX4_change_355 (by decide) (fun c355 => ?_) (fun c355 => ?_)
                      · skip
                        have c355 : ¬ (3 = 4) := fun q9 => c355 ((nc_eq (a := 3) (b := 4) (by omega) (by omega)).mpr q9)
                        refine lv_iload_n hx hb dX4_change_408 rfl (lv_at hl 5 rfl) ?_
                        refine lv_iconst (v := nI 5) hx hb dX4_change_409 (by decide) ?_
                        refine lv_icmp_ne (tgt := 444) hx hb dX4_change_410 (by decide) (fun c410 => ?_) (fun c410 => ?_)
                        · skip
                          have c410 : ¬ (3 = 5) := fun q9 => c410 ((nc_eq (a := 3) (b := 5) (by omega) (by omega)).mpr q9)
                          refine lv_iinc (v := nI (i + 1)) (lv' := [(6, .int (nI (i + 1))), (7, .ref b2), (5, .int (nI (mostN (L k1) ((L k1).1)))), (4, .ref mk), (3, .ref (la k1)), (2, .int (nI 3)), (1, .int (nI k1)), (0, .ref o)]) hx hb dX4_change_444 hl (k := 1) rfl (inc_1 _) (by decide) rfl (fun ls hl => ?_)
                          refine lv_goto (tgt := 82) hx hb dX4_change_447 (by decide) ?_
                          exact W.widen (by omega) (by omega) (hnext _ _ _ ⟨mk, adm, S, hS, lv_sub hl [0, 2, 3, 4, 5, 6, 7] rfl, (by omega), (by exact hil), (by first | exact lo_y2 hR1 hq (pB_out (by omega) (by omega)) (by omega) hrep (by omega) (by omega) | exact lo_n hR1 hq (by omega) hrep (by omega)), (by exact hwk)⟩)
                        · skip
                          have c410 : 3 = 5 := (nc_eq (a := 3) (b := 5) (by omega) (by omega)).mp c410
                          omega
                      · skip
                        have c355 : 3 = 4 := (nc_eq (a := 3) (b := 4) (by omega) (by omega)).mp c355
                        omega
                    · skip
                      have c341 : ((L k1).2.1 i) % 2 = 0 := (nc_eq (a := ((L k1).2.1 i) % 2) (b := 0) (by omega) (by omega)).mp c341
                      refine lv_aload hx hb dX4_change_344 (lv_at hl 3 rfl) ?_
                      refine lv_aload hx hb dX4_change_346 (lv_at hl 0 rfl) ?_
                      obtain ⟨b3, hb3⟩ : ∃ z : Nat, z = H1.size := ⟨_, rfl⟩
                      have lnb2_b3 : b2 < b3 := by have h8 := nb2.lt; omega
                      have ln_b3 : s.heap.size ≤ b3 := by have h8 := hS.1; omega
                      have lw_b3 : Hw.size ≤ b3 := by have h8 := kp_sz hwk; omega
                      refine va_callr (va_runS (As := [.ref mk, .ref b2]) (rest := []) ⟨hx, hb, hml, hown, hts⟩ (conX4_with l D T b3 b1 mk b2 ((L k1).2.1 i) ((L k1).2.2 i) (fun k => adm k) S.1 S.2.1 S.2.2 (by omega) (by omega)) (va_cwS 2 hts gX4_change_X4_with rfl rfl rfl (by decide +kernel) ⟨Nat.le_of_ble_eq_true rfl, Nat.le_of_ble_eq_true rfl⟩) (preS hK ⟨hb3.symm, hil, nb2.outN (pr2_u _ _)⟩) rfl rfl hl.1 rfl (lv_room (Nat.le_of_ble_eq_true rfl)) dX4_change_348 ⟨by show _ ≤ 310; omega, by show _ ≤ 11000; omega⟩) hS (fun q _ h9 => (hA q (by have h8 : b3 ≤ q := h9; omega))) (fun q h9 => (hA q (by have h8 : b3 ≤ q := h9; omega))) (fun u ra t H1 locs1 ht hvm hw9 hB hz1 hk1 hS => ?_)
                      try dsimp only at hB
                      rw [ht] at hB
                      obtain ⟨a12, rfl⟩ : ∃ z, z = ra := ⟨_, rfl⟩
                      obtain ⟨hra, hz9, hil⟩ := hB
                      subst hra
                      replace hwk := fun (z : Nat) (hz : z < Hw.size) => (hk1 z (by omega) (fun h9 => by have h8 : a12 ≤ z := h9; omega)).trans (hwk z hz)
                      refine lv_astore (lv' := [(4, .ref a12), (7, .ref b2), (6, .int (nI i)), (5, .int (nI (mostN (L k1) ((L k1).1)))), (3, .ref (la k1)), (2, .int (nI 3)), (1, .int (nI k1)), (0, .ref o)]) hx hb dX4_change_351 hl (by decide) rfl (fun ls hl => ?_)
                      refine lv_iload_n hx hb dX4_change_353 rfl (lv_at hl 5 rfl) ?_
                      refine lv_iconst (v := nI 4) hx hb dX4_change_354 (by decide) ?_
                      refine lv_icmp_ne (tgt := 408) hx hb dX4_change_355 (by decide) (fun c355 => ?_) (fun c355 => ?_)
                      · skip
                        have c355 : ¬ (3 = 4) := fun q9 => c355 ((nc_eq (a := 3) (b := 4) (by omega) (by omega)).mpr q9)
                        refine lv_iload_n hx hb dX4_change_408 rfl (lv_at hl 5 rfl) ?_
                        refine lv_iconst (v := nI 5) hx hb dX4_change_409 (by decide) ?_
                        refine lv_icmp_ne (tgt := 444) hx hb dX4_change_410 (by decide) (fun c410 => ?_) (fun c410 => ?_)
                        · skip
                          have c410 : ¬ (3 = 5) := fun q9 => c410 ((nc_eq (a := 3) (b := 5) (by omega) (by omega)).mpr q9)
                          refine lv_iinc (v := nI (i + 1)) (lv' := [(6, .int (nI (i + 1))), (4, .ref a12), (7, .ref b2), (5, .int (nI (mostN (L k1) ((L k1).1)))), (3, .ref (la k1)), (2, .int (nI 3)), (1, .int (nI k1)), (0, .ref o)]) hx hb dX4_change_444 hl (k := 2) rfl (inc_1 _) (by decide) rfl (fun ls hl => ?_)
                          refine lv_goto (tgt := 82) hx hb dX4_change_447 (by decide) ?_
                          exact W.widen (by omega) (by omega) (hnext _ _ _ ⟨a12, fun k => if k = S.1 then b2 else adm k, snocS S ((L k1).2.1 i) ((L k1).2.2 i), hS, lv_sub hl [0, 3, 1, 4, 5, 6, 7] rfl, (by omega), (by exact hil), (by first | exact lo_y2 hR1 hq (pB_out (by omega) (by omega)) (by omega) hrep (by omega) (by omega) | exact lo_n hR1 hq (by omega) hrep (by omega)), (by exact hwk)⟩)
                        · skip
                          have c410 : 3 = 5 := (nc_eq (a := 3) (b := 5) (by omega) (by omega)).mp c410
                          omega
                      · skip
                        have c355 : 3 = 4 := (nc_eq (a := 3) (b := 4) (by omega) (by omega)).mp c355
                        omega
              · skip
                have c239 : 3 = 2 := (nc_eq (a := 3) (b := 2) (by omega) (by omega)).mp c239
                omega
            · skip
              have c114 : 3 = 1 := (nc_eq (a := 3) (b := 1) (by omega) (by omega)).mp c114
              omega
        · skip
          intro H locs ls hin9
          obtain ⟨mk, adm, S, hS, hl, hmk, hil, hrep, hwk⟩ := hin9
          have hle9 := hrep.1.le
          refine lv_iload hx hb dX4_change_82 (lv_at hl 0 rfl) ?_
          refine lv_aload_n hx hb dX4_change_84 rfl (lv_at hl 3 rfl) ?_
          refine q_len hx hb hK 5 rfl (hi1.old hwk).1 dX4_change_85 ?_
          refine lv_icmp_ge (tgt := 450) hx hb dX4_change_86 (by decide) (fun c86 => ?_) (fun c86 => ?_)
          · skip
            have c86 : (L k1).1 ≤ (L k1).1 := (nc_le (a := (L k1).1) (b := (L k1).1) (by omega) (by omega)).mp c86
            refine lv_iload_n hx hb dX4_change_450 rfl (lv_at hl 4 rfl) ?_
            refine lv_if_ne (tgt := 460) hx hb dX4_change_451 (by decide) (fun c451 => ?_) (fun c451 => ?_)
            · skip
              have c451 : ¬ (3 = 0) := fun q9 => c451 ((nc_eq (a := 3) (b := 0) (by omega) (by omega)).mpr q9)
              refine lv_iload_n hx hb dX4_change_460 rfl (lv_at hl 4 rfl) ?_
              refine lv_bipush (v := nI 6) hx hb dX4_change_461 (by decide) ?_
              refine lv_icmp_ne (tgt := 504) hx hb dX4_change_463 (by decide) (fun c463 => ?_) (fun c463 => ?_)
              · skip
                have c463 : ¬ (3 = 6) := fun q9 => c463 ((nc_eq (a := 3) (b := 6) (by omega) (by omega)).mpr q9)
                have hrep : Rep (pB (chgG (F k1) sr 3)) 201 (S) := by have e9 := end_fr hR1 (fun j hj q9 => ((hq j hj).mp q9).1) hrep; rw [hqq] at e9; rw [chgG_3]; exact e9
                refine lv_aload_n hx hb dX4_change_504 rfl (lv_at hl 6 rfl) ?_
                refine q_get (v := .ref (o + 38)) hx hb hts hin4 hown hK (hw.ob.kept (hwk _ hw.ob.lt)) rfl 3 (by decide) (hts (.fieldLink RX4 18 "PuddingstoneLineLaw$Stones" "sets" "[[[I") (by decide +kernel)) (fun _ h9 => h9) rfl dX4_change_505 ?_
                refine lv_iload_n hx hb dX4_change_508 rfl (lv_at hl 5 rfl) ?_
                refine lv_aload hx hb dX4_change_509 (lv_at hl 2 rfl) ?_
                refine q_aastq hx hb hK (hw.ss.kept (hwk _ hw.ss.lt)) hil.1 k1 rfl (by omega) (by decide) hS (hA _ (by omega)) dX4_change_511 (fun H1 locs1 hw9 hz oq hS => ?_)
                replace hw := (hw.old hwk).setL (k := k1) (m := mk) (S := S) (by omega) hrep.1.le ⟨_, hil.wk (by omega)⟩ hw9 oq
                replace hil := hil.up (m := o + 53) (by omega) (by omega) (fun z h8 h7 => oq z (by omega))
                refine lv_aload_n hx hb dX4_change_512 rfl (lv_at hl 6 rfl) ?_
                refine q_get (v := .ref (ad 0)) hx hb hts hin4 hown hK hw.ob rfl 0 (by decide) (hts (.fieldLink RX4 10 "PuddingstoneLineLaw$Stones" "m" "LPuddingstoneLine;") (by decide +kernel)) (fun _ h9 => h9) rfl dX4_change_513 ?_
                refine lv_iload_n hx hb dX4_change_516 rfl (lv_at hl 5 rfl) ?_
                refine lv_iload_n hx hb dX4_change_517 rfl (lv_at hl 4 rfl) ?_
                refine va_calli (va_runV (As := [.int (nI k1), .int (nI 3)]) (rest := []) ⟨hx, hb, hml, hown, hts⟩ (conX3_change l D T ad F V sr C k1 3 (by omega) (by omega) hinv.1) (cwV 2 hts gX4_change_X3_change rfl rfl rfl (by decide +kernel) ⟨Nat.le_of_ble_eq_true rfl, Nat.le_of_ble_eq_true rfl⟩) (preV hK hw.pl.o rfl hw.pl) rfl rfl hl.1 rfl (lv_room (Nat.le_of_ble_eq_true rfl)) dX4_change_518 ⟨by show _ ≤ 310; omega, by show _ ≤ 11000; omega⟩) hS (fun q _ h9 => (by obtain ⟨i9, h8, rfl⟩ := h9; exact hA _ (by have := hw.1 i9 h8; omega))) (fun q h9 => (by obtain ⟨i9, h8, rfl⟩ := h9; exact hA _ (by have := hw.1 i9 h8; omega))) (fun r u t H1 locs1 ht hvm hw9 hB hz1 hk1 hS => ?_)
                try dsimp only at hB
                rw [ht] at hB
                rw [hw9]
                replace hil := hil.up (m := o + 53) (by omega) (by omega) (fun z h8 h7 => hk1 z h7 (fun ⟨i9, h6, h5⟩ => by have := hw.1 i9 h6; omega))
                replace hw := hw.setP hB (fun q h1 h2 => hk1 q h1 h2)
                refine lv_aload hx hb dX4_change_521 (lv_at hl 2 rfl) ?_
                refine vp_callSi (va_runS (As := [.ref mk]) (rest := [.int (cntZ (chgG (F k1) sr 3) 201)]) ⟨hx, hb, hml, hown, hts⟩ (conX4_count l D T b1 mk (fun k => adm k) S.1 S.2.1 S.2.2 (fun k hk => hrep.sp hk) hrep.1.le) (va_cwS 1 hts gX4_change_X4_count rfl rfl rfl (by decide +kernel) ⟨Nat.le_of_ble_eq_true rfl, Nat.le_of_ble_eq_true rfl⟩) (preS hK hil) rfl rfl hl.1 rfl (lv_room (Nat.le_of_ble_eq_true rfl)) dX4_change_523 ⟨by show _ ≤ 310; omega, by show _ ≤ 11000; omega⟩).run (fun r13 hr13 => ?_)
                rw [hr13]
                have hans := ans_cnt hrep
                refine lv_icmp_ne (tgt := 533) hx hb dX4_change_526 (by decide) (fun c526 => ?_) (fun c526 => ?_)
                · skip
                  exact absurd hans c526
                · skip
                  refine lv_iconst (v := nI 1) hx hb dX4_change_529 (by decide) ?_
                  refine lv_goto (tgt := 534) hx hb dX4_change_530 (by decide) ?_
                  refine W.widen (k := 310) (n := 11000) (by first | omega | decide) (by first | omega | decide) ?_
                  exact W.zret (v := nI 1) hx hb hr (rfl) (fun t ht _ => ⟨⟨nI 1, (), rfl, by rfl, by dsimp only; rw [ht]; exact ⟨_, _, _, _, _, _, _, _, _, by omega, (by have h8 := hS.1; omega), hw, hinv.put (chgS_le hinv.1) up_ne (by rw [va_up_s]; exact hrep)⟩⟩, hS.F ht⟩) hS.2.2 dX4_change_534
              · skip
                have c463 : 3 = 6 := (nc_eq (a := 3) (b := 6) (by omega) (by omega)).mp c463
                omega
            · skip
              have c451 : 3 = 0 := (nc_eq (a := 3) (b := 0) (by omega) (by omega)).mp c451
              omega
          · skip
            have c86 : ¬ ((L k1).1 ≤ (L k1).1) := fun q9 => c86 ((nc_le (a := (L k1).1) (b := (L k1).1) (by omega) (by omega)).mpr q9)
            omega
      · skip
        obtain ⟨qq, hqq⟩ : ∃ z, z = pB (mirZ (F k1) 100) := ⟨_, rfl⟩
        have hq := chg_q4 (F k1)
        rw [← hqq] at hq
        refine lv_iconst (v := nI 0) hx hb dX4_change_79 (by decide) ?_
        refine lv_istore (lv' := [(6, .int (nI 0)), (8, .int (nI ((L k1).1))), (7, .int (nI ((L k1).1))), (5, .int (nI (mostN (L k1) ((L k1).1)))), (4, .ref b1), (3, .ref (la k1)), (2, .int (nI 4)), (1, .int (nI k1)), (0, .ref o)]) hx hb dX4_change_80 hl (by decide) rfl (fun ls hl => ?_)
        refine q_forg (fun (i : Nat) (H : Heap) (locs : List Loc) (ls : Array Slot) => ∃ mk : Nat, ∃ adm : Nat → Nat, ∃ S : SL, va_S A s.heap H locs ∧ lv_has ls 10 [(6, .int (nI i)), (5, .int (nI (mostN (L k1) ((L k1).1)))), (4, .ref mk), (3, .ref (la k1)), (2, .int (nI 4)), (1, .int (nI k1)), (0, .ref o)] ∧ b1 ≤ mk ∧ ILA D T b1 mk adm S.1 S.2.1 S.2.2 H ∧ Rep (qq) (rfN (L k1) i) S ∧ ∀ z : Nat, z < Hw.size → H[z]? = Hw[z]?) ((L k1).1) 3 106 ?_ ?_ ?_
        · skip
          exact ⟨b1, fun _ => 0, (0, fun _ => 0, fun _ => 0), hS, lv_sub hl [0, 3, 4, 5, 6, 7, 8] rfl, (by omega), (by exact hil), (by rw [(show rfN (L k1) 0 = 0 from if_pos rfl)]; exact Rep.nil _ _ _), (by exact hwk)⟩
        · skip
          intro i H locs ls hi9 hin9 hnext
          obtain ⟨mk, adm, S, hS, hl, hmk, hil, hrep, hwk⟩ := hin9
          have hle9 := hrep.1.le
          refine lv_iload hx hb dX4_change_82 (lv_at hl 0 rfl) ?_
          refine lv_aload_n hx hb dX4_change_84 rfl (lv_at hl 3 rfl) ?_
          refine q_len hx hb hK 5 rfl (hi1.old hwk).1 dX4_change_85 ?_
          refine lv_icmp_ge (tgt := 450) hx hb dX4_change_86 (by decide) (fun c86 => ?_) (fun c86 => ?_)
          · skip
            have c86 : (L k1).1 ≤ i := (nc_le (a := (L k1).1) (b := i) (by omega) (by omega)).mp c86
            omega
          · skip
            have c86 : ¬ ((L k1).1 ≤ i) := fun q9 => c86 ((nc_le (a := (L k1).1) (b := i) (by omega) (by omega)).mpr q9)
            have hsp9 := hR1.sp (show i < (L k1).1 by omega)
            refine lv_iconst (v := nI 2) hx hb dX4_change_89 (by decide) ?_
            have hlw9 := hil.low
            obtain ⟨b2, hb2⟩ : ∃ z : Nat, z = H.size := ⟨_, rfl⟩
            have ln_b2 : s.heap.size ≤ b2 := by have h8 := hS.1; omega
            have lw_b2 : Hw.size ≤ b2 := by have h8 := kp_sz hwk; omega
            refine q_newi hx hb (hts (.arrayClass .int) (by decide +kernel)) hK 2 rfl (by decide) (by show _ ≤ 310; omega) (by show _ ≤ 11000; omega) hS dX4_change_90 (fun H1 hw9 z1 o1 hS => ?_)
            rw [← hb2] at hw9 ⊢
            have nb2 := hw9
            have sb2 : H1.size = b2 + 1 := by omega
            replace hwk := fun (z : Nat) (hz : z < Hw.size) => (o1 z (by omega)).trans (hwk z hz)
            replace hil := hil.old o1
            refine lv_dup hx hb dX4_change_92 rfl ?_
            refine lv_iconst (v := nI 0) hx hb dX4_change_93 (by decide) ?_
            refine lv_aload_n hx hb dX4_change_94 rfl (lv_at hl 3 rfl) ?_
            refine lv_iload hx hb dX4_change_95 (lv_at hl 0 rfl) ?_
            refine q_aald hx hb hK 5 rfl rfl (hi1.old hwk).1 i rfl (by omega) (by omega) (b := ads1 i) rfl dX4_change_97 ?_
            refine lv_iconst (v := nI 0) hx hb dX4_change_98 (by decide) ?_
            refine q_iald hx hb hK ((hi1.old hwk).2 i (by omega)).2 0 (rfl) (by omega) (by decide) dX4_change_99 ?_
            refine W.eq (g2 := F0 m 100 ls [.int (nI ((L k1).2.1 i)), .int (nI 0), .ref b2, .ref b2]) rfl ?_
            refine q_iast hx hb hK nb2 0 (rfl) (by omega) (by decide) hS (hA _ (by omega)) dX4_change_100 (fun H1 locs1 hw9 hz oq hS => ?_)
            have nb2 := hw9
            replace hwk := fun (z : Nat) (hz : z < Hw.size) => (oq z (by omega)).trans (hwk z hz)
            replace hil := hil.ne hlw9 (by omega) oq
            refine lv_dup hx hb dX4_change_101 rfl ?_
            refine lv_iconst (v := nI 1) hx hb dX4_change_102 (by decide) ?_
            refine lv_aload_n hx hb dX4_change_103 rfl (lv_at hl 3 rfl) ?_
            refine lv_iload hx hb dX4_change_104 (lv_at hl 0 rfl) ?_
            refine q_aald hx hb hK 5 rfl rfl (hi1.old hwk).1 i rfl (by omega) (by omega) (b := ads1 i) rfl dX4_change_106 ?_
            refine lv_iconst (v := nI 1) hx hb dX4_change_107 (by decide) ?_
            refine q_iald hx hb hK ((hi1.old hwk).2 i (by omega)).2 1 (rfl) (by omega) (by decide) dX4_change_108 ?_
            refine W.eq (g2 := F0 m 109 ls [.int (nI ((L k1).2.2 i)), .int (nI 1), .ref b2, .ref b2]) rfl ?_
            refine q_iast hx hb hK nb2 1 (rfl) (by omega) (by decide) hS (hA _ (by omega)) dX4_change_109 (fun H1 locs1 hw9 hz oq hS => ?_)
            have nb2 := hw9
            replace hwk := fun (z : Nat) (hz : z < Hw.size) => (oq z (by omega)).trans (hwk z hz)
            replace hil := hil.ne hlw9 (by omega) oq
            refine lv_astore (lv' := [(7, .ref b2), (6, .int (nI i)), (5, .int (nI (mostN (L k1) ((L k1).1)))), (4, .ref mk), (3, .ref (la k1)), (2, .int (nI 4)), (1, .int (nI k1)), (0, .ref o)]) hx hb dX4_change_110 hl (by decide) rfl (fun ls hl => ?_)
            refine lv_iload_n hx hb dX4_change_112 rfl (lv_at hl 5 rfl) ?_
            refine lv_iconst (v := nI 1) hx hb dX4_change_113 (by decide) ?_
            refine lv_icmp_ne (tgt := 237) hx hb dX4_change_114 (by decide) (fun c114 => ?_) (fun c114 => ?_)
            · skip
              have c114 : ¬ (4 = 1) := fun q9 => c114 ((nc_eq (a := 4) (b := 1) (by omega) (by omega)).mpr q9)
              refine lv_iload_n hx hb dX4_change_237 rfl (lv_at hl 5 rfl) ?_
              refine lv_iconst (v := nI 2) hx hb dX4_change_238 (by decide) ?_
              refine lv_icmp_ne (tgt := 319) hx hb dX4_change_239 (by decide) (fun c239 => ?_) (fun c239 => ?_)
              · skip
                have c239 : ¬ (4 = 2) := fun q9 => c239 ((nc_eq (a := 4) (b := 2) (by omega) (by omega)).mpr q9)
                refine lv_iload_n hx hb dX4_change_319 rfl (lv_at hl 5 rfl) ?_
                refine lv_iconst (v := nI 3) hx hb dX4_change_320 (by decide) ?_
                refine lv_icmp_ne (tgt := 353) hx hb dX4_change_321 (by decide) (fun c321 => ?_) (fun c321 => ?_)
                · skip
                  have c321 : ¬ (4 = 3) := fun q9 => c321 ((nc_eq (a := 4) (b := 3) (by omega) (by omega)).mpr q9)
                  refine lv_iload_n hx hb dX4_change_353 rfl (lv_at hl 5 rfl) ?_
                  refine lv_iconst (v := nI 4) hx hb dX4_change_354 (by decide) ?_
                  refine lv_icmp_ne (tgt := 408) hx hb dX4_change_355 (by decide) (fun c355 => ?_) (fun c355 => ?_)
                  · skip
                    have c355 : ¬ (4 = 4) := fun q9 => c355 ((nc_eq (a := 4) (b := 4) (by omega) (by omega)).mpr q9)
                    omega
                  · skip
                    have c355 : 4 = 4 := (nc_eq (a := 4) (b := 4) (by omega) (by omega)).mp c355
                    have hsr9 := hR1.sp (show (L k1).1 - 1 - i < (L k1).1 by omega)
                    refine lv_iconst (v := nI 2) hx hb dX4_change_358 (by decide) ?_
                    have hlw9 := hil.low
                    obtain ⟨b3, hb3⟩ : ∃ z : Nat, z = H1.size := ⟨_, rfl⟩
                    have lnb2_b3 : b2 < b3 := by have h8 := nb2.lt; omega
                    have ln_b3 : s.heap.size ≤ b3 := by have h8 := hS.1; omega
                    have lw_b3 : Hw.size ≤ b3 := by have h8 := kp_sz hwk; omega
                    refine q_newi hx hb (hts (.arrayClass .int) (by decide +kernel)) hK 2 rfl (by decide) (by show _ ≤ 310; omega) (by show _ ≤ 11000; omega) hS dX4_change_359 (fun H1 hw9 z1 o1 hS => ?_)
                    rw [← hb3] at hw9 ⊢
                    replace nb2 := nb2.old o1
                    have nb3 := hw9
                    have sb3 : H1.size = b3 + 1 := by omega
                    replace hwk := fun (z : Nat) (hz : z < Hw.size) => (o1 z (by omega)).trans (hwk z hz)
                    replace hil := hil.old o1
                    refine lv_dup hx hb dX4_change_361 rfl ?_
                    refine lv_iconst (v := nI 0) hx hb dX4_change_362 (by decide) ?_
                    refine lv_sipush (v := nI 200) hx hb dX4_change_363 (by decide) ?_
                    refine lv_aload_n hx hb dX4_change_366 rfl (lv_at hl 4 rfl) ?_
                    refine lv_aload_n hx hb dX4_change_367 rfl (lv_at hl 4 rfl) ?_
                    refine q_len hx hb hK 5 rfl (hi1.old hwk).1 dX4_change_368 ?_
                    refine lv_iconst (v := nI 1) hx hb dX4_change_369 (by decide) ?_
                    refine lv_isub hx hb dX4_change_370 ?_
                    rw [pk_sub (a := (L k1).1) (b := 1) (by omega)]
                    refine lv_iload hx hb dX4_change_371 (lv_at hl 1 rfl) ?_
                    refine lv_isub hx hb dX4_change_373 ?_
                    rw [pk_sub (a := ((L k1).1) - 1) (b := i) (by omega)]
                    refine q_aald hx hb hK 5 rfl rfl (hi1.old hwk).1 ((((L k1).1) - 1) - i) rfl (by omega) (by omega) (b := ads1 ((((L k1).1) - 1) - i)) rfl dX4_change_374 ?_
                    refine lv_iconst (v := nI 1) hx hb dX4_change_375 (by decide) ?_
                    refine q_iald hx hb hK ((hi1.old hwk).2 ((((L k1).1) - 1) - i) (by omega)).2 1 (rfl) (by omega) (by decide) dX4_change_376 ?_
                    refine W.eq (g2 := F0 m 377 ls [.int (nI ((L k1).2.2 ((((L k1).1) - 1) - i))), .int (nI 200), .int (nI 0), .ref b3, .ref b3]) rfl ?_
                    refine lv_isub hx hb dX4_change_377 ?_
                    rw [pk_sub (a := 200) (b := (L k1).2.2 ((((L k1).1) - 1) - i)) (by omega)]
                    refine q_iast hx hb hK nb3 0 (rfl) (by omega) (by decide) hS (hA _ (by omega)) dX4_change_378 (fun H1 locs1 hw9 hz oq hS => ?_)
                    replace nb2 := nb2.ne oq (by omega)
                    have nb3 := hw9
                    replace hwk := fun (z : Nat) (hz : z < Hw.size) => (oq z (by omega)).trans (hwk z hz)
                    replace hil := hil.ne hlw9 (by omega) oq
                    refine lv_dup hx hb dX4_change_379 rfl ?_
                    refine lv_iconst (v := nI 1) hx hb dX4_change_380 (by decide) ?_
                    refine lv_sipush (v := nI 200) hx hb dX4_change_381 (by decide) ?_
                    refine lv_aload_n hx hb dX4_change_384 rfl (lv_at hl 4 rfl) ?_
                    refine lv_aload_n hx hb dX4_change_385 rfl (lv_at hl 4 rfl) ?_
                    refine q_len hx hb hK 5 rfl (hi1.old hwk).1 dX4_change_386 ?_
                    refine lv_iconst (v := nI 1) hx hb dX4_change_387 (by decide) ?_
                    refine lv_isub hx hb dX4_change_388 ?_
                    rw [pk_sub (a := (L k1).1) (b := 1) (by omega)]
                    refine lv_iload hx hb dX4_change_389 (lv_at hl 1 rfl) ?_
                    refine lv_isub hx hb dX4_change_391 ?_
                    rw [pk_sub (a := ((L k1).1) - 1) (b := i) (by omega)]
                    refine q_aald hx hb hK 5 rfl rfl (hi1.old hwk).1 ((((L k1).1) - 1) - i) rfl (by omega) (by omega) (b := ads1 ((((L k1).1) - 1) - i)) rfl dX4_change_392 ?_
                    refine lv_iconst (v := nI 0) hx hb dX4_change_393 (by decide) ?_
                    refine q_iald hx hb hK ((hi1.old hwk).2 ((((L k1).1) - 1) - i) (by omega)).2 0 (rfl) (by omega) (by decide) dX4_change_394 ?_
                    refine W.eq (g2 := F0 m 395 ls [.int (nI ((L k1).2.1 ((((L k1).1) - 1) - i))), .int (nI 200), .int (nI 1), .ref b3, .ref b3]) rfl ?_
                    refine lv_isub hx hb dX4_change_395 ?_
                    rw [pk_sub (a := 200) (b := (L k1).2.1 ((((L k1).1) - 1) - i)) (by omega)]
                    refine q_iast hx hb hK nb3 1 (rfl) (by omega) (by decide) hS (hA _ (by omega)) dX4_change_396 (fun H1 locs1 hw9 hz oq hS => ?_)
                    replace nb2 := nb2.ne oq (by omega)
                    have nb3 := hw9
                    replace hwk := fun (z : Nat) (hz : z < Hw.size) => (oq z (by omega)).trans (hwk z hz)
                    replace hil := hil.ne hlw9 (by omega) oq
                    refine lv_astore (lv' := [(8, .ref b3), (7, .ref b2), (6, .int (nI i)), (5, .int (nI (mostN (L k1) ((L k1).1)))), (4, .ref mk), (3, .ref (la k1)), (2, .int (nI 4)), (1, .int (nI k1)), (0, .ref o)]) hx hb dX4_change_397 hl (by decide) rfl (fun ls hl => ?_)
                    refine lv_aload hx hb dX4_change_399 (lv_at hl 4 rfl) ?_
                    refine lv_aload hx hb dX4_change_401 (lv_at hl 0 rfl) ?_
                    obtain ⟨b4, hb4⟩ : ∃ z : Nat, z = H1.size := ⟨_, rfl⟩
                    have lnb2_b4 : b2 < b4 := by have h8 := nb2.lt; omega
                    have lnb3_b4 : b3 < b4 := by have h8 := nb3.lt; omega
                    have ln_b4 : s.heap.size ≤ b4 := by have h8 := hS.1; omega
                    have lw_b4 : Hw.size ≤ b4 := by have h8 := kp_sz hwk; omega
                    refine va_callr (va_runS (As := [.ref mk, .ref b3]) (rest := []) ⟨hx, hb, hml, hown, hts⟩ (conX4_with l D T b4 b1 mk b3 (200 - (L k1).2.2 ((L k1).1 - 1 - i)) (200 - (L k1).2.1 ((L k1).1 - 1 - i)) (fun k => adm k) S.1 S.2.1 S.2.2 (by omega) (by omega)) (va_cwS 2 hts gX4_change_X4_with rfl rfl rfl (by decide +kernel) ⟨Nat.le_of_ble_eq_true rfl, Nat.le_of_ble_eq_true rfl⟩) (preS hK ⟨hb4.symm, hil, nb3.outN (pr2_u _ _)⟩) rfl rfl hl.1 rfl (lv_room (Nat.le_of_ble_eq_true rfl)) dX4_change_403 ⟨by show _ ≤ 310; omega, by show _ ≤ 11000; omega⟩) hS (fun q _ h9 => (hA q (by have h8 : b4 ≤ q := h9; omega))) (fun q h9 => (hA q (by have h8 : b4 ≤ q := h9; omega))) (fun u ra t H1 locs1 ht hvm hw9 hB hz1 hk1 hS => ?_)
                    try dsimp only at hB
                    rw [ht] at hB
                    obtain ⟨a14, rfl⟩ : ∃ z, z = ra := ⟨_, rfl⟩
                    obtain ⟨hra, hz9, hil⟩ := hB
                    subst hra
                    replace hwk := fun (z : Nat) (hz : z < Hw.size) => (hk1 z (by omega) (fun h9 => by have h8 : a14 ≤ z := h9; omega)).trans (hwk z hz)
                    refine lv_astore (lv' := [(4, .ref a14), (8, .ref b3), (7, .ref b2), (6, .int (nI i)), (5, .int (nI (mostN (L k1) ((L k1).1)))), (3, .ref (la k1)), (2, .int (nI 4)), (1, .int (nI k1)), (0, .ref o)]) hx hb dX4_change_406 hl (by decide) rfl (fun ls hl => ?_)
                    refine lv_iload_n hx hb dX4_change_408 rfl (lv_at hl 6 rfl) ?_
                    refine lv_iconst (v := nI 5) hx hb dX4_change_409 (by decide) ?_
                    refine lv_icmp_ne (tgt := 444) hx hb dX4_change_410 (by decide) (fun c410 => ?_) (fun c410 => ?_)
                    · skip
                      have c410 : ¬ (4 = 5) := fun q9 => c410 ((nc_eq (a := 4) (b := 5) (by omega) (by omega)).mpr q9)
                      refine lv_iinc (v := nI (i + 1)) (lv' := [(6, .int (nI (i + 1))), (4, .ref a14), (8, .ref b3), (7, .ref b2), (5, .int (nI (mostN (L k1) ((L k1).1)))), (3, .ref (la k1)), (2, .int (nI 4)), (1, .int (nI k1)), (0, .ref o)]) hx hb dX4_change_444 hl (k := 3) rfl (inc_1 _) (by decide) rfl (fun ls hl => ?_)
                      refine lv_goto (tgt := 82) hx hb dX4_change_447 (by decide) ?_
                      exact W.widen (by omega) (by omega) (hnext _ _ _ ⟨a14, fun k => if k = S.1 then b3 else adm k, snocS S (200 - (L k1).2.2 ((L k1).1 - 1 - i)) (200 - (L k1).2.1 ((L k1).1 - 1 - i)), hS, lv_sub hl [0, 4, 1, 5, 6, 7, 8] rfl, (by omega), (by exact hil), (by exact mi_s hR1 hq (by omega) hrep), (by exact hwk)⟩)
                    · skip
                      have c410 : 4 = 5 := (nc_eq (a := 4) (b := 5) (by omega) (by omega)).mp c410
                      omega
                · skip
                  have c321 : 4 = 3 := (nc_eq (a := 4) (b := 3) (by omega) (by omega)).mp c321
                  omega
              · skip
                have c239 : 4 = 2 := (nc_eq (a := 4) (b := 2) (by omega) (by omega)).mp c239
                omega
            · skip
              have c114 : 4 = 1 := (nc_eq (a := 4) (b := 1) (by omega) (by omega)).mp c114
              omega
        · skip
          intro H locs ls hin9
          obtain ⟨mk, adm, S, hS, hl, hmk, hil, hrep, hwk⟩ := hin9
          have hle9 := hrep.1.le
          refine lv_iload hx hb dX4_change_82 (lv_at hl 0 rfl) ?_
          refine lv_aload_n hx hb dX4_change_84 rfl (lv_at hl 3 rfl) ?_
          refine q_len hx hb hK 5 rfl (hi1.old hwk).1 dX4_change_85 ?_
          refine lv_icmp_ge (tgt := 450) hx hb dX4_change_86 (by decide) (fun c86 => ?_) (fun c86 => ?_)
          · skip
            have c86 : (L k1).1 ≤ (L k1).1 := (nc_le (a := (L k1).1) (b := (L k1).1) (by omega) (by omega)).mp c86
            refine lv_iload_n hx hb dX4_change_450 rfl (lv_at hl 4 rfl) ?_
            refine lv_if_ne (tgt := 460) hx hb dX4_change_451 (by decide) (fun c451 => ?_) (fun c451 => ?_)
            · skip
              have c451 : ¬ (4 = 0) := fun q9 => c451 ((nc_eq (a := 4) (b := 0) (by omega) (by omega)).mpr q9)
              refine lv_iload_n hx hb dX4_change_460 rfl (lv_at hl 4 rfl) ?_
              refine lv_bipush (v := nI 6) hx hb dX4_change_461 (by decide) ?_
              refine lv_icmp_ne (tgt := 504) hx hb dX4_change_463 (by decide) (fun c463 => ?_) (fun c463 => ?_)
              · skip
                have c463 : ¬ (4 = 6) := fun q9 => c463 ((nc_eq (a := 4) (b := 6) (by omega) (by omega)).mpr q9)
                have hrep : Rep (pB (chgG (F k1) sr 4)) 201 (S) := by have e9 := mi_e hR1 hq hrep; rw [hqq] at e9; rw [chgG_4]; exact e9
                refine lv_aload_n hx hb dX4_change_504 rfl (lv_at hl 6 rfl) ?_
                refine q_get (v := .ref (o + 38)) hx hb hts hin4 hown hK (hw.ob.kept (hwk _ hw.ob.lt)) rfl 3 (by decide) (hts (.fieldLink RX4 18 "PuddingstoneLineLaw$Stones" "sets" "[[[I") (by decide +kernel)) (fun _ h9 => h9) rfl dX4_change_505 ?_
                refine lv_iload_n hx hb dX4_change_508 rfl (lv_at hl 5 rfl) ?_
                refine lv_aload hx hb dX4_change_509 (lv_at hl 2 rfl) ?_
                refine q_aastq hx hb hK (hw.ss.kept (hwk _ hw.ss.lt)) hil.1 k1 rfl (by omega) (by decide) hS (hA _ (by omega)) dX4_change_511 (fun H1 locs1 hw9 hz oq hS => ?_)
                replace hw := (hw.old hwk).setL (k := k1) (m := mk) (S := S) (by omega) hrep.1.le ⟨_, hil.wk (by omega)⟩ hw9 oq
                replace hil := hil.up (m := o + 53) (by omega) (by omega) (fun z h8 h7 => oq z (by omega))
                refine lv_aload_n hx hb dX4_change_512 rfl (lv_at hl 6 rfl) ?_
                refine q_get (v := .ref (ad 0)) hx hb hts hin4 hown hK hw.ob rfl 0 (by decide) (hts (.fieldLink RX4 10 "PuddingstoneLineLaw$Stones" "m" "LPuddingstoneLine;") (by decide +kernel)) (fun _ h9 => h9) rfl dX4_change_513 ?_
                refine lv_iload_n hx hb dX4_change_516 rfl (lv_at hl 5 rfl) ?_
                refine lv_iload_n hx hb dX4_change_517 rfl (lv_at hl 4 rfl) ?_
                refine va_calli (va_runV (As := [.int (nI k1), .int (nI 4)]) (rest := []) ⟨hx, hb, hml, hown, hts⟩ (conX3_change l D T ad F V sr C k1 4 (by omega) (by omega) hinv.1) (cwV 2 hts gX4_change_X3_change rfl rfl rfl (by decide +kernel) ⟨Nat.le_of_ble_eq_true rfl, Nat.le_of_ble_eq_true rfl⟩) (preV hK hw.pl.o rfl hw.pl) rfl rfl hl.1 rfl (lv_room (Nat.le_of_ble_eq_true rfl)) dX4_change_518 ⟨by show _ ≤ 310; omega, by show _ ≤ 11000; omega⟩) hS (fun q _ h9 => (by obtain ⟨i9, h8, rfl⟩ := h9; exact hA _ (by have := hw.1 i9 h8; omega))) (fun q h9 => (by obtain ⟨i9, h8, rfl⟩ := h9; exact hA _ (by have := hw.1 i9 h8; omega))) (fun r u t H1 locs1 ht hvm hw9 hB hz1 hk1 hS => ?_)
                try dsimp only at hB
                rw [ht] at hB
                rw [hw9]
                replace hil := hil.up (m := o + 53) (by omega) (by omega) (fun z h8 h7 => hk1 z h7 (fun ⟨i9, h6, h5⟩ => by have := hw.1 i9 h6; omega))
                replace hw := hw.setP hB (fun q h1 h2 => hk1 q h1 h2)
                refine lv_aload hx hb dX4_change_521 (lv_at hl 2 rfl) ?_
                refine vp_callSi (va_runS (As := [.ref mk]) (rest := [.int (cntZ (chgG (F k1) sr 4) 201)]) ⟨hx, hb, hml, hown, hts⟩ (conX4_count l D T b1 mk (fun k => adm k) S.1 S.2.1 S.2.2 (fun k hk => hrep.sp hk) hrep.1.le) (va_cwS 1 hts gX4_change_X4_count rfl rfl rfl (by decide +kernel) ⟨Nat.le_of_ble_eq_true rfl, Nat.le_of_ble_eq_true rfl⟩) (preS hK hil) rfl rfl hl.1 rfl (lv_room (Nat.le_of_ble_eq_true rfl)) dX4_change_523 ⟨by show _ ≤ 310; omega, by show _ ≤ 11000; omega⟩).run (fun r15 hr15 => ?_)
                rw [hr15]
                have hans := ans_cnt hrep
                refine lv_icmp_ne (tgt := 533) hx hb dX4_change_526 (by decide) (fun c526 => ?_) (fun c526 => ?_)
                · skip
                  exact absurd hans c526
                · skip
                  refine lv_iconst (v := nI 1) hx hb dX4_change_529 (by decide) ?_
                  refine lv_goto (tgt := 534) hx hb dX4_change_530 (by decide) ?_
                  refine W.widen (k := 310) (n := 11000) (by first | omega | decide) (by first | omega | decide) ?_
                  exact W.zret (v := nI 1) hx hb hr (rfl) (fun t ht _ => ⟨⟨nI 1, (), rfl, by rfl, by dsimp only; rw [ht]; exact ⟨_, _, _, _, _, _, _, _, _, by omega, (by have h8 := hS.1; omega), hw, hinv.put (chgS_le hinv.1) up_ne (by rw [va_up_s]; exact hrep)⟩⟩, hS.F ht⟩) hS.2.2 dX4_change_534
              · skip
                have c463 : 4 = 6 := (nc_eq (a := 4) (b := 6) (by omega) (by omega)).mp c463
                omega
            · skip
              have c451 : 4 = 0 := (nc_eq (a := 4) (b := 0) (by omega) (by omega)).mp c451
              omega
          · skip
            have c86 : ¬ ((L k1).1 ≤ (L k1).1) := fun q9 => c86 ((nc_le (a := (L k1).1) (b := (L k1).1) (by omega) (by omega)).mpr q9)
            omega
      · skip
        obtain ⟨qq, hqq⟩ : ∃ z, z = pB (klgZ (F k1) (rrR (F k1) (nI 1) sr 201)) := ⟨_, rfl⟩
        have hq := klgZ_h (F k1) sr hR1
        rw [← hqq] at hq
        refine lv_iconst (v := nI 0) hx hb dX4_change_79 (by decide) ?_
        refine lv_istore (lv' := [(6, .int (nI 0)), (8, .int (nI ((L k1).1))), (7, .int (nI ((L k1).1))), (5, .int (nI (mostN (L k1) ((L k1).1)))), (4, .ref b1), (3, .ref (la k1)), (2, .int (nI 5)), (1, .int (nI k1)), (0, .ref o)]) hx hb dX4_change_80 hl (by decide) rfl (fun ls hl => ?_)
        refine q_forg (fun (i : Nat) (H : Heap) (locs : List Loc) (ls : Array Slot) => ∃ mk : Nat, ∃ adm : Nat → Nat, ∃ S : SL, va_S A s.heap H locs ∧ lv_has ls 10 [(6, .int (nI i)), (5, .int (nI (mostN (L k1) ((L k1).1)))), (4, .ref mk), (3, .ref (la k1)), (2, .int (nI 5)), (1, .int (nI k1)), (0, .ref o)] ∧ b1 ≤ mk ∧ ILA D T b1 mk adm S.1 S.2.1 S.2.2 H ∧ Rep (qq) (frN (L k1) i) S ∧ oneQ (L k1) S i ∧ ∀ z : Nat, z < Hw.size → H[z]? = Hw[z]?) ((L k1).1) 2 104 ?_ ?_ ?_
        · skip
          exact ⟨b1, fun _ => 0, (0, fun _ => 0, fun _ => 0), hS, lv_sub hl [0, 3, 4, 5, 6, 7, 8] rfl, (by omega), (by exact hil), (by rw [frN_0]; exact Rep.nil _ _ _), (by exact ⟨fun _ => rfl, fun q => by omega⟩), (by exact hwk)⟩
        · skip
          intro i H locs ls hi9 hin9 hnext
          obtain ⟨mk, adm, S, hS, hl, hmk, hil, hrep, hone, hwk⟩ := hin9
          have hle9 := hrep.1.le
          refine lv_iload hx hb dX4_change_82 (lv_at hl 0 rfl) ?_
          refine lv_aload_n hx hb dX4_change_84 rfl (lv_at hl 3 rfl) ?_
          refine q_len hx hb hK 5 rfl (hi1.old hwk).1 dX4_change_85 ?_
          refine lv_icmp_ge (tgt := 450) hx hb dX4_change_86 (by decide) (fun c86 => ?_) (fun c86 => ?_)
          · skip
            have c86 : (L k1).1 ≤ i := (nc_le (a := (L k1).1) (b := i) (by omega) (by omega)).mp c86
            omega
          · skip
            have c86 : ¬ ((L k1).1 ≤ i) := fun q9 => c86 ((nc_le (a := (L k1).1) (b := i) (by omega) (by omega)).mpr q9)
            have hsp9 := hR1.sp (show i < (L k1).1 by omega)
            refine lv_iconst (v := nI 2) hx hb dX4_change_89 (by decide) ?_
            have hlw9 := hil.low
            obtain ⟨b2, hb2⟩ : ∃ z : Nat, z = H.size := ⟨_, rfl⟩
            have ln_b2 : s.heap.size ≤ b2 := by have h8 := hS.1; omega
            have lw_b2 : Hw.size ≤ b2 := by have h8 := kp_sz hwk; omega
            refine q_newi hx hb (hts (.arrayClass .int) (by decide +kernel)) hK 2 rfl (by decide) (by show _ ≤ 310; omega) (by show _ ≤ 11000; omega) hS dX4_change_90 (fun H1 hw9 z1 o1 hS => ?_)
            rw [← hb2] at hw9 ⊢
            have nb2 := hw9
            have sb2 : H1.size = b2 + 1 := by omega
            replace hwk := fun (z : Nat) (hz : z < Hw.size) => (o1 z (by omega)).trans (hwk z hz)
            replace hil := hil.old o1
            refine lv_dup hx hb dX4_change_92 rfl ?_
            refine lv_iconst (v := nI 0) hx hb dX4_change_93 (by decide) ?_
            refine lv_aload_n hx hb dX4_change_94 rfl (lv_at hl 3 rfl) ?_
            refine lv_iload hx hb dX4_change_95 (lv_at hl 0 rfl) ?_
            refine q_aald hx hb hK 5 rfl rfl (hi1.old hwk).1 i rfl (by omega) (by omega) (b := ads1 i) rfl dX4_change_97 ?_
            refine lv_iconst (v := nI 0) hx hb dX4_change_98 (by decide) ?_
            refine q_iald hx hb hK ((hi1.old hwk).2 i (by omega)).2 0 (rfl) (by omega) (by decide) dX4_change_99 ?_
            refine W.eq (g2 := F0 m 100 ls [.int (nI ((L k1).2.1 i)), .int (nI 0), .ref b2, .ref b2]) rfl ?_
            refine q_iast hx hb hK nb2 0 (rfl) (by omega) (by decide) hS (hA _ (by omega)) dX4_change_100 (fun H1 locs1 hw9 hz oq hS => ?_)
            have nb2 := hw9
            replace hwk := fun (z : Nat) (hz : z < Hw.size) => (oq z (by omega)).trans (hwk z hz)
            replace hil := hil.ne hlw9 (by omega) oq
            refine lv_dup hx hb dX4_change_101 rfl ?_
            refine lv_iconst (v := nI 1) hx hb dX4_change_102 (by decide) ?_
            refine lv_aload_n hx hb dX4_change_103 rfl (lv_at hl 3 rfl) ?_
            refine lv_iload hx hb dX4_change_104 (lv_at hl 0 rfl) ?_
            refine q_aald hx hb hK 5 rfl rfl (hi1.old hwk).1 i rfl (by omega) (by omega) (b := ads1 i) rfl dX4_change_106 ?_
            refine lv_iconst (v := nI 1) hx hb dX4_change_107 (by decide) ?_
            refine q_iald hx hb hK ((hi1.old hwk).2 i (by omega)).2 1 (rfl) (by omega) (by decide) dX4_change_108 ?_
            refine W.eq (g2 := F0 m 109 ls [.int (nI ((L k1).2.2 i)), .int (nI 1), .ref b2, .ref b2]) rfl ?_
            refine q_iast hx hb hK nb2 1 (rfl) (by omega) (by decide) hS (hA _ (by omega)) dX4_change_109 (fun H1 locs1 hw9 hz oq hS => ?_)
            have nb2 := hw9
            replace hwk := fun (z : Nat) (hz : z < Hw.size) => (oq z (by omega)).trans (hwk z hz)
            replace hil := hil.ne hlw9 (by omega) oq
            refine lv_astore (lv' := [(7, .ref b2), (6, .int (nI i)), (5, .int (nI (mostN (L k1) ((L k1).1)))), (4, .ref mk), (3, .ref (la k1)), (2, .int (nI 5)), (1, .int (nI k1)), (0, .ref o)]) hx hb dX4_change_110 hl (by decide) rfl (fun ls hl => ?_)
            refine lv_iload_n hx hb dX4_change_112 rfl (lv_at hl 5 rfl) ?_
            refine lv_iconst (v := nI 1) hx hb dX4_change_113 (by decide) ?_
            refine lv_icmp_ne (tgt := 237) hx hb dX4_change_114 (by decide) (fun c114 => ?_) (fun c114 => ?_)
            · skip
              have c114 : ¬ (5 = 1) := fun q9 => c114 ((nc_eq (a := 5) (b := 1) (by omega) (by omega)).mpr q9)
              refine lv_iload_n hx hb dX4_change_237 rfl (lv_at hl 5 rfl) ?_
              refine lv_iconst (v := nI 2) hx hb dX4_change_238 (by decide) ?_
              refine lv_icmp_ne (tgt := 319) hx hb dX4_change_239 (by decide) (fun c239 => ?_) (fun c239 => ?_)
              · skip
                have c239 : ¬ (5 = 2) := fun q9 => c239 ((nc_eq (a := 5) (b := 2) (by omega) (by omega)).mpr q9)
                refine lv_iload_n hx hb dX4_change_319 rfl (lv_at hl 5 rfl) ?_
                refine lv_iconst (v := nI 3) hx hb dX4_change_320 (by decide) ?_
                refine lv_icmp_ne (tgt := 353) hx hb dX4_change_321 (by decide) (fun c321 => ?_) (fun c321 => ?_)
                · skip
                  have c321 : ¬ (5 = 3) := fun q9 => c321 ((nc_eq (a := 5) (b := 3) (by omega) (by omega)).mpr q9)
                  refine lv_iload_n hx hb dX4_change_353 rfl (lv_at hl 5 rfl) ?_
                  refine lv_iconst (v := nI 4) hx hb dX4_change_354 (by decide) ?_
                  refine lv_icmp_ne (tgt := 408) hx hb dX4_change_355 (by decide) (fun c355 => ?_) (fun c355 => ?_)
                  · skip
                    have c355 : ¬ (5 = 4) := fun q9 => c355 ((nc_eq (a := 5) (b := 4) (by omega) (by omega)).mpr q9)
                    refine lv_iload_n hx hb dX4_change_408 rfl (lv_at hl 5 rfl) ?_
                    refine lv_iconst (v := nI 5) hx hb dX4_change_409 (by decide) ?_
                    refine lv_icmp_ne (tgt := 444) hx hb dX4_change_410 (by decide) (fun c410 => ?_) (fun c410 => ?_)
                    · skip
                      have c410 : ¬ (5 = 5) := fun q9 => c410 ((nc_eq (a := 5) (b := 5) (by omega) (by omega)).mpr q9)
                      omega
                    · skip
                      have c410 : 5 = 5 := (nc_eq (a := 5) (b := 5) (by omega) (by omega)).mp c410
                      refine lv_aload hx hb dX4_change_413 (lv_at hl 3 rfl) ?_
                      refine q_len hx hb hK 5 rfl hil.1 dX4_change_415 ?_
                      refine lv_if_ne (tgt := 444) hx hb dX4_change_416 (by decide) (fun c416 => ?_) (fun c416 => ?_)
                      · skip
                        have c416 : ¬ (S.1 = 0) := fun q9 => c416 ((nc_eq (a := S.1) (b := 0) (by omega) (by omega)).mpr q9)
                        refine lv_iinc (v := nI (i + 1)) (lv' := [(6, .int (nI (i + 1))), (7, .ref b2), (5, .int (nI (mostN (L k1) ((L k1).1)))), (4, .ref mk), (3, .ref (la k1)), (2, .int (nI 5)), (1, .int (nI k1)), (0, .ref o)]) hx hb dX4_change_444 hl (k := 1) rfl (inc_1 _) (by decide) rfl (fun ls hl => ?_)
                        refine lv_goto (tgt := 82) hx hb dX4_change_447 (by decide) ?_
                        exact W.widen (by omega) (by omega) (hnext _ _ _ ⟨mk, adm, S, hS, lv_sub hl [0, 2, 3, 4, 5, 6, 7] rfl, (by omega), (by exact hil), (by first | exact k5_y hR1 (hq (by omega)) (by omega) hrep hone (by omega) (by omega) | exact k5_n hR1 (hq (by omega)) (by omega) hrep hone (by first | exact Or.inl (by omega) | exact Or.inr (by omega))), (by first | exact k5_oy hR1 (by omega) hone (by omega) (by omega) | exact k5_on hR1 (by omega) hone (by first | exact Or.inl (by omega) | exact Or.inr (by omega))), (by exact hwk)⟩)
                      · skip
                        have c416 : S.1 = 0 := (nc_eq (a := S.1) (b := 0) (by omega) (by omega)).mp c416
                        refine lv_aload hx hb dX4_change_419 (lv_at hl 0 rfl) ?_
                        refine vp_callSi (va_runS (As := [.ref b2]) (rest := []) ⟨hx, hb, hml, hown, hts⟩ (conX4_end l D T b2 ((L k1).2.1 i) ((L k1).2.2 i) (by omega) (by omega)) (va_cwS 1 hts gX4_change_X4_end rfl rfl rfl (by decide +kernel) ⟨Nat.le_of_ble_eq_true rfl, Nat.le_of_ble_eq_true rfl⟩) (preS hK ((nb2.outN (pr2_u _ _)))) rfl rfl hl.1 rfl (lv_room (Nat.le_of_ble_eq_true rfl)) dX4_change_421 ⟨by show _ ≤ 310; omega, by show _ ≤ 11000; omega⟩).run (fun r16 hr16 => ?_)
                        rw [hr16]
                        refine W.eq (g2 := F0 m 424 ls [.int (nI (((L k1).2.2 i + 1) / 2))]) rfl ?_
                        refine lv_aload hx hb dX4_change_424 (lv_at hl 0 rfl) ?_
                        refine vp_callSi (va_runS (As := [.ref b2]) (rest := [.int (nI (((L k1).2.2 i + 1) / 2))]) ⟨hx, hb, hml, hown, hts⟩ (conX4_begin l D T b2 ((L k1).2.1 i) ((L k1).2.2 i) (by omega) (by omega)) (va_cwS 1 hts gX4_change_X4_begin rfl rfl rfl (by decide +kernel) ⟨Nat.le_of_ble_eq_true rfl, Nat.le_of_ble_eq_true rfl⟩) (preS hK ((nb2.outN (pr2_u _ _)))) rfl rfl hl.1 rfl (lv_room (Nat.le_of_ble_eq_true rfl)) dX4_change_426 ⟨by show _ ≤ 310; omega, by show _ ≤ 11000; omega⟩).run (fun r17 hr17 => ?_)
                        rw [hr17]
                        refine lv_isub hx hb dX4_change_429 ?_
                        rw [pk_sub (a := ((L k1).2.2 i + 1) / 2) (b := ((L k1).2.1 i) / 2) (by omega)]
                        refine lv_iload hx hb dX4_change_430 (lv_at hl 2 rfl) ?_
                        refine lv_icmp_ne (tgt := 444) hx hb dX4_change_432 (by decide) (fun c432 => ?_) (fun c432 => ?_)
                        · skip
                          have c432 : ¬ ((((L k1).2.2 i + 1) / 2) - (((L k1).2.1 i) / 2) = mostN (L k1) ((L k1).1)) := fun q9 => c432 ((nc_eq (a := (((L k1).2.2 i + 1) / 2) - (((L k1).2.1 i) / 2)) (b := mostN (L k1) ((L k1).1)) (by omega) (by omega)).mpr q9)
                          refine lv_iinc (v := nI (i + 1)) (lv' := [(6, .int (nI (i + 1))), (7, .ref b2), (5, .int (nI (mostN (L k1) ((L k1).1)))), (4, .ref mk), (3, .ref (la k1)), (2, .int (nI 5)), (1, .int (nI k1)), (0, .ref o)]) hx hb dX4_change_444 hl (k := 1) rfl (inc_1 _) (by decide) rfl (fun ls hl => ?_)
                          refine lv_goto (tgt := 82) hx hb dX4_change_447 (by decide) ?_
                          exact W.widen (by omega) (by omega) (hnext _ _ _ ⟨mk, adm, S, hS, lv_sub hl [0, 2, 3, 4, 5, 6, 7] rfl, (by omega), (by exact hil), (by first | exact k5_y hR1 (hq (by omega)) (by omega) hrep hone (by omega) (by omega) | exact k5_n hR1 (hq (by omega)) (by omega) hrep hone (by first | exact Or.inl (by omega) | exact Or.inr (by omega))), (by first | exact k5_oy hR1 (by omega) hone (by omega) (by omega) | exact k5_on hR1 (by omega) hone (by first | exact Or.inl (by omega) | exact Or.inr (by omega))), (by exact hwk)⟩)
                        · skip
                          have c432 : (((L k1).2.2 i + 1) / 2) - (((L k1).2.1 i) / 2) = mostN (L k1) ((L k1).1) := (nc_eq (a := (((L k1).2.2 i + 1) / 2) - (((L k1).2.1 i) / 2)) (b := mostN (L k1) ((L k1).1)) (by omega) (by omega)).mp c432
                          refine lv_aload hx hb dX4_change_435 (lv_at hl 3 rfl) ?_
                          refine lv_aload hx hb dX4_change_437 (lv_at hl 0 rfl) ?_
                          obtain ⟨b3, hb3⟩ : ∃ z : Nat, z = H1.size := ⟨_, rfl⟩
                          have lnb2_b3 : b2 < b3 := by have h8 := nb2.lt; omega
                          have ln_b3 : s.heap.size ≤ b3 := by have h8 := hS.1; omega
                          have lw_b3 : Hw.size ≤ b3 := by have h8 := kp_sz hwk; omega
                          refine va_callr (va_runS (As := [.ref mk, .ref b2]) (rest := []) ⟨hx, hb, hml, hown, hts⟩ (conX4_with l D T b3 b1 mk b2 ((L k1).2.1 i) ((L k1).2.2 i) (fun k => adm k) S.1 S.2.1 S.2.2 (by omega) (by omega)) (va_cwS 2 hts gX4_change_X4_with rfl rfl rfl (by decide +kernel) ⟨Nat.le_of_ble_eq_true rfl, Nat.le_of_ble_eq_true rfl⟩) (preS hK ⟨hb3.symm, hil, nb2.outN (pr2_u _ _)⟩) rfl rfl hl.1 rfl (lv_room (Nat.le_of_ble_eq_true rfl)) dX4_change_439 ⟨by show _ ≤ 310; omega, by show _ ≤ 11000; omega⟩) hS (fun q _ h9 => (hA q (by have h8 : b3 ≤ q := h9; omega))) (fun q h9 => (hA q (by have h8 : b3 ≤ q := h9; omega))) (fun u ra t H1 locs1 ht hvm hw9 hB hz1 hk1 hS => ?_)
                          try dsimp only at hB
                          rw [ht] at hB
                          obtain ⟨a18, rfl⟩ : ∃ z, z = ra := ⟨_, rfl⟩
                          obtain ⟨hra, hz9, hil⟩ := hB
                          subst hra
                          replace hwk := fun (z : Nat) (hz : z < Hw.size) => (hk1 z (by omega) (fun h9 => by have h8 : a18 ≤ z := h9; omega)).trans (hwk z hz)
                          refine lv_astore (lv' := [(4, .ref a18), (7, .ref b2), (6, .int (nI i)), (5, .int (nI (mostN (L k1) ((L k1).1)))), (3, .ref (la k1)), (2, .int (nI 5)), (1, .int (nI k1)), (0, .ref o)]) hx hb dX4_change_442 hl (by decide) rfl (fun ls hl => ?_)
                          refine lv_iinc (v := nI (i + 1)) (lv' := [(6, .int (nI (i + 1))), (4, .ref a18), (7, .ref b2), (5, .int (nI (mostN (L k1) ((L k1).1)))), (3, .ref (la k1)), (2, .int (nI 5)), (1, .int (nI k1)), (0, .ref o)]) hx hb dX4_change_444 hl (k := 2) rfl (inc_1 _) (by decide) rfl (fun ls hl => ?_)
                          refine lv_goto (tgt := 82) hx hb dX4_change_447 (by decide) ?_
                          exact W.widen (by omega) (by omega) (hnext _ _ _ ⟨a18, fun k => if k = S.1 then b2 else adm k, snocS S ((L k1).2.1 i) ((L k1).2.2 i), hS, lv_sub hl [0, 3, 1, 4, 5, 6, 7] rfl, (by omega), (by exact hil), (by first | exact k5_y hR1 (hq (by omega)) (by omega) hrep hone (by omega) (by omega) | exact k5_n hR1 (hq (by omega)) (by omega) hrep hone (by first | exact Or.inl (by omega) | exact Or.inr (by omega))), (by first | exact k5_oy hR1 (by omega) hone (by omega) (by omega) | exact k5_on hR1 (by omega) hone (by first | exact Or.inl (by omega) | exact Or.inr (by omega))), (by exact hwk)⟩)
                  · skip
                    have c355 : 5 = 4 := (nc_eq (a := 5) (b := 4) (by omega) (by omega)).mp c355
                    omega
                · skip
                  have c321 : 5 = 3 := (nc_eq (a := 5) (b := 3) (by omega) (by omega)).mp c321
                  omega
              · skip
                have c239 : 5 = 2 := (nc_eq (a := 5) (b := 2) (by omega) (by omega)).mp c239
                omega
            · skip
              have c114 : 5 = 1 := (nc_eq (a := 5) (b := 1) (by omega) (by omega)).mp c114
              omega
        · skip
          intro H locs ls hin9
          obtain ⟨mk, adm, S, hS, hl, hmk, hil, hrep, hone, hwk⟩ := hin9
          have hle9 := hrep.1.le
          refine lv_iload hx hb dX4_change_82 (lv_at hl 0 rfl) ?_
          refine lv_aload_n hx hb dX4_change_84 rfl (lv_at hl 3 rfl) ?_
          refine q_len hx hb hK 5 rfl (hi1.old hwk).1 dX4_change_85 ?_
          refine lv_icmp_ge (tgt := 450) hx hb dX4_change_86 (by decide) (fun c86 => ?_) (fun c86 => ?_)
          · skip
            have c86 : (L k1).1 ≤ (L k1).1 := (nc_le (a := (L k1).1) (b := (L k1).1) (by omega) (by omega)).mp c86
            refine lv_iload_n hx hb dX4_change_450 rfl (lv_at hl 4 rfl) ?_
            refine lv_if_ne (tgt := 460) hx hb dX4_change_451 (by decide) (fun c451 => ?_) (fun c451 => ?_)
            · skip
              have c451 : ¬ (5 = 0) := fun q9 => c451 ((nc_eq (a := 5) (b := 0) (by omega) (by omega)).mpr q9)
              refine lv_iload_n hx hb dX4_change_460 rfl (lv_at hl 4 rfl) ?_
              refine lv_bipush (v := nI 6) hx hb dX4_change_461 (by decide) ?_
              refine lv_icmp_ne (tgt := 504) hx hb dX4_change_463 (by decide) (fun c463 => ?_) (fun c463 => ?_)
              · skip
                have c463 : ¬ (5 = 6) := fun q9 => c463 ((nc_eq (a := 5) (b := 6) (by omega) (by omega)).mpr q9)
                have hrep : Rep (pB (chgG (F k1) sr 5)) 201 (S) := by have e9 := k5_e hR1 hq (fun h0 => by rw [hqq]; exact klgZ_0 (F k1) sr hR1 h0) hrep; rw [hqq] at e9; rw [chgG_5]; exact e9
                refine lv_aload_n hx hb dX4_change_504 rfl (lv_at hl 6 rfl) ?_
                refine q_get (v := .ref (o + 38)) hx hb hts hin4 hown hK (hw.ob.kept (hwk _ hw.ob.lt)) rfl 3 (by decide) (hts (.fieldLink RX4 18 "PuddingstoneLineLaw$Stones" "sets" "[[[I") (by decide +kernel)) (fun _ h9 => h9) rfl dX4_change_505 ?_
                refine lv_iload_n hx hb dX4_change_508 rfl (lv_at hl 5 rfl) ?_
                refine lv_aload hx hb dX4_change_509 (lv_at hl 2 rfl) ?_
                refine q_aastq hx hb hK (hw.ss.kept (hwk _ hw.ss.lt)) hil.1 k1 rfl (by omega) (by decide) hS (hA _ (by omega)) dX4_change_511 (fun H1 locs1 hw9 hz oq hS => ?_)
                replace hw := (hw.old hwk).setL (k := k1) (m := mk) (S := S) (by omega) hrep.1.le ⟨_, hil.wk (by omega)⟩ hw9 oq
                replace hil := hil.up (m := o + 53) (by omega) (by omega) (fun z h8 h7 => oq z (by omega))
                refine lv_aload_n hx hb dX4_change_512 rfl (lv_at hl 6 rfl) ?_
                refine q_get (v := .ref (ad 0)) hx hb hts hin4 hown hK hw.ob rfl 0 (by decide) (hts (.fieldLink RX4 10 "PuddingstoneLineLaw$Stones" "m" "LPuddingstoneLine;") (by decide +kernel)) (fun _ h9 => h9) rfl dX4_change_513 ?_
                refine lv_iload_n hx hb dX4_change_516 rfl (lv_at hl 5 rfl) ?_
                refine lv_iload_n hx hb dX4_change_517 rfl (lv_at hl 4 rfl) ?_
                refine va_calli (va_runV (As := [.int (nI k1), .int (nI 5)]) (rest := []) ⟨hx, hb, hml, hown, hts⟩ (conX3_change l D T ad F V sr C k1 5 (by omega) (by omega) hinv.1) (cwV 2 hts gX4_change_X3_change rfl rfl rfl (by decide +kernel) ⟨Nat.le_of_ble_eq_true rfl, Nat.le_of_ble_eq_true rfl⟩) (preV hK hw.pl.o rfl hw.pl) rfl rfl hl.1 rfl (lv_room (Nat.le_of_ble_eq_true rfl)) dX4_change_518 ⟨by show _ ≤ 310; omega, by show _ ≤ 11000; omega⟩) hS (fun q _ h9 => (by obtain ⟨i9, h8, rfl⟩ := h9; exact hA _ (by have := hw.1 i9 h8; omega))) (fun q h9 => (by obtain ⟨i9, h8, rfl⟩ := h9; exact hA _ (by have := hw.1 i9 h8; omega))) (fun r u t H1 locs1 ht hvm hw9 hB hz1 hk1 hS => ?_)
                try dsimp only at hB
                rw [ht] at hB
                rw [hw9]
                replace hil := hil.up (m := o + 53) (by omega) (by omega) (fun z h8 h7 => hk1 z h7 (fun ⟨i9, h6, h5⟩ => by have := hw.1 i9 h6; omega))
                replace hw := hw.setP hB (fun q h1 h2 => hk1 q h1 h2)
                refine lv_aload hx hb dX4_change_521 (lv_at hl 2 rfl) ?_
                refine vp_callSi (va_runS (As := [.ref mk]) (rest := [.int (cntZ (chgG (F k1) sr 5) 201)]) ⟨hx, hb, hml, hown, hts⟩ (conX4_count l D T b1 mk (fun k => adm k) S.1 S.2.1 S.2.2 (fun k hk => hrep.sp hk) hrep.1.le) (va_cwS 1 hts gX4_change_X4_count rfl rfl rfl (by decide +kernel) ⟨Nat.le_of_ble_eq_true rfl, Nat.le_of_ble_eq_true rfl⟩) (preS hK hil) rfl rfl hl.1 rfl (lv_room (Nat.le_of_ble_eq_true rfl)) dX4_change_523 ⟨by show _ ≤ 310; omega, by show _ ≤ 11000; omega⟩).run (fun r19 hr19 => ?_)
                rw [hr19]
                have hans := ans_cnt hrep
                refine lv_icmp_ne (tgt := 533) hx hb dX4_change_526 (by decide) (fun c526 => ?_) (fun c526 => ?_)
                · skip
                  exact absurd hans c526
                · skip
                  refine lv_iconst (v := nI 1) hx hb dX4_change_529 (by decide) ?_
                  refine lv_goto (tgt := 534) hx hb dX4_change_530 (by decide) ?_
                  refine W.widen (k := 310) (n := 11000) (by first | omega | decide) (by first | omega | decide) ?_
                  exact W.zret (v := nI 1) hx hb hr (rfl) (fun t ht _ => ⟨⟨nI 1, (), rfl, by rfl, by dsimp only; rw [ht]; exact ⟨_, _, _, _, _, _, _, _, _, by omega, (by have h8 := hS.1; omega), hw, hinv.put (chgS_le hinv.1) up_ne (by rw [va_up_s]; exact hrep)⟩⟩, hS.F ht⟩) hS.2.2 dX4_change_534
              · skip
                have c463 : 5 = 6 := (nc_eq (a := 5) (b := 6) (by omega) (by omega)).mp c463
                omega
            · skip
              have c451 : 5 = 0 := (nc_eq (a := 5) (b := 0) (by omega) (by omega)).mp c451
              omega
          · skip
            have c86 : ¬ ((L k1).1 ≤ (L k1).1) := fun q9 => c86 ((nc_le (a := (L k1).1) (b := (L k1).1) (by omega) (by omega)).mpr q9)
            omega
      · skip
        refine lv_iconst (v := nI 0) hx hb dX4_change_79 (by decide) ?_
        refine lv_istore (lv' := [(6, .int (nI 0)), (8, .int (nI ((L k1).1))), (7, .int (nI ((L k1).1))), (5, .int (nI (mostN (L k1) ((L k1).1)))), (4, .ref b1), (3, .ref (la k1)), (2, .int (nI 6)), (1, .int (nI k1)), (0, .ref o)]) hx hb dX4_change_80 hl (by decide) rfl (fun ls hl => ?_)
        refine q_forg (fun (i : Nat) (H : Heap) (locs : List Loc) (ls : Array Slot) => va_S A s.heap H locs ∧ lv_has ls 10 [(6, .int (nI i)), (4, .ref b1), (3, .ref (la k1)), (2, .int (nI 6)), (1, .int (nI k1)), (0, .ref o)] ∧ ILA D T b1 b1 (fun _ => 0) 0 (fun _ => 0) (fun _ => 0) H ∧ ∀ z : Nat, z < Hw.size → H[z]? = Hw[z]?) ((L k1).1) 1 2 ?_ ?_ ?_
        · skip
          exact ⟨hS, lv_sub hl [0, 4, 5, 6, 7, 8] rfl, (by exact hil), (by exact hwk)⟩
        · skip
          intro i H locs ls hi9 hin9 hnext
          obtain ⟨hS, hl, hil, hwk⟩ := hin9
          refine lv_iload hx hb dX4_change_82 (lv_at hl 0 rfl) ?_
          refine lv_aload_n hx hb dX4_change_84 rfl (lv_at hl 2 rfl) ?_
          refine q_len hx hb hK 5 rfl (hi1.old hwk).1 dX4_change_85 ?_
          refine lv_icmp_ge (tgt := 450) hx hb dX4_change_86 (by decide) (fun c86 => ?_) (fun c86 => ?_)
          · skip
            have c86 : (L k1).1 ≤ i := (nc_le (a := (L k1).1) (b := i) (by omega) (by omega)).mp c86
            omega
          · skip
            have c86 : ¬ ((L k1).1 ≤ i) := fun q9 => c86 ((nc_le (a := (L k1).1) (b := i) (by omega) (by omega)).mpr q9)
            have hsp9 := hR1.sp (show i < (L k1).1 by omega)
            refine lv_iconst (v := nI 2) hx hb dX4_change_89 (by decide) ?_
            have hlw9 := hil.low
            obtain ⟨b2, hb2⟩ : ∃ z : Nat, z = H.size := ⟨_, rfl⟩
            have ln_b2 : s.heap.size ≤ b2 := by have h8 := hS.1; omega
            have lw_b2 : Hw.size ≤ b2 := by have h8 := kp_sz hwk; omega
            refine q_newi hx hb (hts (.arrayClass .int) (by decide +kernel)) hK 2 rfl (by decide) (by show _ ≤ 310; omega) (by show _ ≤ 11000; omega) hS dX4_change_90 (fun H1 hw9 z1 o1 hS => ?_)
            rw [← hb2] at hw9 ⊢
            have nb2 := hw9
            have sb2 : H1.size = b2 + 1 := by omega
            replace hwk := fun (z : Nat) (hz : z < Hw.size) => (o1 z (by omega)).trans (hwk z hz)
            replace hil := hil.old o1
            refine lv_dup hx hb dX4_change_92 rfl ?_
            refine lv_iconst (v := nI 0) hx hb dX4_change_93 (by decide) ?_
            refine lv_aload_n hx hb dX4_change_94 rfl (lv_at hl 2 rfl) ?_
            refine lv_iload hx hb dX4_change_95 (lv_at hl 0 rfl) ?_
            refine q_aald hx hb hK 5 rfl rfl (hi1.old hwk).1 i rfl (by omega) (by omega) (b := ads1 i) rfl dX4_change_97 ?_
            refine lv_iconst (v := nI 0) hx hb dX4_change_98 (by decide) ?_
            refine q_iald hx hb hK ((hi1.old hwk).2 i (by omega)).2 0 (rfl) (by omega) (by decide) dX4_change_99 ?_
            refine W.eq (g2 := F0 m 100 ls [.int (nI ((L k1).2.1 i)), .int (nI 0), .ref b2, .ref b2]) rfl ?_
            refine q_iast hx hb hK nb2 0 (rfl) (by omega) (by decide) hS (hA _ (by omega)) dX4_change_100 (fun H1 locs1 hw9 hz oq hS => ?_)
            have nb2 := hw9
            replace hwk := fun (z : Nat) (hz : z < Hw.size) => (oq z (by omega)).trans (hwk z hz)
            replace hil := hil.ne hlw9 (by omega) oq
            refine lv_dup hx hb dX4_change_101 rfl ?_
            refine lv_iconst (v := nI 1) hx hb dX4_change_102 (by decide) ?_
            refine lv_aload_n hx hb dX4_change_103 rfl (lv_at hl 2 rfl) ?_
            refine lv_iload hx hb dX4_change_104 (lv_at hl 0 rfl) ?_
            refine q_aald hx hb hK 5 rfl rfl (hi1.old hwk).1 i rfl (by omega) (by omega) (b := ads1 i) rfl dX4_change_106 ?_
            refine lv_iconst (v := nI 1) hx hb dX4_change_107 (by decide) ?_
            refine q_iald hx hb hK ((hi1.old hwk).2 i (by omega)).2 1 (rfl) (by omega) (by decide) dX4_change_108 ?_
            refine W.eq (g2 := F0 m 109 ls [.int (nI ((L k1).2.2 i)), .int (nI 1), .ref b2, .ref b2]) rfl ?_
            refine q_iast hx hb hK nb2 1 (rfl) (by omega) (by decide) hS (hA _ (by omega)) dX4_change_109 (fun H1 locs1 hw9 hz oq hS => ?_)
            have nb2 := hw9
            replace hwk := fun (z : Nat) (hz : z < Hw.size) => (oq z (by omega)).trans (hwk z hz)
            replace hil := hil.ne hlw9 (by omega) oq
            refine lv_astore (lv' := [(7, .ref b2), (6, .int (nI i)), (4, .ref b1), (3, .ref (la k1)), (2, .int (nI 6)), (1, .int (nI k1)), (0, .ref o)]) hx hb dX4_change_110 hl (by decide) rfl (fun ls hl => ?_)
            refine lv_iload_n hx hb dX4_change_112 rfl (lv_at hl 4 rfl) ?_
            refine lv_iconst (v := nI 1) hx hb dX4_change_113 (by decide) ?_
            refine lv_icmp_ne (tgt := 237) hx hb dX4_change_114 (by decide) (fun c114 => ?_) (fun c114 => ?_)
            · skip
              have c114 : ¬ (6 = 1) := fun q9 => c114 ((nc_eq (a := 6) (b := 1) (by omega) (by omega)).mpr q9)
              refine lv_iload_n hx hb dX4_change_237 rfl (lv_at hl 4 rfl) ?_
              refine lv_iconst (v := nI 2) hx hb dX4_change_238 (by decide) ?_
              refine lv_icmp_ne (tgt := 319) hx hb dX4_change_239 (by decide) (fun c239 => ?_) (fun c239 => ?_)
              · skip
                have c239 : ¬ (6 = 2) := fun q9 => c239 ((nc_eq (a := 6) (b := 2) (by omega) (by omega)).mpr q9)
                refine lv_iload_n hx hb dX4_change_319 rfl (lv_at hl 4 rfl) ?_
                refine lv_iconst (v := nI 3) hx hb dX4_change_320 (by decide) ?_
                refine lv_icmp_ne (tgt := 353) hx hb dX4_change_321 (by decide) (fun c321 => ?_) (fun c321 => ?_)
                · skip
                  have c321 : ¬ (6 = 3) := fun q9 => c321 ((nc_eq (a := 6) (b := 3) (by omega) (by omega)).mpr q9)
                  refine lv_iload_n hx hb dX4_change_353 rfl (lv_at hl 4 rfl) ?_
                  refine lv_iconst (v := nI 4) hx hb dX4_change_354 (by decide) ?_
                  refine lv_icmp_ne (tgt := 408) hx hb dX4_change_355 (by decide) (fun c355 => ?_) (fun c355 => ?_)
                  · skip
                    have c355 : ¬ (6 = 4) := fun q9 => c355 ((nc_eq (a := 6) (b := 4) (by omega) (by omega)).mpr q9)
                    refine lv_iload_n hx hb dX4_change_408 rfl (lv_at hl 4 rfl) ?_
                    refine lv_iconst (v := nI 5) hx hb dX4_change_409 (by decide) ?_
                    refine lv_icmp_ne (tgt := 444) hx hb dX4_change_410 (by decide) (fun c410 => ?_) (fun c410 => ?_)
                    · skip
                      have c410 : ¬ (6 = 5) := fun q9 => c410 ((nc_eq (a := 6) (b := 5) (by omega) (by omega)).mpr q9)
                      refine lv_iinc (v := nI (i + 1)) (lv' := [(6, .int (nI (i + 1))), (7, .ref b2), (4, .ref b1), (3, .ref (la k1)), (2, .int (nI 6)), (1, .int (nI k1)), (0, .ref o)]) hx hb dX4_change_444 hl (k := 1) rfl (inc_1 _) (by decide) rfl (fun ls hl => ?_)
                      refine lv_goto (tgt := 82) hx hb dX4_change_447 (by decide) ?_
                      exact W.widen (by omega) (by omega) (hnext _ _ _ ⟨hS, lv_sub hl [0, 2, 3, 4, 5, 6] rfl, (by exact hil), (by exact hwk)⟩)
                    · skip
                      have c410 : 6 = 5 := (nc_eq (a := 6) (b := 5) (by omega) (by omega)).mp c410
                      omega
                  · skip
                    have c355 : 6 = 4 := (nc_eq (a := 6) (b := 4) (by omega) (by omega)).mp c355
                    omega
                · skip
                  have c321 : 6 = 3 := (nc_eq (a := 6) (b := 3) (by omega) (by omega)).mp c321
                  omega
              · skip
                have c239 : 6 = 2 := (nc_eq (a := 6) (b := 2) (by omega) (by omega)).mp c239
                omega
            · skip
              have c114 : 6 = 1 := (nc_eq (a := 6) (b := 1) (by omega) (by omega)).mp c114
              omega
        · skip
          intro H locs ls hin9
          obtain ⟨hS, hl, hil, hwk⟩ := hin9
          refine lv_iload hx hb dX4_change_82 (lv_at hl 0 rfl) ?_
          refine lv_aload_n hx hb dX4_change_84 rfl (lv_at hl 2 rfl) ?_
          refine q_len hx hb hK 5 rfl (hi1.old hwk).1 dX4_change_85 ?_
          refine lv_icmp_ge (tgt := 450) hx hb dX4_change_86 (by decide) (fun c86 => ?_) (fun c86 => ?_)
          · skip
            have c86 : (L k1).1 ≤ (L k1).1 := (nc_le (a := (L k1).1) (b := (L k1).1) (by omega) (by omega)).mp c86
            refine lv_iload_n hx hb dX4_change_450 rfl (lv_at hl 3 rfl) ?_
            refine lv_if_ne (tgt := 460) hx hb dX4_change_451 (by decide) (fun c451 => ?_) (fun c451 => ?_)
            · skip
              have c451 : ¬ (6 = 0) := fun q9 => c451 ((nc_eq (a := 6) (b := 0) (by omega) (by omega)).mpr q9)
              refine lv_iload_n hx hb dX4_change_460 rfl (lv_at hl 3 rfl) ?_
              refine lv_bipush (v := nI 6) hx hb dX4_change_461 (by decide) ?_
              refine lv_icmp_ne (tgt := 504) hx hb dX4_change_463 (by decide) (fun c463 => ?_) (fun c463 => ?_)
              · skip
                have c463 : ¬ (6 = 6) := fun q9 => c463 ((nc_eq (a := 6) (b := 6) (by omega) (by omega)).mpr q9)
                omega
              · skip
                have c463 : 6 = 6 := (nc_eq (a := 6) (b := 6) (by omega) (by omega)).mp c463
                refine lv_aload_n hx hb dX4_change_466 rfl (lv_at hl 2 rfl) ?_
                refine q_len hx hb hK 5 rfl (hi1.old hwk).1 dX4_change_467 ?_
                refine lv_if_le (tgt := 504) hx hb dX4_change_468 (by decide) (fun c468 => ?_) (fun c468 => ?_)
                · skip
                  have c468 : (L k1).1 ≤ 0 := (nc_le (a := (L k1).1) (b := 0) (by omega) (by omega)).mp c468
                  have hrep : Rep (pB (chgG (F k1) sr 6)) 201 (((0, fun _ => 0, fun _ => 0) : SL)) := by rw [chgG_6]; exact rep_nil _ _ (gapZ_0 (F k1) sr hR1 (by omega))
                  refine lv_aload_n hx hb dX4_change_504 rfl (lv_at hl 5 rfl) ?_
                  refine q_get (v := .ref (o + 38)) hx hb hts hin4 hown hK (hw.ob.kept (hwk _ hw.ob.lt)) rfl 3 (by decide) (hts (.fieldLink RX4 18 "PuddingstoneLineLaw$Stones" "sets" "[[[I") (by decide +kernel)) (fun _ h9 => h9) rfl dX4_change_505 ?_
                  refine lv_iload_n hx hb dX4_change_508 rfl (lv_at hl 4 rfl) ?_
                  refine lv_aload hx hb dX4_change_509 (lv_at hl 1 rfl) ?_
                  refine q_aastq hx hb hK (hw.ss.kept (hwk _ hw.ss.lt)) hil.1 k1 rfl (by omega) (by decide) hS (hA _ (by omega)) dX4_change_511 (fun H1 locs1 hw9 hz oq hS => ?_)
                  replace hw := (hw.old hwk).setL (k := k1) (m := b1) (S := ((0, fun _ => 0, fun _ => 0) : SL)) (by omega) hrep.1.le ⟨_, hil.wk (by omega)⟩ hw9 oq
                  replace hil := hil.up (m := o + 53) (by omega) (by omega) (fun z h8 h7 => oq z (by omega))
                  refine lv_aload_n hx hb dX4_change_512 rfl (lv_at hl 5 rfl) ?_
                  refine q_get (v := .ref (ad 0)) hx hb hts hin4 hown hK hw.ob rfl 0 (by decide) (hts (.fieldLink RX4 10 "PuddingstoneLineLaw$Stones" "m" "LPuddingstoneLine;") (by decide +kernel)) (fun _ h9 => h9) rfl dX4_change_513 ?_
                  refine lv_iload_n hx hb dX4_change_516 rfl (lv_at hl 4 rfl) ?_
                  refine lv_iload_n hx hb dX4_change_517 rfl (lv_at hl 3 rfl) ?_
                  refine va_calli (va_runV (As := [.int (nI k1), .int (nI 6)]) (rest := []) ⟨hx, hb, hml, hown, hts⟩ (conX3_change l D T ad F V sr C k1 6 (by omega) (by omega) hinv.1) (cwV 2 hts gX4_change_X3_change rfl rfl rfl (by decide +kernel) ⟨Nat.le_of_ble_eq_true rfl, Nat.le_of_ble_eq_true rfl⟩) (preV hK hw.pl.o rfl hw.pl) rfl rfl hl.1 rfl (lv_room (Nat.le_of_ble_eq_true rfl)) dX4_change_518 ⟨by show _ ≤ 310; omega, by show _ ≤ 11000; omega⟩) hS (fun q _ h9 => (by obtain ⟨i9, h8, rfl⟩ := h9; exact hA _ (by have := hw.1 i9 h8; omega))) (fun q h9 => (by obtain ⟨i9, h8, rfl⟩ := h9; exact hA _ (by have := hw.1 i9 h8; omega))) (fun r u t H1 locs1 ht hvm hw9 hB hz1 hk1 hS => ?_)
                  try dsimp only at hB
                  rw [ht] at hB
                  rw [hw9]
                  replace hil := hil.up (m := o + 53) (by omega) (by omega) (fun z h8 h7 => hk1 z h7 (fun ⟨i9, h6, h5⟩ => by have := hw.1 i9 h6; omega))
                  replace hw := hw.setP hB (fun q h1 h2 => hk1 q h1 h2)
                  refine lv_aload hx hb dX4_change_521 (lv_at hl 1 rfl) ?_
                  refine vp_callSi (va_runS (As := [.ref b1]) (rest := [.int (cntZ (chgG (F k1) sr 6) 201)]) ⟨hx, hb, hml, hown, hts⟩ (conX4_count l D T b1 b1 (fun k => (fun _ => 0) k) 0 (fun _ => 0) (fun _ => 0) (fun k hk => hrep.sp hk) hrep.1.le) (va_cwS 1 hts gX4_change_X4_count rfl rfl rfl (by decide +kernel) ⟨Nat.le_of_ble_eq_true rfl, Nat.le_of_ble_eq_true rfl⟩) (preS hK hil) rfl rfl hl.1 rfl (lv_room (Nat.le_of_ble_eq_true rfl)) dX4_change_523 ⟨by show _ ≤ 310; omega, by show _ ≤ 11000; omega⟩).run (fun r20 hr20 => ?_)
                  rw [hr20]
                  have hans := ans_cnt hrep
                  refine lv_icmp_ne (tgt := 533) hx hb dX4_change_526 (by decide) (fun c526 => ?_) (fun c526 => ?_)
                  · skip
                    exact absurd hans c526
                  · skip
                    refine lv_iconst (v := nI 1) hx hb dX4_change_529 (by decide) ?_
                    refine lv_goto (tgt := 534) hx hb dX4_change_530 (by decide) ?_
                    refine W.widen (k := 310) (n := 11000) (by first | omega | decide) (by first | omega | decide) ?_
                    exact W.zret (v := nI 1) hx hb hr (rfl) (fun t ht _ => ⟨⟨nI 1, (), rfl, by rfl, by dsimp only; rw [ht]; exact ⟨_, _, _, _, _, _, _, _, _, by omega, (by have h8 := hS.1; omega), hw, hinv.put (chgS_le hinv.1) up_ne (by rw [va_up_s]; exact hrep)⟩⟩, hS.F ht⟩) hS.2.2 dX4_change_534
                · skip
                  have c468 : ¬ ((L k1).1 ≤ 0) := fun q9 => c468 ((nc_le (a := (L k1).1) (b := 0) (by omega) (by omega)).mpr q9)
                  refine lv_iconst (v := nI 2) hx hb dX4_change_471 (by decide) ?_
                  have hlw9 := hil.low
                  obtain ⟨b2, hb2⟩ : ∃ z : Nat, z = H.size := ⟨_, rfl⟩
                  have ln_b2 : s.heap.size ≤ b2 := by have h8 := hS.1; omega
                  have lw_b2 : Hw.size ≤ b2 := by have h8 := kp_sz hwk; omega
                  refine q_newi hx hb (hts (.arrayClass .int) (by decide +kernel)) hK 2 rfl (by decide) (by show _ ≤ 310; omega) (by show _ ≤ 11000; omega) hS dX4_change_472 (fun H1 hw9 z1 o1 hS => ?_)
                  rw [← hb2] at hw9 ⊢
                  have nb2 := hw9
                  have sb2 : H1.size = b2 + 1 := by omega
                  replace hwk := fun (z : Nat) (hz : z < Hw.size) => (o1 z (by omega)).trans (hwk z hz)
                  replace hil := hil.old o1
                  refine lv_dup hx hb dX4_change_474 rfl ?_
                  refine lv_iconst (v := nI 0) hx hb dX4_change_475 (by decide) ?_
                  refine lv_aload_n hx hb dX4_change_476 rfl (lv_at hl 2 rfl) ?_
                  refine lv_iconst (v := nI 0) hx hb dX4_change_477 (by decide) ?_
                  refine q_aald hx hb hK 5 rfl rfl (hi1.old hwk).1 0 rfl (by omega) (by omega) (b := ads1 0) rfl dX4_change_478 ?_
                  refine lv_iconst (v := nI 0) hx hb dX4_change_479 (by decide) ?_
                  refine q_iald hx hb hK ((hi1.old hwk).2 0 (by omega)).2 0 (rfl) (by omega) (by decide) dX4_change_480 ?_
                  refine W.eq (g2 := F0 m 481 ls [.int (nI ((L k1).2.1 0)), .int (nI 0), .ref b2, .ref b2]) rfl ?_
                  refine q_iast hx hb hK nb2 0 (rfl) (by omega) (by decide) hS (hA _ (by omega)) dX4_change_481 (fun H1 locs1 hw9 hz oq hS => ?_)
                  have nb2 := hw9
                  replace hwk := fun (z : Nat) (hz : z < Hw.size) => (oq z (by omega)).trans (hwk z hz)
                  replace hil := hil.ne hlw9 (by omega) oq
                  refine lv_dup hx hb dX4_change_482 rfl ?_
                  refine lv_iconst (v := nI 1) hx hb dX4_change_483 (by decide) ?_
                  refine lv_aload_n hx hb dX4_change_484 rfl (lv_at hl 2 rfl) ?_
                  refine lv_aload_n hx hb dX4_change_485 rfl (lv_at hl 2 rfl) ?_
                  refine q_len hx hb hK 5 rfl (hi1.old hwk).1 dX4_change_486 ?_
                  refine lv_iconst (v := nI 1) hx hb dX4_change_487 (by decide) ?_
                  refine lv_isub hx hb dX4_change_488 ?_
                  rw [pk_sub (a := (L k1).1) (b := 1) (by omega)]
                  refine q_aald hx hb hK 5 rfl rfl (hi1.old hwk).1 (((L k1).1) - 1) rfl (by omega) (by omega) (b := ads1 (((L k1).1) - 1)) rfl dX4_change_489 ?_
                  refine lv_iconst (v := nI 1) hx hb dX4_change_490 (by decide) ?_
                  refine q_iald hx hb hK ((hi1.old hwk).2 (((L k1).1) - 1) (by omega)).2 1 (rfl) (by omega) (by decide) dX4_change_491 ?_
                  refine W.eq (g2 := F0 m 492 ls [.int (nI ((L k1).2.2 (((L k1).1) - 1))), .int (nI 1), .ref b2, .ref b2]) rfl ?_
                  refine q_iast hx hb hK nb2 1 (rfl) (by omega) (by decide) hS (hA _ (by omega)) dX4_change_492 (fun H1 locs1 hw9 hz oq hS => ?_)
                  have nb2 := hw9
                  replace hwk := fun (z : Nat) (hz : z < Hw.size) => (oq z (by omega)).trans (hwk z hz)
                  replace hil := hil.ne hlw9 (by omega) oq
                  refine lv_astore (lv' := [(6, .ref b2), (4, .ref b1), (3, .ref (la k1)), (2, .int (nI 6)), (1, .int (nI k1)), (0, .ref o)]) hx hb dX4_change_493 hl (by decide) rfl (fun ls hl => ?_)
                  refine lv_aload hx hb dX4_change_495 (lv_at hl 1 rfl) ?_
                  refine lv_aload hx hb dX4_change_497 (lv_at hl 0 rfl) ?_
                  obtain ⟨b3, hb3⟩ : ∃ z : Nat, z = H1.size := ⟨_, rfl⟩
                  have lnb2_b3 : b2 < b3 := by have h8 := nb2.lt; omega
                  have ln_b3 : s.heap.size ≤ b3 := by have h8 := hS.1; omega
                  have lw_b3 : Hw.size ≤ b3 := by have h8 := kp_sz hwk; omega
                  refine va_callr (va_runS (As := [.ref b1, .ref b2]) (rest := []) ⟨hx, hb, hml, hown, hts⟩ (conX4_with l D T b3 b1 b1 b2 ((L k1).2.1 0) ((L k1).2.2 ((L k1).1 - 1)) (fun k => (fun _ => 0) k) 0 (fun _ => 0) (fun _ => 0) (by omega) (by omega)) (va_cwS 2 hts gX4_change_X4_with rfl rfl rfl (by decide +kernel) ⟨Nat.le_of_ble_eq_true rfl, Nat.le_of_ble_eq_true rfl⟩) (preS hK ⟨hb3.symm, hil, nb2.outN (pr2_u _ _)⟩) rfl rfl hl.1 rfl (lv_room (Nat.le_of_ble_eq_true rfl)) dX4_change_499 ⟨by show _ ≤ 310; omega, by show _ ≤ 11000; omega⟩) hS (fun q _ h9 => (hA q (by have h8 : b3 ≤ q := h9; omega))) (fun q h9 => (hA q (by have h8 : b3 ≤ q := h9; omega))) (fun u ra t H1 locs1 ht hvm hw9 hB hz1 hk1 hS => ?_)
                  try dsimp only at hB
                  rw [ht] at hB
                  obtain ⟨a21, rfl⟩ : ∃ z, z = ra := ⟨_, rfl⟩
                  obtain ⟨hra, hz9, hil⟩ := hB
                  subst hra
                  replace hwk := fun (z : Nat) (hz : z < Hw.size) => (hk1 z (by omega) (fun h9 => by have h8 : a21 ≤ z := h9; omega)).trans (hwk z hz)
                  refine lv_astore (lv' := [(4, .ref a21), (6, .ref b2), (3, .ref (la k1)), (2, .int (nI 6)), (1, .int (nI k1)), (0, .ref o)]) hx hb dX4_change_502 hl (by decide) rfl (fun ls hl => ?_)
                  have hrep : Rep (pB (chgG (F k1) sr 6)) 201 (snocS ((0, fun _ => 0, fun _ => 0) : SL) ((L k1).2.1 0) ((L k1).2.2 ((L k1).1 - 1))) := by rw [chgG_6]; exact rep_one _ _ (six_le hR1 (by omega)) (hR1.sp (show (L k1).1 - 1 < (L k1).1 by omega)).2 (gapZ_h (F k1) sr hR1 (by omega))
                  refine lv_aload_n hx hb dX4_change_504 rfl (lv_at hl 5 rfl) ?_
                  refine q_get (v := .ref (o + 38)) hx hb hts hin4 hown hK (hw.ob.kept (hwk _ hw.ob.lt)) rfl 3 (by decide) (hts (.fieldLink RX4 18 "PuddingstoneLineLaw$Stones" "sets" "[[[I") (by decide +kernel)) (fun _ h9 => h9) rfl dX4_change_505 ?_
                  refine lv_iload_n hx hb dX4_change_508 rfl (lv_at hl 4 rfl) ?_
                  refine lv_aload hx hb dX4_change_509 (lv_at hl 0 rfl) ?_
                  refine q_aastq hx hb hK (hw.ss.kept (hwk _ hw.ss.lt)) hil.1 k1 rfl (by omega) (by decide) hS (hA _ (by omega)) dX4_change_511 (fun H1 locs1 hw9 hz oq hS => ?_)
                  replace hw := (hw.old hwk).setL (k := k1) (m := a21) (S := (snocS ((0, fun _ => 0, fun _ => 0) : SL) ((L k1).2.1 0) ((L k1).2.2 ((L k1).1 - 1)))) (by omega) hrep.1.le ⟨_, hil.wk (by omega)⟩ hw9 oq
                  replace hil := hil.up (m := o + 53) (by omega) (by omega) (fun z h8 h7 => oq z (by omega))
                  refine lv_aload_n hx hb dX4_change_512 rfl (lv_at hl 5 rfl) ?_
                  refine q_get (v := .ref (ad 0)) hx hb hts hin4 hown hK hw.ob rfl 0 (by decide) (hts (.fieldLink RX4 10 "PuddingstoneLineLaw$Stones" "m" "LPuddingstoneLine;") (by decide +kernel)) (fun _ h9 => h9) rfl dX4_change_513 ?_
                  refine lv_iload_n hx hb dX4_change_516 rfl (lv_at hl 4 rfl) ?_
                  refine lv_iload_n hx hb dX4_change_517 rfl (lv_at hl 3 rfl) ?_
                  refine va_calli (va_runV (As := [.int (nI k1), .int (nI 6)]) (rest := []) ⟨hx, hb, hml, hown, hts⟩ (conX3_change l D T ad F V sr C k1 6 (by omega) (by omega) hinv.1) (cwV 2 hts gX4_change_X3_change rfl rfl rfl (by decide +kernel) ⟨Nat.le_of_ble_eq_true rfl, Nat.le_of_ble_eq_true rfl⟩) (preV hK hw.pl.o rfl hw.pl) rfl rfl hl.1 rfl (lv_room (Nat.le_of_ble_eq_true rfl)) dX4_change_518 ⟨by show _ ≤ 310; omega, by show _ ≤ 11000; omega⟩) hS (fun q _ h9 => (by obtain ⟨i9, h8, rfl⟩ := h9; exact hA _ (by have := hw.1 i9 h8; omega))) (fun q h9 => (by obtain ⟨i9, h8, rfl⟩ := h9; exact hA _ (by have := hw.1 i9 h8; omega))) (fun r u t H1 locs1 ht hvm hw9 hB hz1 hk1 hS => ?_)
                  try dsimp only at hB
                  rw [ht] at hB
                  rw [hw9]
                  replace hil := hil.up (m := o + 53) (by omega) (by omega) (fun z h8 h7 => hk1 z h7 (fun ⟨i9, h6, h5⟩ => by have := hw.1 i9 h6; omega))
                  replace hw := hw.setP hB (fun q h1 h2 => hk1 q h1 h2)
                  refine lv_aload hx hb dX4_change_521 (lv_at hl 0 rfl) ?_
                  refine vp_callSi (va_runS (As := [.ref a21]) (rest := [.int (cntZ (chgG (F k1) sr 6) 201)]) ⟨hx, hb, hml, hown, hts⟩ (conX4_count l D T b1 a21 (fun k => (fun k => if k = 0 then b2 else (fun _ => 0) k) k) (0 + 1) (updN (fun _ => 0) 0 ((L k1).2.1 0)) (updN (fun _ => 0) 0 ((L k1).2.2 ((L k1).1 - 1))) (fun k hk => hrep.sp hk) hrep.1.le) (va_cwS 1 hts gX4_change_X4_count rfl rfl rfl (by decide +kernel) ⟨Nat.le_of_ble_eq_true rfl, Nat.le_of_ble_eq_true rfl⟩) (preS hK hil) rfl rfl hl.1 rfl (lv_room (Nat.le_of_ble_eq_true rfl)) dX4_change_523 ⟨by show _ ≤ 310; omega, by show _ ≤ 11000; omega⟩).run (fun r22 hr22 => ?_)
                  rw [hr22]
                  have hans := ans_cnt hrep
                  refine lv_icmp_ne (tgt := 533) hx hb dX4_change_526 (by decide) (fun c526 => ?_) (fun c526 => ?_)
                  · skip
                    exact absurd hans c526
                  · skip
                    refine lv_iconst (v := nI 1) hx hb dX4_change_529 (by decide) ?_
                    refine lv_goto (tgt := 534) hx hb dX4_change_530 (by decide) ?_
                    refine W.widen (k := 310) (n := 11000) (by first | omega | decide) (by first | omega | decide) ?_
                    exact W.zret (v := nI 1) hx hb hr (rfl) (fun t ht _ => ⟨⟨nI 1, (), rfl, by rfl, by dsimp only; rw [ht]; exact ⟨_, _, _, _, _, _, _, _, _, by omega, (by have h8 := hS.1; omega), hw, hinv.put (chgS_le hinv.1) up_ne (by rw [va_up_s]; exact hrep)⟩⟩, hS.F ht⟩) hS.2.2 dX4_change_534
            · skip
              have c451 : 6 = 0 := (nc_eq (a := 6) (b := 0) (by omega) (by omega)).mp c451
              omega
          · skip
            have c86 : ¬ ((L k1).1 ≤ (L k1).1) := fun q9 => c86 ((nc_le (a := (L k1).1) (b := (L k1).1) (by omega) (by omega)).mpr q9)
            omega
      · skip
        refine lv_iconst (v := nI 0) hx hb dX4_change_79 (by decide) ?_
        refine lv_istore (lv' := [(6, .int (nI 0)), (8, .int (nI ((L k1).1))), (7, .int (nI ((L k1).1))), (5, .int (nI (mostN (L k1) ((L k1).1)))), (4, .ref b1), (3, .ref (la k1)), (2, .int (nI 7)), (1, .int (nI k1)), (0, .ref o)]) hx hb dX4_change_80 hl (by decide) rfl (fun ls hl => ?_)
        refine q_forg (fun (i : Nat) (H : Heap) (locs : List Loc) (ls : Array Slot) => va_S A s.heap H locs ∧ lv_has ls 10 [(6, .int (nI i)), (4, .ref b1), (3, .ref (la k1)), (2, .int (nI 7)), (1, .int (nI k1)), (0, .ref o)] ∧ ILA D T b1 b1 (fun _ => 0) 0 (fun _ => 0) (fun _ => 0) H ∧ ∀ z : Nat, z < Hw.size → H[z]? = Hw[z]?) ((L k1).1) 1 2 ?_ ?_ ?_
        · skip
          exact ⟨hS, lv_sub hl [0, 4, 5, 6, 7, 8] rfl, (by exact hil), (by exact hwk)⟩
        · skip
          intro i H locs ls hi9 hin9 hnext
          obtain ⟨hS, hl, hil, hwk⟩ := hin9
          refine lv_iload hx hb dX4_change_82 (lv_at hl 0 rfl) ?_
          refine lv_aload_n hx hb dX4_change_84 rfl (lv_at hl 2 rfl) ?_
          refine q_len hx hb hK 5 rfl (hi1.old hwk).1 dX4_change_85 ?_
          refine lv_icmp_ge (tgt := 450) hx hb dX4_change_86 (by decide) (fun c86 => ?_) (fun c86 => ?_)
          · skip
            have c86 : (L k1).1 ≤ i := (nc_le (a := (L k1).1) (b := i) (by omega) (by omega)).mp c86
            omega
          · skip
            have c86 : ¬ ((L k1).1 ≤ i) := fun q9 => c86 ((nc_le (a := (L k1).1) (b := i) (by omega) (by omega)).mpr q9)
            have hsp9 := hR1.sp (show i < (L k1).1 by omega)
            refine lv_iconst (v := nI 2) hx hb dX4_change_89 (by decide) ?_
            have hlw9 := hil.low
            obtain ⟨b2, hb2⟩ : ∃ z : Nat, z = H.size := ⟨_, rfl⟩
            have ln_b2 : s.heap.size ≤ b2 := by have h8 := hS.1; omega
            have lw_b2 : Hw.size ≤ b2 := by have h8 := kp_sz hwk; omega
            refine q_newi hx hb (hts (.arrayClass .int) (by decide +kernel)) hK 2 rfl (by decide) (by show _ ≤ 310; omega) (by show _ ≤ 11000; omega) hS dX4_change_90 (fun H1 hw9 z1 o1 hS => ?_)
            rw [← hb2] at hw9 ⊢
            have nb2 := hw9
            have sb2 : H1.size = b2 + 1 := by omega
            replace hwk := fun (z : Nat) (hz : z < Hw.size) => (o1 z (by omega)).trans (hwk z hz)
            replace hil := hil.old o1
            refine lv_dup hx hb dX4_change_92 rfl ?_
            refine lv_iconst (v := nI 0) hx hb dX4_change_93 (by decide) ?_
            refine lv_aload_n hx hb dX4_change_94 rfl (lv_at hl 2 rfl) ?_
            refine lv_iload hx hb dX4_change_95 (lv_at hl 0 rfl) ?_
            refine q_aald hx hb hK 5 rfl rfl (hi1.old hwk).1 i rfl (by omega) (by omega) (b := ads1 i) rfl dX4_change_97 ?_
            refine lv_iconst (v := nI 0) hx hb dX4_change_98 (by decide) ?_
            refine q_iald hx hb hK ((hi1.old hwk).2 i (by omega)).2 0 (rfl) (by omega) (by decide) dX4_change_99 ?_
            refine W.eq (g2 := F0 m 100 ls [.int (nI ((L k1).2.1 i)), .int (nI 0), .ref b2, .ref b2]) rfl ?_
            refine q_iast hx hb hK nb2 0 (rfl) (by omega) (by decide) hS (hA _ (by omega)) dX4_change_100 (fun H1 locs1 hw9 hz oq hS => ?_)
            have nb2 := hw9
            replace hwk := fun (z : Nat) (hz : z < Hw.size) => (oq z (by omega)).trans (hwk z hz)
            replace hil := hil.ne hlw9 (by omega) oq
            refine lv_dup hx hb dX4_change_101 rfl ?_
            refine lv_iconst (v := nI 1) hx hb dX4_change_102 (by decide) ?_
            refine lv_aload_n hx hb dX4_change_103 rfl (lv_at hl 2 rfl) ?_
            refine lv_iload hx hb dX4_change_104 (lv_at hl 0 rfl) ?_
            refine q_aald hx hb hK 5 rfl rfl (hi1.old hwk).1 i rfl (by omega) (by omega) (b := ads1 i) rfl dX4_change_106 ?_
            refine lv_iconst (v := nI 1) hx hb dX4_change_107 (by decide) ?_
            refine q_iald hx hb hK ((hi1.old hwk).2 i (by omega)).2 1 (rfl) (by omega) (by decide) dX4_change_108 ?_
            refine W.eq (g2 := F0 m 109 ls [.int (nI ((L k1).2.2 i)), .int (nI 1), .ref b2, .ref b2]) rfl ?_
            refine q_iast hx hb hK nb2 1 (rfl) (by omega) (by decide) hS (hA _ (by omega)) dX4_change_109 (fun H1 locs1 hw9 hz oq hS => ?_)
            have nb2 := hw9
            replace hwk := fun (z : Nat) (hz : z < Hw.size) => (oq z (by omega)).trans (hwk z hz)
            replace hil := hil.ne hlw9 (by omega) oq
            refine lv_astore (lv' := [(7, .ref b2), (6, .int (nI i)), (4, .ref b1), (3, .ref (la k1)), (2, .int (nI 7)), (1, .int (nI k1)), (0, .ref o)]) hx hb dX4_change_110 hl (by decide) rfl (fun ls hl => ?_)
            refine lv_iload_n hx hb dX4_change_112 rfl (lv_at hl 4 rfl) ?_
            refine lv_iconst (v := nI 1) hx hb dX4_change_113 (by decide) ?_
            refine lv_icmp_ne (tgt := 237) hx hb dX4_change_114 (by decide) (fun c114 => ?_) (fun c114 => ?_)
            · skip
              have c114 : ¬ (7 = 1) := fun q9 => c114 ((nc_eq (a := 7) (b := 1) (by omega) (by omega)).mpr q9)
              refine lv_iload_n hx hb dX4_change_237 rfl (lv_at hl 4 rfl) ?_
              refine lv_iconst (v := nI 2) hx hb dX4_change_238 (by decide) ?_
              refine lv_icmp_ne (tgt := 319) hx hb dX4_change_239 (by decide) (fun c239 => ?_) (fun c239 => ?_)
              · skip
                have c239 : ¬ (7 = 2) := fun q9 => c239 ((nc_eq (a := 7) (b := 2) (by omega) (by omega)).mpr q9)
                refine lv_iload_n hx hb dX4_change_319 rfl (lv_at hl 4 rfl) ?_
                refine lv_iconst (v := nI 3) hx hb dX4_change_320 (by decide) ?_
                refine lv_icmp_ne (tgt := 353) hx hb dX4_change_321 (by decide) (fun c321 => ?_) (fun c321 => ?_)
                · skip
                  have c321 : ¬ (7 = 3) := fun q9 => c321 ((nc_eq (a := 7) (b := 3) (by omega) (by omega)).mpr q9)
                  refine lv_iload_n hx hb dX4_change_353 rfl (lv_at hl 4 rfl) ?_
                  refine lv_iconst (v := nI 4) hx hb dX4_change_354 (by decide) ?_
                  refine lv_icmp_ne (tgt := 408) hx hb dX4_change_355 (by decide) (fun c355 => ?_) (fun c355 => ?_)
                  · skip
                    have c355 : ¬ (7 = 4) := fun q9 => c355 ((nc_eq (a := 7) (b := 4) (by omega) (by omega)).mpr q9)
                    refine lv_iload_n hx hb dX4_change_408 rfl (lv_at hl 4 rfl) ?_
                    refine lv_iconst (v := nI 5) hx hb dX4_change_409 (by decide) ?_
                    refine lv_icmp_ne (tgt := 444) hx hb dX4_change_410 (by decide) (fun c410 => ?_) (fun c410 => ?_)
                    · skip
                      have c410 : ¬ (7 = 5) := fun q9 => c410 ((nc_eq (a := 7) (b := 5) (by omega) (by omega)).mpr q9)
                      refine lv_iinc (v := nI (i + 1)) (lv' := [(6, .int (nI (i + 1))), (7, .ref b2), (4, .ref b1), (3, .ref (la k1)), (2, .int (nI 7)), (1, .int (nI k1)), (0, .ref o)]) hx hb dX4_change_444 hl (k := 1) rfl (inc_1 _) (by decide) rfl (fun ls hl => ?_)
                      refine lv_goto (tgt := 82) hx hb dX4_change_447 (by decide) ?_
                      exact W.widen (by omega) (by omega) (hnext _ _ _ ⟨hS, lv_sub hl [0, 2, 3, 4, 5, 6] rfl, (by exact hil), (by exact hwk)⟩)
                    · skip
                      have c410 : 7 = 5 := (nc_eq (a := 7) (b := 5) (by omega) (by omega)).mp c410
                      omega
                  · skip
                    have c355 : 7 = 4 := (nc_eq (a := 7) (b := 4) (by omega) (by omega)).mp c355
                    omega
                · skip
                  have c321 : 7 = 3 := (nc_eq (a := 7) (b := 3) (by omega) (by omega)).mp c321
                  omega
              · skip
                have c239 : 7 = 2 := (nc_eq (a := 7) (b := 2) (by omega) (by omega)).mp c239
                omega
            · skip
              have c114 : 7 = 1 := (nc_eq (a := 7) (b := 1) (by omega) (by omega)).mp c114
              omega
        · skip
          intro H locs ls hin9
          obtain ⟨hS, hl, hil, hwk⟩ := hin9
          refine lv_iload hx hb dX4_change_82 (lv_at hl 0 rfl) ?_
          refine lv_aload_n hx hb dX4_change_84 rfl (lv_at hl 2 rfl) ?_
          refine q_len hx hb hK 5 rfl (hi1.old hwk).1 dX4_change_85 ?_
          refine lv_icmp_ge (tgt := 450) hx hb dX4_change_86 (by decide) (fun c86 => ?_) (fun c86 => ?_)
          · skip
            have c86 : (L k1).1 ≤ (L k1).1 := (nc_le (a := (L k1).1) (b := (L k1).1) (by omega) (by omega)).mp c86
            refine lv_iload_n hx hb dX4_change_450 rfl (lv_at hl 3 rfl) ?_
            refine lv_if_ne (tgt := 460) hx hb dX4_change_451 (by decide) (fun c451 => ?_) (fun c451 => ?_)
            · skip
              have c451 : ¬ (7 = 0) := fun q9 => c451 ((nc_eq (a := 7) (b := 0) (by omega) (by omega)).mpr q9)
              refine lv_iload_n hx hb dX4_change_460 rfl (lv_at hl 3 rfl) ?_
              refine lv_bipush (v := nI 6) hx hb dX4_change_461 (by decide) ?_
              refine lv_icmp_ne (tgt := 504) hx hb dX4_change_463 (by decide) (fun c463 => ?_) (fun c463 => ?_)
              · skip
                have c463 : ¬ (7 = 6) := fun q9 => c463 ((nc_eq (a := 7) (b := 6) (by omega) (by omega)).mpr q9)
                have hrep : Rep (pB (chgG (F k1) sr 7)) 201 (((0, fun _ => 0, fun _ => 0) : SL)) := by rw [chgG_7]; exact rep_nil _ _ fun g hg => fill0_h (F k1) hg
                refine lv_aload_n hx hb dX4_change_504 rfl (lv_at hl 5 rfl) ?_
                refine q_get (v := .ref (o + 38)) hx hb hts hin4 hown hK (hw.ob.kept (hwk _ hw.ob.lt)) rfl 3 (by decide) (hts (.fieldLink RX4 18 "PuddingstoneLineLaw$Stones" "sets" "[[[I") (by decide +kernel)) (fun _ h9 => h9) rfl dX4_change_505 ?_
                refine lv_iload_n hx hb dX4_change_508 rfl (lv_at hl 4 rfl) ?_
                refine lv_aload hx hb dX4_change_509 (lv_at hl 1 rfl) ?_
                refine q_aastq hx hb hK (hw.ss.kept (hwk _ hw.ss.lt)) hil.1 k1 rfl (by omega) (by decide) hS (hA _ (by omega)) dX4_change_511 (fun H1 locs1 hw9 hz oq hS => ?_)
                replace hw := (hw.old hwk).setL (k := k1) (m := b1) (S := ((0, fun _ => 0, fun _ => 0) : SL)) (by omega) hrep.1.le ⟨_, hil.wk (by omega)⟩ hw9 oq
                replace hil := hil.up (m := o + 53) (by omega) (by omega) (fun z h8 h7 => oq z (by omega))
                refine lv_aload_n hx hb dX4_change_512 rfl (lv_at hl 5 rfl) ?_
                refine q_get (v := .ref (ad 0)) hx hb hts hin4 hown hK hw.ob rfl 0 (by decide) (hts (.fieldLink RX4 10 "PuddingstoneLineLaw$Stones" "m" "LPuddingstoneLine;") (by decide +kernel)) (fun _ h9 => h9) rfl dX4_change_513 ?_
                refine lv_iload_n hx hb dX4_change_516 rfl (lv_at hl 4 rfl) ?_
                refine lv_iload_n hx hb dX4_change_517 rfl (lv_at hl 3 rfl) ?_
                refine va_calli (va_runV (As := [.int (nI k1), .int (nI 7)]) (rest := []) ⟨hx, hb, hml, hown, hts⟩ (conX3_change l D T ad F V sr C k1 7 (by omega) (by omega) hinv.1) (cwV 2 hts gX4_change_X3_change rfl rfl rfl (by decide +kernel) ⟨Nat.le_of_ble_eq_true rfl, Nat.le_of_ble_eq_true rfl⟩) (preV hK hw.pl.o rfl hw.pl) rfl rfl hl.1 rfl (lv_room (Nat.le_of_ble_eq_true rfl)) dX4_change_518 ⟨by show _ ≤ 310; omega, by show _ ≤ 11000; omega⟩) hS (fun q _ h9 => (by obtain ⟨i9, h8, rfl⟩ := h9; exact hA _ (by have := hw.1 i9 h8; omega))) (fun q h9 => (by obtain ⟨i9, h8, rfl⟩ := h9; exact hA _ (by have := hw.1 i9 h8; omega))) (fun r u t H1 locs1 ht hvm hw9 hB hz1 hk1 hS => ?_)
                try dsimp only at hB
                rw [ht] at hB
                rw [hw9]
                replace hil := hil.up (m := o + 53) (by omega) (by omega) (fun z h8 h7 => hk1 z h7 (fun ⟨i9, h6, h5⟩ => by have := hw.1 i9 h6; omega))
                replace hw := hw.setP hB (fun q h1 h2 => hk1 q h1 h2)
                refine lv_aload hx hb dX4_change_521 (lv_at hl 1 rfl) ?_
                refine vp_callSi (va_runS (As := [.ref b1]) (rest := [.int (cntZ (chgG (F k1) sr 7) 201)]) ⟨hx, hb, hml, hown, hts⟩ (conX4_count l D T b1 b1 (fun k => (fun _ => 0) k) 0 (fun _ => 0) (fun _ => 0) (fun k hk => hrep.sp hk) hrep.1.le) (va_cwS 1 hts gX4_change_X4_count rfl rfl rfl (by decide +kernel) ⟨Nat.le_of_ble_eq_true rfl, Nat.le_of_ble_eq_true rfl⟩) (preS hK hil) rfl rfl hl.1 rfl (lv_room (Nat.le_of_ble_eq_true rfl)) dX4_change_523 ⟨by show _ ≤ 310; omega, by show _ ≤ 11000; omega⟩).run (fun r23 hr23 => ?_)
                rw [hr23]
                have hans := ans_cnt hrep
                refine lv_icmp_ne (tgt := 533) hx hb dX4_change_526 (by decide) (fun c526 => ?_) (fun c526 => ?_)
                · skip
                  exact absurd hans c526
                · skip
                  refine lv_iconst (v := nI 1) hx hb dX4_change_529 (by decide) ?_
                  refine lv_goto (tgt := 534) hx hb dX4_change_530 (by decide) ?_
                  refine W.widen (k := 310) (n := 11000) (by first | omega | decide) (by first | omega | decide) ?_
                  exact W.zret (v := nI 1) hx hb hr (rfl) (fun t ht _ => ⟨⟨nI 1, (), rfl, by rfl, by dsimp only; rw [ht]; exact ⟨_, _, _, _, _, _, _, _, _, by omega, (by have h8 := hS.1; omega), hw, hinv.put (chgS_le hinv.1) up_ne (by rw [va_up_s]; exact hrep)⟩⟩, hS.F ht⟩) hS.2.2 dX4_change_534
              · skip
                have c463 : 7 = 6 := (nc_eq (a := 7) (b := 6) (by omega) (by omega)).mp c463
                omega
            · skip
              have c451 : 7 = 0 := (nc_eq (a := 7) (b := 0) (by omega) (by omega)).mp c451
              omega
          · skip
            have c86 : ¬ ((L k1).1 ≤ (L k1).1) := fun q9 => c86 ((nc_le (a := (L k1).1) (b := (L k1).1) (by omega) (by omega)).mpr q9)
            omega
    · skip
      have c45 : ¬ ((L k1).1 ≤ (L k1).1) := fun q9 => c45 ((nc_le (a := (L k1).1) (b := (L k1).1) (by omega) (by omega)).mpr q9)
      omega
