/-! THE CHECKSUM: it depends on the grains and the values alone (pure) -/
theorem dgFa_0 (f : Nat → Int32) (d : Int64) : dgFa f d 0 = d := rfl
theorem dgFb_0 (f : Nat → Int32) (d : Int64) : dgFb f d 0 = d := rfl
theorem dgB_0 (V : Nat → Nat → Int32) (d : Int64) : dgB V d 0 = d := rfl
theorem lonR_0 (s : SRs) : lonR s 0 = nI 0 := rfl
theorem dgSa_0 (f : Nat → Int32) (s : SRs) (d : Int64) : dgSa f s d 0 = (d, s) := rfl
theorem dgSb_0 (s : SRs) (i : Nat) (d : Int64) : dgSb s i d 0 = d := rfl
theorem dgSc_0 (s : SRs) (d : Int64) : dgSc s d 0 = d := rfl
theorem dgA_0 (F : Nat → Nat → Int32) (s : SRs) : dgA F s 0 = (965, s) := rfl
theorem farS_0 (F : Nat → Nat → Int32) (fam g : Nat) : farS F fam g 0 = (-1, -1) := rfl
theorem tcS_0 (F : Nat → Nat → Int32) (fam : Nat) (f : Nat → Int32) : tcS F fam f 0 = (0, -1) := rfl
theorem thkZ_0 (F : Nat → Nat → Int32) (fam : Nat) (x : Int32) : thkZ F fam x 0 = nI 0 := rfl
theorem cthZ_0 (F : Nat → Nat → Int32) (fam : Nat) (m : Int32) : cthZ F fam m 0 = nI 0 := rfl
theorem cpS_0 (F : Nat → Nat → Int32) (fam : Nat) : cpS F fam 0 = (nI 0, -1) := rfl
theorem dgCg_0 (F : Nat → Nat → Int32) (d : Int64) : dgCg F d 0 = d := rfl
theorem at_ext {f g : Nat → Int32} (h : ∀ j : Nat, j < 201 → f j = g j) : atV f = atV g := by
  funext x
  unfold atV
  by_cases c1 : x < 0
  · rw [if_pos c1, if_pos c1]
  · rw [if_neg c1, if_neg c1]
    by_cases c2 : nI 201 ≤ x
    · rw [if_pos c2, if_pos c2]
    · rw [if_neg c2, if_neg c2]
      obtain ⟨j, hj, rfl⟩ := nI_of c1
      have h2 : j < 201 := Nat.lt_of_not_le fun q => c2 ((nI_leI (by decide) hj).mpr q)
      rw [nI_clamp hj]
      exact h j h2
theorem fac_ext {f g : Nat → Int32} (h : atV f = atV g) (w : Nat) : facFv f w = facFv g w := by
  unfold facFv stepsV lstV grtV fgrV arwV
  rw [h]
theorem dgF_ext {f g : Nat → Int32} (h : atV f = atV g) (d : Int64) : dgF f d = dgF g d := by
  have h1 : ∀ n : Nat, dgFa f d n = dgFa g d n := fun n => by
    induction n with
    | zero => rw [dgFa_0, dgFa_0]
    | succ n ih => rw [dgFa_s, dgFa_s, ih, fac_ext h]
  have h2 : ∀ (x : Int64) (n : Nat), dgFb f x n = dgFb g x n := fun x n => by
    induction n with
    | zero => rw [dgFb_0, dgFb_0]
    | succ n ih => rw [dgFb_s, dgFb_s, ih, h]
  unfold dgF
  rw [h1, h2]
theorem dgB_ext {V V2 : Nat → Nat → Int32} (h : ∀ k : Nat, k < 5 → atV (V k) = atV (V2 k)) (d : Int64) (n : Nat) (hn : n ≤ 5) : dgB V d n = dgB V2 d n := by
  induction n with
  | zero => rw [dgB_0, dgB_0]
  | succ n ih => rw [dgB_s, dgB_s, ih (by omega), dgF_ext (h n (by omega))]
/-! sets -/
theorem cnt_ext {f g : Nat → Int32} (h : holdZ f = holdZ g) (n : Nat) : cntZ f n = cntZ g n := by
  unfold cntZ
  rw [h]
theorem len_ext {f g : Nat → Int32} (h : holdZ f = holdZ g) (n : Nat) : lenZ f n = lenZ g n := by
  unfold lenZ
  rw [h]
theorem pB_ext {f g : Nat → Int32} (h : holdZ f = holdZ g) : pB f = pB g := by
  funext j
  unfold pB
  rw [h]
theorem lon_e {u w : SRs} (n : Nat) (h : ∀ i : Nat, i < n → lenR u (nI i) = lenR w (nI i)) : lonR u n = lonR w n := by
  induction n with
  | zero => rw [lonR_0, lonR_0]
  | succ n ih =>
    have e : ∀ u : SRs, lonR u (n + 1) = if lenR u (nI n) = 0 then lonR u n + 1 else lonR u n := fun _ => rfl
    rw [e, e, ih fun i hi => h i (by omega), h n (Nat.lt_succ_self n)]
theorem fs_ext {f g : Nat → Int32} (h : holdZ f = holdZ g) (s t : SRs) {w : Nat} (hw : w ≤ 5) : facSv f w s = facSv g w t := by
  have hp := pB_ext h
  have hr : runs f = runs g := by unfold runs; rw [hp]
  have hg : gaps f = gaps g := by unfold gaps; rw [hp]
  rcases (show w = 0 ∨ w = 1 ∨ w = 2 ∨ w = 3 ∨ w = 4 ∨ w = 5 by omega) with rfl | rfl | rfl | rfl | rfl | rfl
  · rw [os0, os0, hp]
  · rw [os1, os1, hr]
  · rw [os2, os2, hp]
  · have e : ∀ (f : Nat → Int32) (s : SRs), facSv f 3 s = lonR (rrR f (nI 1) s 201) (rrR f (nI 1) s 201).2.2 := fun f s => by
      unfold facSv
      rw [if_neg (by decide), if_neg (by decide), if_neg (by decide), if_pos rfl]
    rw [e, e, sp_n, sp_n, hr]
    refine lon_e _ fun i hi => ?_
    rw [rr_len f (nI 1) s (by rw [runV_1, hr]; exact hi), rr_len g (nI 1) t (by rw [runV_1]; exact hi), runV_1, runV_1, hr]
  · rw [os4, os4, hg]
  · have e : ∀ (f : Nat → Int32) (s : SRs), facSv f 5 s = lenR (rrR f (nI 0) s 201) (lngR (rrR f (nI 0) s 201) ((rrR f (nI 0) s 201).2.2 - 1)) := fun f s => by
      unfold facSv
      rw [if_neg (by decide), if_neg (by decide), if_neg (by decide), if_neg (by decide), if_neg (by decide)]
    have hz : ∀ (f : Nat → Int32) (s : SRs), (rrR f (nI 0) s 201).2.2 = (gaps f).1 := fun f s => by rw [rr_n, runV_0]
    rw [e, e]
    by_cases c : (gaps g).1 = 0
    · rw [len_out _ ((hz f s).trans (by rw [hg]; exact c)), len_out _ ((hz g t).trans c)]
    · have hl := (lngN_ok (gaps g) ((gaps g).1 - 1)).1
      have h1 := rr_lng f (nI 0) s (n := (gaps g).1 - 1) (by rw [runV_0, hg]; omega)
      have h2 := rr_lng g (nI 0) t (n := (gaps g).1 - 1) (by rw [runV_0]; omega)
      rw [runV_0, hg] at h1
      rw [runV_0] at h2
      rw [hz, hz, hg, h1, h2, rr_len f (nI 0) s (by rw [runV_0, hg]; omega), rr_len g (nI 0) t (by rw [runV_0]; omega), runV_0, runV_0, hg]
theorem dgSa_ext {f g : Nat → Int32} (h : holdZ f = holdZ g) (s t : SRs) (d : Int64) (n : Nat) (hn : n ≤ 6) : (dgSa f s d n).1 = (dgSa g t d n).1 := by
  induction n with
  | zero => rw [dgSa_0, dgSa_0]
  | succ n ih =>
    rw [dgSa_s, dgSa_s]
    show (dgSa f s d n).1 * 31 + _ = (dgSa g t d n).1 * 31 + _
    rw [ih (by omega), fs_ext h _ (dgSa g t d n).2 (by omega)]
theorem dgSc_e {u w : SRs} (d : Int64) (n : Nat) (h : ∀ i x : Nat, i < n → x < 3 → facR u (nI i) (nI x) = facR w (nI i) (nI x)) : dgSc u d n = dgSc w d n := by
  have hb : ∀ (i : Nat) (x : Int64) (k : Nat), i < n → k ≤ 3 → dgSb u i x k = dgSb w i x k := fun i x k hi => by
    induction k with
    | zero => exact fun _ => by rw [dgSb_0, dgSb_0]
    | succ k ih =>
      intro hk
      rw [dgSb_s, dgSb_s, ih (by omega), h i k hi (by omega)]
  have hc : ∀ k : Nat, k ≤ n → dgSc u d k = dgSc w d k := fun k => by
    induction k with
    | zero => exact fun _ => by rw [dgSc_0, dgSc_0]
    | succ k ih =>
      intro hk
      rw [dgSc_s, dgSc_s, ih (by omega), hb k _ 3 (by omega) (Nat.le_refl 3)]
  exact hc n (Nat.le_refl n)
theorem dgSet_ext {f g : Nat → Int32} (h : holdZ f = holdZ g) (s t : SRs) (d : Int64) : dgSet f s d = dgSet g t d := by
  have hp := pB_ext h
  have hr : runs f = runs g := by unfold runs; rw [hp]
  have e1 : (dgSetS f s d).2.2 = (runs g).1 := by unfold dgSetS; rw [sp_n, hr]
  have e2 : (dgSetS g t d).2.2 = (runs g).1 := by unfold dgSetS; rw [sp_n]
  unfold dgSet
  rw [e1, e2, dgSa_ext h s t d 6 (Nat.le_refl 6)]
  refine dgSc_e _ _ fun i x hi hx => ?_
  unfold dgSetS
  rcases (show x = 0 ∨ x = 1 ∨ x = 2 by omega) with rfl | rfl | rfl
  · rw [sp_f0 f _ (by rw [hr]; exact hi), sp_f0 g _ hi, hr]
  · rw [sp_f1 f _ (by rw [hr]; exact hi), sp_f1 g _ hi, hr]
  · rw [sp_f2 f _ (by rw [hr]; exact hi), sp_f2 g _ hi, hr]
theorem dgA_ext {F G : Nat → Nat → Int32} (h : ∀ k : Nat, k < 8 → holdZ (F k) = holdZ (G k)) (s t : SRs) (n : Nat) (hn : n ≤ 8) : (dgA F s n).1 = (dgA G t n).1 := by
  induction n with
  | zero => rw [dgA_0, dgA_0]
  | succ n ih =>
    rw [dgA_s, dgA_s]
    show dgSet _ _ _ = dgSet _ _ _
    rw [ih (by omega)]
    exact dgSet_ext (h n (by omega)) _ _ _
theorem runR_ext {f g : Nat → Int32} (h : holdZ f = holdZ g) (n a : Nat) : runR f n a = runR g n a := by
  induction n generalizing a with
  | zero => rw [runR_0, runR_0]
  | succ n ih => rw [runR_s, runR_s, h, ih]
theorem runL_ext {f g : Nat → Int32} (h : holdZ f = holdZ g) (a : Nat) : runL f a = runL g a := by
  induction a with
  | zero => rw [runL_0, runL_0]
  | succ a ih => rw [runL_s, runL_s, h, ih]
theorem lrN_ext {f g : Nat → Int32} (h : holdZ f = holdZ g) (a : Nat) : lrN f a = lrN g a := runR_ext h _ _
section FAMX
variable {F G : Nat → Nat → Int32}
theorem farS_ext (h : ∀ k : Nat, k < 8 → holdZ (F k) = holdZ (G k)) (fam g n : Nat) (hn : n ≤ 8) : farS F fam g n = farS G fam g n := by
  induction n with
  | zero => rw [farS_0, farS_0]
  | succ n ih => rw [farS_s, farS_s, ih (by omega), h n (by omega), lrN_ext (h n (by omega))]
theorem farN_lt (F : Nat → Nat → Int32) (fam g : Nat) : farN F fam g < 8 := by
  rcases far_or F fam g with h | ⟨k, h1, h2⟩
  · unfold farN
    rw [h]
    decide
  · rw [farN_e h1 h2]
    exact h1
theorem tcS_ext (h : ∀ k : Nat, k < 8 → holdZ (F k) = holdZ (G k)) (fam : Nat) {f g : Nat → Int32} (hf : holdZ f = holdZ g) (n : Nat) : tcS F fam f n = tcS G fam g n := by
  induction n with
  | zero => rw [tcS_0, tcS_0]
  | succ n ih =>
    have e : farN F fam n = farN G fam n := by unfold farN; rw [farS_ext h fam n 8 (Nat.le_refl 8)]
    rw [tcS_s, tcS_s, ih, hf, e, lrN_ext (h _ (farN_lt G fam n))]
theorem cov_ext (h : ∀ k : Nat, k < 8 → holdZ (F k) = holdZ (G k)) (fam : Nat) {f g : Nat → Int32} (hf : holdZ f = holdZ g) : covV F fam f = covV G fam g := by
  have e : ∀ i : Nat, stp F fam f i ↔ stp G fam g i := fun i => by
    unfold stp
    rw [tcS_ext h fam hf i, hf, farS_ext h fam i 8 (Nat.le_refl 8)]
  by_cases c : ∀ i : Nat, i < 201 → ¬ stp G fam g i
  · rw [covV_all c, covV_all fun i hi q => c i hi ((e i).mp q), tcS_ext h fam hf]
  · have h2 : ∃ i : Nat, i < 201 ∧ stp G fam g i := Classical.byContradiction fun q => c fun i hi q2 => q ⟨i, hi, q2⟩
    obtain ⟨i, hi, h3⟩ := h2
    rw [covV_stop hi h3, covV_stop hi ((e i).mpr h3)]
theorem thk_ext (h : ∀ k : Nat, k < 8 → holdZ (F k) = holdZ (G k)) (fam : Nat) (x : Int32) (n : Nat) (hn : n ≤ 8) : thkZ F fam x n = thkZ G fam x n := by
  induction n with
  | zero => rw [thkZ_0, thkZ_0]
  | succ n ih => rw [thkZ_s, thkZ_s, ih (by omega), h n (by omega)]
theorem cth_ext (h : ∀ k : Nat, k < 8 → holdZ (F k) = holdZ (G k)) (fam : Nat) (m : Int32) (n : Nat) : cthZ F fam m n = cthZ G fam m n := by
  induction n with
  | zero => rw [cthZ_0, cthZ_0]
  | succ n ih => rw [cthZ_s, cthZ_s, ih, thk_ext h fam _ 8 (Nat.le_refl 8)]
theorem ep_ext (h : ∀ k : Nat, k < 8 → holdZ (F k) = holdZ (G k)) (fam g : Nat) (lp : Int32) : epZ F fam g lp = epZ G fam g lp := by
  have e : ∀ k : Nat, k < 8 → (epP F fam g lp k ↔ epP G fam g lp k) := fun k hk => by
    unfold epP
    rw [h k hk, runL_ext (h k hk)]
  by_cases c : ∀ k : Nat, k < 8 → ¬ epP G fam g lp k
  · rw [epZ_n c, epZ_n fun k hk q => c k hk ((e k hk).mp q)]
  · have h2 : ∃ k : Nat, k < 8 ∧ epP G fam g lp k := Classical.byContradiction fun q => c fun k hk q2 => q ⟨k, hk, q2⟩
    obtain ⟨k, hk, h3⟩ := h2
    rw [epZ_y hk h3, epZ_y hk ((e k hk).mpr h3)]
theorem cp_ext (h : ∀ k : Nat, k < 8 → holdZ (F k) = holdZ (G k)) (fam n : Nat) : cpS F fam n = cpS G fam n := by
  induction n with
  | zero => rw [cpS_0, cpS_0]
  | succ n ih => rw [cpS_s, cpS_s, ih, ep_ext h]
theorem dgCg_ext (h : ∀ k : Nat, k < 8 → holdZ (F k) = holdZ (G k)) (d : Int64) (n : Nat) (hn : n ≤ 8) : dgCg F d n = dgCg G d n := by
  induction n with
  | zero => rw [dgCg_0, dgCg_0]
  | succ n ih => rw [dgCg_s, dgCg_s, ih (by omega), cov_ext h _ (h n (by omega))]
end FAMX
theorem dgG_ext {F G V V2 : Nat → Nat → Int32} (h : ∀ k j : Nat, k < 8 → j < 201 → pB (F k) j = pB (G k) j) (hv : ∀ k g : Nat, k < 5 → g < 201 → V k g = V2 k g) (s t : SRs) : dgG F V s = dgG G V2 t := by
  have h1 : ∀ k : Nat, k < 8 → holdZ (F k) = holdZ (G k) := fun k hk => hold_ext fun j hj => h k j hk hj
  have h2 : ∀ k : Nat, k < 5 → atV (V k) = atV (V2 k) := fun k hk => at_ext fun g hg => hv k g hk hg
  unfold dgG dgTg
  rw [dgA_ext h1 s t 8 (Nat.le_refl 8), dgB_ext h2 _ 5 (Nat.le_refl 5), cth_ext h1, cth_ext h1, cp_ext h1, dgCg_ext h1 _ 8 (Nat.le_refl 8)]
/-! WHAT LEAVES THE CHECKSUM -/
abbrev EqF (F G : Nat → Nat → Int32) : Prop := ∀ k j : Nat, k < 8 → j < 201 → pB (G k) j = pB (F k) j
abbrev EqV (V W : Nat → Nat → Int32) : Prop := ∀ k g : Nat, k < 5 → g < 201 → W k g = V k g ∧ inL (V k g)
theorem eqF_1 {F G : Nat → Nat → Int32} {k : Nat} (hn : ∀ j : Nat, j < 8 → j ≠ k → G j = F j) (hk : ∀ g : Nat, g < 201 → pB (G k) g = pB (F k) g) : EqF F G := fun i j hi hj => by
  by_cases e : i = k
  · rw [e]
    exact hk j hj
  · rw [hn i hi e]
theorem eqV_1 {V W : Nat → Nat → Int32} {k : Nat} (hV : ∀ i g : Nat, i < 5 → g < 201 → inL (V i g)) (hn : ∀ j : Nat, j < 5 → j ≠ k → W j = V j) (hk : ∀ g : Nat, g < 201 → W k g = V k g) : EqV V W := fun i j hi hj => by
  refine ⟨?_, hV i j hi hj⟩
  by_cases e : i = k
  · rw [e]
    exact hk j hj
  · rw [hn i hi e]
theorem op_join (F : Nat → Nat → Int32) (k : Nat) {how : Nat} (hh : how < 2) : EqF F (va_up F k (jnZ F k k k how 201)) := eqF_1 up_ne fun g hg => by
  rw [va_up_s, jnZ_h F k k k how g hg]
  rcases (show how = 0 ∨ how = 1 by omega) with rfl | rfl <;> cases pB (F k) g <;> decide
theorem op_move (F : Nat → Nat → Int32) {k : Nat} (hk : k < 8) : EqF F (va_up (va_up F 8 (copyZ (F 8) (F k) 201)) k (movZ (va_up F 8 (copyZ (F 8) (F k) 201)) k (nI 2 * nI 0) 201)) := eqF_1 up_ne8 fun g hg => by
  rw [va_up_s, movZ_h F (nI 2 * nI 0) hk g hg, pk_mul, Nat.mul_zero, pk_sub (Nat.zero_le _), Nat.sub_zero]
  rfl
theorem op_chg0 (F : Nat → Nat → Int32) (s t : SRs) (k : Nat) : EqF F (va_up (va_up F k (chgG (F k) s 0)) k (chgG (va_up F k (chgG (F k) s 0) k) t 0)) := eqF_1 (fun j hj hn => by rw [va_up_n _ _ hn, va_up_n _ _ hn]) fun g hg => by
  rw [va_up_s, va_up_s, chgG_0, chgG_0, invZ_h _ g hg, invZ_h _ g hg, Bool.not_not]
theorem op_chg4 (F : Nat → Nat → Int32) (s t : SRs) (k : Nat) : EqF F (va_up (va_up F k (chgG (F k) s 4)) k (chgG (va_up F k (chgG (F k) s 4) k) t 4)) := eqF_1 (fun j hj hn => by rw [va_up_n _ _ hn, va_up_n _ _ hn]) fun g hg => by
  rw [va_up_s, va_up_s, chgG_4, chgG_4, mirZ_a _ hg, mirZ_a _ (show 200 - g < 201 by omega), show 200 - (200 - g) = g by omega]
theorem mix_same (x : Int32) {how : Nat} (hh : how = 1 ∨ how = 2) : mixV x x how = x := by
  rcases hh with rfl | rfl
  · show jmin x x = x
    unfold jmin
    rw [ite_self]
  · show jmax x x = x
    unfold jmax
    rw [ite_self]
theorem op_mix {V : Nat → Nat → Int32} (hV : ∀ i g : Nat, i < 5 → g < 201 → inL (V i g)) {k how : Nat} (hk : k < 5) (hh : how = 1 ∨ how = 2) : EqV V (va_up V k (mxV V k k k how 201)) := eqV_1 hV up_nf fun g hg => by
  rw [va_up_s, mxV_h V k k k how g hg, mix_same _ hh, kepS_id (hV k g hk hg)]
theorem op_raise {V : Nat → Nat → Int32} (hV : ∀ i g : Nat, i < 5 → g < 201 → inL (V i g)) {k lo n : Nat} (hk : k < 5) (hn : lo + n ≤ 201) : EqV V (va_up V k (raiV (V k) (nI 0) lo n)) := eqV_1 hV up_nf fun g hg => by
  rw [va_up_s, raiV_h _ _ _ _ hn g hg]
  have e : V k g + nI 0 = V k g := Int32.add_zero _
  rw [e, kepS_id (hV k g hk hg), ite_self]
/-- turned once: with the other sign, mirrored, by what is 0 away -/
theorem trn_0 {V : Nat → Nat → Int32} (hV : ∀ i g : Nat, i < 5 → g < 201 → inL (V i g)) {k : Nat} (hk : k < 5) (n : Nat) : ∀ g : Nat, g < 201 → trnV (va_up V 5 (copyV (V 5) (V k) 201)) k 0 n g = -(V k g) ∧ inL (-(V k g)) := fun g hg => by
  have h2 := neg_in (hV k g hk hg)
  refine ⟨?_, h2⟩
  unfold trnV
  rw [if_pos rfl, va_up_n _ _ (show k ≠ 5 by omega), negV_h _ g hg, kepS_id h2]
theorem trn_4 {V : Nat → Nat → Int32} (hV : ∀ i g : Nat, i < 5 → g < 201 → inL (V i g)) {k : Nat} (hk : k < 5) (n : Nat) : ∀ g : Nat, g < 201 → trnV (va_up V 5 (copyV (V 5) (V k) 201)) k 4 n g = V k (200 - g) := fun g hg => by
  unfold trnV
  rw [if_neg (by decide), if_neg (by decide), if_neg (by decide), if_neg (by decide), if_pos rfl, va_up_s, mirV_h _ _ g hg, copyV_h _ _ (200 - g) (by omega), kepS_id (hV k (200 - g) hk (by omega)), kepS_id (hV k (200 - g) hk (by omega))]
theorem trn_5 {V : Nat → Nat → Int32} (hV : ∀ i g : Nat, i < 5 → g < 201 → inL (V i g)) {k : Nat} (hk : k < 5) : ∀ g : Nat, g < 201 → trnV (va_up V 5 (copyV (V 5) (V k) 201)) k 5 0 g = V k g := fun g hg => by
  have hc : ∀ j : Nat, j < 201 → copyV (V 5) (V k) 201 j = V k j := fun j hj => by rw [copyV_h _ _ j hj, kepS_id (hV k j hk hj)]
  unfold trnV
  rw [if_neg (by decide), if_neg (by decide), if_neg (by decide), if_neg (by decide), if_neg (by decide), if_pos rfl, va_up_s]
  obtain ⟨-, o, a1, a2, a3⟩ := grnV_h (va_up V 5 (copyV (V 5) (V k) 201) k) (copyV (V 5) (V k) 201) 0 (fun j hj => by rw [hc j hj]; exact hV k j hk hj) g hg
  rw [a3, show o = g by omega, hc g hg]
abbrev trU (V : Nat → Nat → Int32) (k how : Nat) : Nat → Nat → Int32 := va_up (va_up V 5 (copyV (V 5) (V k) 201)) k (trnV (va_up V 5 (copyV (V 5) (V k) 201)) k how 0)
theorem trU_in {V : Nat → Nat → Int32} (hV : ∀ i g : Nat, i < 5 → g < 201 → inL (V i g)) {k how : Nat} (hk : k < 5) (h : ∀ g : Nat, g < 201 → inL (trnV (va_up V 5 (copyV (V 5) (V k) 201)) k how 0 g)) : ∀ i g : Nat, i < 5 → g < 201 → inL (trU V k how i g) := fun i g hi hg => by
  by_cases e : i = k
  · rw [e]
    show inL ((va_up _ k _ : Nat → Nat → Int32) k g)
    rw [va_up_s]
    exact h g hg
  · show inL ((va_up _ k _ : Nat → Nat → Int32) i g)
    rw [va_up_n _ _ e, va_up_n _ _ (by omega)]
    exact hV i g hi hg
theorem op_turn0 {V : Nat → Nat → Int32} (hV : ∀ i g : Nat, i < 5 → g < 201 → inL (V i g)) {k : Nat} (hk : k < 5) : EqV V (trU (trU V k 0) k 0) := by
  have h1 := trU_in (how := 0) hV hk fun g hg => by rw [(trn_0 hV hk 0 g hg).1]; exact (trn_0 hV hk 0 g hg).2
  refine eqV_1 (k := k) hV (fun j hj hn => ?_) fun g hg => ?_
  · show (va_up _ k _ : Nat → Nat → Int32) j = _
    rw [va_up_n _ _ hn, va_up_n _ _ (by omega)]
    show (va_up _ k _ : Nat → Nat → Int32) j = _
    rw [va_up_n _ _ hn, va_up_n _ _ (by omega)]
  · show (va_up _ k _ : Nat → Nat → Int32) k g = _
    rw [va_up_s, (trn_0 h1 hk 0 g hg).1]
    show -((va_up _ k _ : Nat → Nat → Int32) k g) = _
    rw [va_up_s, (trn_0 hV hk 0 g hg).1]
    exact Int32.neg_neg
theorem op_turn4 {V : Nat → Nat → Int32} (hV : ∀ i g : Nat, i < 5 → g < 201 → inL (V i g)) {k : Nat} (hk : k < 5) : EqV V (trU (trU V k 4) k 4) := by
  have h1 := trU_in (how := 4) hV hk fun g hg => by rw [trn_4 hV hk 0 g hg]; exact hV k _ hk (by omega)
  refine eqV_1 (k := k) hV (fun j hj hn => ?_) fun g hg => ?_
  · show (va_up _ k _ : Nat → Nat → Int32) j = _
    rw [va_up_n _ _ hn, va_up_n _ _ (by omega)]
    show (va_up _ k _ : Nat → Nat → Int32) j = _
    rw [va_up_n _ _ hn, va_up_n _ _ (by omega)]
  · show (va_up _ k _ : Nat → Nat → Int32) k g = _
    rw [va_up_s, trn_4 h1 hk 0 g hg]
    show (va_up _ k _ : Nat → Nat → Int32) k (200 - g) = _
    rw [va_up_s, trn_4 hV hk 0 (200 - g) (by omega), show 200 - (200 - g) = g by omega]
theorem op_turn5 {V : Nat → Nat → Int32} (hV : ∀ i g : Nat, i < 5 → g < 201 → inL (V i g)) {k : Nat} (hk : k < 5) : EqV V (trU V k 5) := by
  refine eqV_1 (k := k) hV (fun j hj hn => ?_) fun g hg => ?_
  · show (va_up _ k _ : Nat → Nat → Int32) j = _
    rw [va_up_n _ _ hn, va_up_n _ _ (by omega)]
  · show (va_up _ k _ : Nat → Nat → Int32) k g = _
    rw [va_up_s, trn_5 hV hk g hg]
theorem EqF.trans {F G K : Nat → Nat → Int32} (h1 : EqF F G) (h2 : EqF G K) : EqF F K := fun k j hk hj => (h2 k j hk hj).trans (h1 k j hk hj)
theorem EqV.trans {V W X : Nat → Nat → Int32} (h1 : EqV V W) (h2 : EqV W X) : EqV V X := fun k g hk hg => ⟨(h2 k g hk hg).1.trans (h1 k g hk hg).1, (h1 k g hk hg).2⟩
theorem EqV.inl {V W : Nat → Nat → Int32} (h : EqV V W) : ∀ i g : Nat, i < 5 → g < 201 → inL (W i g) := fun i g hi hg => by
  rw [(h i g hi hg).1]
  exact (h i g hi hg).2
