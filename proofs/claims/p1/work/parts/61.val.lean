/-! WHAT THE CLASS'S METHODS COME TO ON A FRESH OBJECT: the same as the Model's -/
abbrev zz2 : Nat → Nat → Int32 := fun _ _ => nI 0
abbrev sr0 : SRs := (zr0, zr0, 0)
theorem hz0 (g : Int32) : holdZ zr0 g = nI 0 := by
  unfold holdZ
  split
  · rfl
  · split
    · rfl
    · exact if_pos rfl
theorem hz1 (g : Int32) : holdZ zr0 g = 0 := hz0 g
theorem at0 (g : Int32) : atV zr0 g = nI 0 := by
  unfold atV
  split
  · rfl
  · split <;> rfl
theorem wz0 (g : Int32) : wrZ zr0 g (nI 0) = zr0 := by
  unfold wrZ
  split
  · rfl
  · split
    · rfl
    · exact upd_z _
theorem wv0 (g : Int32) : wrV zr0 g (nI 0) = zr0 := by
  unfold wrV
  split
  · rfl
  · split
    · rfl
    · rw [show jmax (-10000) (jmin (nI 10000) (nI 0)) = nI 0 by decide]
      exact upd_z _
theorem zz_up (k : Nat) : va_up zz2 k zr0 = zz2 := va_up_id zz2 k
theorem emp0 : emp zz2 := fun _ _ _ _ => hz1 _
theorem hem0 : ∀ j : Nat, j < 201 → holdZ zr0 (nI j) = 0 := fun _ _ => hz1 _
theorem cnt_z (n : Nat) : cntZ zr0 n = nI 0 := by
  induction n with
  | zero => rfl
  | succ n ih => rw [cntZ_s, if_pos (hz1 _), ih]
theorem len_z (n : Nat) : lenZ zr0 n = nI 0 := by
  induction n with
  | zero => rfl
  | succ n ih => rw [lenZ_s, if_pos (hz1 _), ih]
theorem cnt_c {f : Nat → Int32} {v : Int32} {n : Nat} (hn : n ≤ 201) (h : ∀ j : Nat, j < n → f j = v) : cntZ f n = cntc v n := by
  induction n with
  | zero => exact (cntc_0 v).symm
  | succ n ih =>
    rw [cntZ_s, ih (by omega) (fun j hj => h j (by omega)), holdZ_n (by omega), h n (by omega)]
    by_cases hv : v = 0
    · rw [if_pos hv, if_pos (show nI 0 = 0 from rfl)]
      unfold cntc
      rw [if_pos hv, if_pos hv]
    · rw [if_neg hv, if_neg (show ¬ nI 1 = 0 by decide)]
      exact cntc_sn hv
-- span
theorem fil_0 (lo k : Nat) : fillS zr0 (nI 0) lo k = (zr0, nI 0) := by
  induction k with
  | zero => rfl
  | succ k ih => rw [fillS_s, ih, if_pos (hz0 _)]
theorem fil_1 {v : Int32} (hv : ¬ v = 0) {lo k : Nat} (h : lo + k ≤ 201) : (fillS zr0 v lo k).2 = nI k ∧ ∀ j : Nat, lo + k ≤ j → (fillS zr0 v lo k).1 j = nI 0 := by
  induction k with
  | zero => exact ⟨rfl, fun _ _ => rfl⟩
  | succ k ih =>
    obtain ⟨h1, h2⟩ := ih (by omega)
    have h3 : ¬ holdZ (fillS zr0 v lo k).1 (nI (lo + k)) = v := by
      rw [holdZ_n (by omega), h2 (lo + k) (Nat.le_refl _), if_pos (show nI 0 = 0 from rfl)]
      exact fun q => hv q.symm
    rw [fillS_s, if_neg h3]
    refine ⟨?_, fun j hj => ?_⟩
    · show (fillS zr0 v lo k).2 + 1 = nI (k + 1)
      rw [h1]
      exact nI_1 k
    · show wrZ (fillS zr0 v lo k).1 (nI (lo + k)) v j = nI 0
      rw [wrZ_n (by omega), pk_un (by omega)]
      exact h2 j (by omega)
theorem fg_lg {a b e : Nat} (h : a ≤ b) : fgN a b e ≤ lgN a b e := by
  unfold fgN lgN
  repeat' split
  all_goals omega
theorem v_span {v : Int32} {a b e : Nat} (hab : a ≤ b) (hb : b ≤ 100) (he : e ≤ 3) : (fillS zr0 v (fgN a b e) (min (lgN a b e) 201 - fgN a b e)).2 = spV (nI a) (nI b) (nI e) v := by
  have h1 := fgN_le (a := a) (b := b) (e := e) hab hb
  have h2 := lgN_le (a := a) (e := e) hb
  have h3 := fg_lg (e := e) hab
  unfold spV
  rw [nI_clamp (show a < 2 ^ 31 by omega), nI_clamp (show b < 2 ^ 31 by omega), nI_clamp (show e < 2 ^ 31 by omega)]
  by_cases hv : v = 0
  · subst hv
    rw [if_pos rfl, show (0 : Int32) = nI 0 from rfl, fil_0]
  · rw [if_neg hv, show min (lgN a b e) 201 - fgN a b e = lgN a b e - fgN a b e by omega]
    exact (fil_1 hv (by omega)).1
-- join
theorem joi_0 (k : Nat) : joiZ (nI 0) (nI 0) k = nI 0 := by
  unfold joiZ
  repeat' split
  all_goals first | rfl | contradiction | (exfalso; simp_all; done)
theorem jn_0 (to one other k n : Nat) : jnZ zz2 to one other k n = zr0 := by
  induction n with
  | zero => rfl
  | succ n ih =>
    rw [jnZ_s, ih, zz_up]
    show wrZ zr0 (nI n) (joiZ (holdZ zr0 (nI n)) (holdZ zr0 (nI n)) k) = zr0
    rw [hz0, joi_0, wz0]
-- change
theorem inv_0 {n : Nat} (hn : n ≤ 201) : invZ zr0 n = rwI (nI 1) n := by
  induction n with
  | zero => exact (rwI_0 _).symm
  | succ n ih =>
    rw [invZ_s, ih (by omega), wrZ_n (by omega), holdZ_n (by omega), show rwI (nI 1) n n = nI 0 from if_neg (Nat.lt_irrefl n), if_pos (show nI 0 = 0 from rfl), if_pos (show nI 0 = 0 from rfl), rwI_s]
theorem drop_0 (n : Nat) : dropZ zr0 n = zr0 := by
  induction n with
  | zero => rfl
  | succ n ih =>
    rw [dropZ_s, ih]
    split
    · rfl
    · exact wz0 _
theorem edg_0 (v : Int32) (n : Nat) : edgZ v zr0 n = zr0 := by
  induction n with
  | zero => rfl
  | succ n ih => rw [edgZ_s, ih, if_pos ⟨hz1 _, hz1 _⟩]
theorem odd_0 (n : Nat) : oddZ zr0 n = zr0 := by
  induction n with
  | zero => rfl
  | succ n ih => rw [oddZ_s, ih, wz0]
theorem mir_0 (n : Nat) : mirZ zr0 n = zr0 := by
  induction n with
  | zero => rfl
  | succ n ih => rw [mirZ_s, ih, hz0, hz0, wz0, wz0]
theorem chg_0 {how : Nat} (h : how ≤ 7) (h0 : ¬ how = 0) : chgZ zr0 how = zr0 := by
  have e1 : (fillS zr0 (nI 0) 0 (min 201 201 - 0)).1 = zr0 := by rw [fil_0]
  unfold chgZ
  rw [if_neg h0, drop_0, edg_0, edg_0, odd_0, mir_0, e1]
  repeat' split
  all_goals rfl
theorem v_change {how : Nat} (h : how ≤ 7) : cntZ (chgZ zr0 how) 201 = chV (nI how) := by
  by_cases h0 : how = 0
  · subst h0
    have e1 : chgZ zr0 0 = rwI (nI 1) 201 := (if_pos rfl).trans (inv_0 (Nat.le_refl _))
    rw [e1, cnt_c (f := rwI (nI 1) 201) (v := nI 1) (Nat.le_refl _) (fun j hj => if_pos hj), cntc_o]
    exact (if_pos rfl).symm
  · rw [chg_0 h h0, cnt_z]
    exact (if_neg (fun q => h0 ((nc_eq (a := how) (b := 0) (by omega) (by decide)).mp q))).symm
-- move, stretch
theorem cpy_0 (n : Nat) : copyZ zr0 zr0 n = zr0 := by
  induction n with
  | zero => rfl
  | succ n ih => rw [copyZ_s, ih, hz0, wz0]
theorem mov_0 (k : Nat) (d : Int32) (n : Nat) : movZ zz2 k d n = zr0 := by
  induction n with
  | zero => rfl
  | succ n ih => rw [movZ_s, ih, zz_up, show holdZ (zz2 8) (nI n - d) = nI 0 from hz0 _, wz0]
theorem v_move (k : Nat) (d : Int32) : cntZ (movZ (va_up zz2 8 (copyZ (zz2 8) (zz2 k) 201)) k d 201) 201 = nI 0 := by
  rw [show copyZ (zz2 8) (zz2 k) 201 = zr0 from cpy_0 201, zz_up, mov_0, cnt_z]
theorem v_stretch (k : Nat) : cntZ (fillS ((va_up zz2 8 (copyZ (zz2 8) (zz2 k) 201)) k) (nI 0) 0 (min 201 201 - 0)).1 201 = nI 0 := by
  rw [show copyZ (zz2 8) (zz2 k) 201 = zr0 from cpy_0 201, zz_up, show fillS (zz2 k) (nI 0) 0 (min 201 201 - 0) = (zr0, nI 0) from fil_0 _ _]
  exact cnt_z 201
theorem v_join (to one other k : Nat) : cntZ (jnZ zz2 to one other k 201) 201 = nI 0 := by rw [jn_0, cnt_z]
-- ofSet
theorem rr_1 (s : SRs) {n : Nat} (hn : n ≤ 200) : (rrR zr0 (nI 0) s (n + 1)).2.2 = 1 ∧ (rrR zr0 (nI 0) s (n + 1)).1 0 = nI 0 ∧ (rrR zr0 (nI 0) s (n + 1)).2.1 0 = nI n := by
  induction n with
  | zero =>
    rw [rrR_s, if_pos (hz0 _), if_pos (Or.inl rfl), rrR_0]
    refine ⟨rfl, rfl, rfl⟩
  | succ n ih =>
    obtain ⟨h1, h2, h3⟩ := ih (by omega)
    have h4 : ¬ (n + 1 = 0 ∨ ¬ holdZ zr0 (nI (n + 1) - nI 1) = nI 0) := fun q => q.elim (by omega) (fun h => h (hz0 _))
    rw [rrR_s, if_pos (hz0 _), if_neg h4]
    generalize rrR zr0 (nI 0) s (n + 1) = z at h1 h2 h3 ⊢
    have e1 : extR z (nI (n + 1)) = (z.1, upd z.2.1 0 (nI (n + 1)), z.2.2) := by
      unfold extR
      rw [if_neg (by omega), if_neg (by omega), show z.2.2 - 1 = 0 by omega]
    rw [e1]
    refine ⟨h1, h2, ?_⟩
    show upd z.2.1 0 (nI (n + 1)) 0 = nI (n + 1)
    exact pk_us
theorem rr_2 (s : SRs) : (rrR zr0 (nI 0) s 201).2.2 = 1 ∧ (rrR zr0 (nI 0) s 201).1 0 = nI 0 ∧ (rrR zr0 (nI 0) s 201).2.1 0 = nI 200 := by
  rw [show (201 : Nat) = 200 + 1 from rfl]
  exact rr_1 s (n := 200) (Nat.le_refl _)
theorem fac_z {z : SRs} (h1 : z.2.2 = 1) (h2 : z.1 0 = nI 0) (h3 : z.2.1 0 = nI 200) : lenR z (nI 0) = nI 100 := by
  have c0 : (nI 0).toNatClampNeg = 0 := nI_clamp (by decide)
  have e1 : fstR z (nI 0) = nI 0 := by
    unfold fstR
    rw [h1, if_neg (by decide), if_neg (by decide), if_neg (by decide), c0, h2]
  have e2 : lasR z (nI 0) = nI 200 := by
    unfold lasR
    rw [h1, if_neg (by decide), if_neg (by decide), if_neg (by decide), c0, h3]
  unfold lenR facR
  rw [e1, e2]
  decide
theorem v_ofSet (s : SRs) {w : Nat} (hw : w ≤ 5) : facSv zr0 w s = onM w := by
  have r1 : rrR zr0 (nI 1) s 201 = (s.1, s.2.1, 0) := rrR_e1 hem0 s (Nat.le_refl _)
  obtain ⟨q1, q2, q3⟩ := rr_2 s
  generalize hz : rrR zr0 (nI 0) s 201 = z at q1 q2 q3
  unfold facSv onM
  rw [hz, r1, cnt_z, len_z, q1]
  rcases (show w = 0 ∨ w = 1 ∨ w = 2 ∨ w = 3 ∨ w = 4 ∨ w = 5 by omega) with rfl | rfl | rfl | rfl | rfl | rfl
  · rfl
  · rfl
  · rfl
  · rfl
  · rfl
  · exact fac_z q1 q2 q3
-- functions
theorem stp_e (f : Nat → Int32) {n : Nat} (hn : n ≤ 200) : stepsV f n = stpM f n := by
  induction n with
  | zero => rfl
  | succ n ih =>
    have e1 : atV f (nI (n + 1)) = f (n + 1) := by
      unfold atV
      rw [if_neg (nI_pos (by omega)), if_neg (fun q => absurd ((nI_leI (by omega) (by omega)).mp q) (by omega)), nI_clamp (by omega)]
    have e2 : atV f (nI (n + 1) - nI 1) = f n := by
      unfold atV
      rw [pk_sub (by omega), Nat.add_sub_cancel, if_neg (nI_pos (by omega)), if_neg (fun q => absurd ((nI_leI (by omega) (by omega)).mp q) (by omega)), nI_clamp (by omega)]
    have h1 : stpM f (n + 1) = if f (n + 1) = f n then stpM f n else stpM f n + 1 := rfl
    rw [stepsV_s, e1, e2, h1, ih (by omega)]
theorem stp_z : stepsV zr0 200 = nI 1 := (stp_e zr0 (Nat.le_refl _)).trans stpM_z
theorem rai_0 (x : Int32) {lo n : Nat} (h : lo + n ≤ 201) : raiV zr0 x lo n = fun j => if lo ≤ j ∧ j < lo + n then keptM (nI 0 + x) else nI 0 := by
  induction n with
  | zero =>
    funext j
    exact (if_neg (by omega)).symm
  | succ n ih =>
    have h1 : raiV zr0 x lo (n + 1) = wrV (raiV zr0 x lo n) (nI (lo + n)) (atV (raiV zr0 x lo n) (nI (lo + n)) + x) := rfl
    rw [h1, ih (by omega)]
    have e1 : ∀ f : Nat → Int32, atV f (nI (lo + n)) = f (lo + n) := fun f => by
      unfold atV
      rw [if_neg (nI_pos (by omega)), if_neg (fun q => absurd ((nI_leI (by omega) (by omega)).mp q) (by omega)), nI_clamp (by omega)]
    have e2 : ∀ (f : Nat → Int32) (v : Int32), wrV f (nI (lo + n)) v = upd f (lo + n) (keptM v) := fun f v => by
      unfold wrV keptM
      rw [if_neg (nI_pos (by omega)), if_neg (fun q => absurd ((nI_leI (by omega) (by omega)).mp q) (by omega)), nI_clamp (by omega)]
    rw [e2, e1]
    funext j
    by_cases hj : j = lo + n
    · subst hj
      rw [pk_us]
      show keptM ((if lo ≤ lo + n ∧ lo + n < lo + n then keptM (nI 0 + x) else nI 0) + x) = if lo ≤ lo + n ∧ lo + n < lo + (n + 1) then keptM (nI 0 + x) else nI 0
      rw [if_neg (by omega), if_pos (by omega)]
    · rw [pk_un hj]
      exact ite_iff (by omega)
theorem v_raise {x : Int32} {a b e : Nat} (hab : a ≤ b) (hb : b ≤ 100) (he : e ≤ 3) : stepsV (raiV zr0 x (fgN a b e) (lgN a b e - fgN a b e)) 200 = raV (nI a) (nI b) (nI e) x := by
  have h1 := fgN_le (a := a) (b := b) (e := e) hab hb
  have h2 := lgN_le (a := a) (e := e) hb
  have h3 := fg_lg (e := e) hab
  rw [← raV_e (by omega) (by omega) (by omega), stp_e _ (Nat.le_refl _), rai_0 x (by omega)]
  congr 1
  funext j
  exact ite_iff (by omega)
theorem set_0 (x : Int32) (n : Nat) : setV zr0 zr0 x n = zr0 := by
  induction n with
  | zero => rfl
  | succ n ih =>
    have h1 : setV zr0 zr0 x (n + 1) = if holdZ zr0 (nI n) = 0 then setV zr0 zr0 x n else wrV (setV zr0 zr0 x n) (nI n) x := rfl
    rw [h1, if_pos (hz1 _), ih]
theorem v_set (x : Int32) : stepsV (setV zr0 zr0 x 201) 200 = nI 1 := by rw [set_0, stp_z]
theorem mx_0 (to one other k n : Nat) : mxV zz2 to one other k n = zr0 := by
  induction n with
  | zero => rfl
  | succ n ih =>
    have h1 : mxV zz2 to one other k (n + 1) = wrV (mxV zz2 to one other k n) (nI n) (mixV (atV (va_up zz2 to (mxV zz2 to one other k n) one) (nI n)) (atV (va_up zz2 to (mxV zz2 to one other k n) other) (nI n)) k) := rfl
    rw [h1, ih, zz_up]
    show wrV zr0 (nI n) (mixV (atV zr0 (nI n)) (atV zr0 (nI n)) k) = zr0
    rw [at0, mixV_0, wv0]
theorem v_mix (to one other k : Nat) : stepsV (mxV zz2 to one other k 201) 200 = nI 1 := by rw [mx_0, stp_z]
theorem cpv_0 (n : Nat) : copyV zr0 zr0 n = zr0 := by
  induction n with
  | zero => rfl
  | succ n ih => rw [copyV_s, ih, at0, wv0]
theorem neg_0 (n : Nat) : negV zr0 n = zr0 := by
  induction n with
  | zero => rfl
  | succ n ih => rw [negV_s, ih, at0, show (-(nI 0) : Int32) = nI 0 from rfl, wv0]
theorem jm_0 : jmax (nI 0) (nI 0) = nI 0 := by decide
theorem cli_0 (n : Nat) : cliV zr0 n = zr0 := by
  induction n with
  | zero => rfl
  | succ n ih => rw [cliV_s, ih, at0, at0, jm_0, wv0]
theorem cri_0 (n : Nat) : criV zr0 n = zr0 := by
  induction n with
  | zero => rfl
  | succ n ih => rw [criV_s, ih, at0, at0, jm_0, wv0]
theorem addv_0 (n : Nat) : addV zr0 n = (zr0, nI 0) := by
  induction n with
  | zero => rfl
  | succ n ih =>
    rw [addV_s, ih]
    have e1 : (if ptZ (nI n) = 0 then nI 0 + atV zr0 (nI n) else nI 0) = nI 0 := by
      rw [at0]
      split <;> rfl
    show (wrV zr0 (nI n) (if ptZ (nI n) = 0 then nI 0 + atV zr0 (nI n) else nI 0), if ptZ (nI n) = 0 then nI 0 + atV zr0 (nI n) else nI 0) = (zr0, nI 0)
    rw [e1, wv0]
theorem mirv_0 (n : Nat) : mirV zr0 zr0 n = zr0 := by
  induction n with
  | zero => rfl
  | succ n ih => rw [mirV_s, ih, at0, wv0]
theorem grt_0 (lo k : Nat) : grtV zr0 lo (k + 1) = nI 0 := by
  induction k with
  | zero =>
    rw [grtV_s, at0]
    exact (show jmax (-10000) (nI 0) = nI 0 by decide)
  | succ k ih => rw [grtV_s, ih, at0, jm_0]
theorem lst_0 (lo k : Nat) : lstV zr0 lo (k + 1) = nI 0 := by
  induction k with
  | zero =>
    rw [lstV_s, at0]
    exact (show jmin (nI 10000) (nI 0) = nI 0 by decide)
  | succ k ih =>
    rw [lstV_s, ih, at0]
    decide
theorem grt_1 {lo k : Nat} (h : 1 ≤ k) : grtV zr0 lo k = nI 0 := by
  obtain ⟨j, rfl⟩ : ∃ j, k = j + 1 := ⟨k - 1, by omega⟩
  exact grt_0 lo j
theorem lst_1 {lo k : Nat} (h : 1 ≤ k) : lstV zr0 lo k = nI 0 := by
  obtain ⟨j, rfl⟩ : ∃ j, k = j + 1 := ⟨k - 1, by omega⟩
  exact lst_0 lo j
theorem grn_0 (r : Nat) {n : Nat} (hn : n ≤ 201) : grnV zr0 zr0 r n = zr0 := by
  induction n with
  | zero => rfl
  | succ n ih => rw [grnV_s, ih (by omega), grt_1 (by omega), wv0]
theorem len_0 (r : Nat) {n : Nat} (hn : n ≤ 201) : lenV zr0 zr0 r n = zr0 := by
  induction n with
  | zero => rfl
  | succ n ih => rw [lenV_s, ih (by omega), lst_1 (by omega), wv0]
theorem v_turn (k how nn : Nat) : stepsV (trnV (va_up zz2 5 (copyV (zz2 5) (zz2 k) 201)) k how nn) 200 = nI 1 := by
  rw [show copyV (zz2 5) (zz2 k) 201 = zr0 from cpv_0 201, zz_up]
  have e1 : trnV zz2 k how nn = zr0 := by
    show (if how = 0 then negV zr0 201 else if how = 1 then cliV zr0 200 else if how = 2 then criV zr0 200 else if how = 3 then (addV zr0 201).1 else if how = 4 then mirV zr0 zr0 201 else if how = 5 then grnV zr0 zr0 nn 201 else lenV zr0 zr0 nn 201) = zr0
    rw [neg_0, cli_0, cri_0, addv_0, mirv_0, grn_0 nn (Nat.le_refl _), len_0 nn (Nat.le_refl _)]
    repeat' split
    all_goals rfl
  rw [e1, stp_z]
theorem thk_0 (fam : Nat) (g : Int32) (n : Nat) : thkZ zz2 fam g n = nI 0 := by
  induction n with
  | zero => rfl
  | succ n ih =>
    rw [thkZ_s, ih, show holdZ (zz2 n) g = nI 0 from hz0 _, if_pos (show nI 0 = 0 from rfl)]
    split <;> rfl
theorem tk_0 (fam n : Nat) : tkV zz2 fam zr0 n = zr0 := by
  induction n with
  | zero => rfl
  | succ n ih =>
    have h1 : tkV zz2 fam zr0 (n + 1) = wrV (tkV zz2 fam zr0 n) (nI n) (thkZ zz2 fam (nI n) 8) := rfl
    rw [h1, ih, thk_0, wv0]
theorem v_thick (fam : Nat) : stepsV (tkV zz2 fam zr0 201) 200 = nI 1 := by rw [tk_0, stp_z]
theorem whr_0 (lo hi : Int32) {n : Nat} (hn : n ≤ 201) : whrZ zr0 zr0 lo hi n = rwI (inM (nI 0) lo hi) n := by
  induction n with
  | zero => exact (rwI_0 _).symm
  | succ n ih =>
    have h1 : whrZ zr0 zr0 lo hi (n + 1) = wrZ (whrZ zr0 zr0 lo hi n) (nI n) (if atV zr0 (nI n) < lo then nI 0 else if hi < atV zr0 (nI n) then nI 0 else nI 1) := rfl
    rw [h1, ih (by omega), at0, wrZ_n (by omega)]
    exact rwI_s _ _
theorem v_where (lo hi : Int32) : cntZ (whrZ zr0 zr0 lo hi 201) 201 = cntc (inM (nI 0) lo hi) 201 := by
  rw [whr_0 lo hi (Nat.le_refl _)]
  exact cnt_c (Nat.le_refl _) (fun j hj => if_pos hj)
theorem arw_0 (fr n : Nat) : arwV zr0 fr n = nI 0 := by
  induction n with
  | zero => rfl
  | succ n ih =>
    rw [arwV_s, ih, at0]
    rfl
theorem aro_0 (n : Nat) : aroV zr0 zr0 n = nI 0 := by
  induction n with
  | zero => rfl
  | succ n ih => rw [aroV_s, if_pos (hz1 _), ih]
theorem fgr_0 (n : Nat) : fgrV zr0 n = nI 0 := by
  induction n with
  | zero => rfl
  | succ n ih => rw [fgrV_s, ih, at0, at0, if_pos (Int32.le_refl _)]
theorem v_ofFunction {w : Nat} (hw : w ≤ 4) : facFv zr0 w = fnM w := by
  unfold facFv fnM
  rw [stp_z, lst_1 (by decide), grt_1 (by decide), fgr_0, arw_0]
  rcases (show w = 0 ∨ w = 1 ∨ w = 2 ∨ w = 3 ∨ w = 4 by omega) with rfl | rfl | rfl | rfl | rfl
  all_goals rfl
theorem cth_0 (fam : Nat) (m : Int32) (n : Nat) : cthZ zz2 fam m n = thkM m n := by
  induction n with
  | zero => exact (thkM_z m).symm
  | succ n ih =>
    rw [cthZ_s, thk_0, ih]
    by_cases h : nI 0 < m
    · rw [if_pos h, thkM_p h]
      exact (Int32.add_zero _).symm
    · rw [if_neg h, thkM_n h]
      rfl
theorem mt_0 (d : Int32) (n : Nat) : mtZ zr0 zr0 d n = nI 0 := by
  induction n with
  | zero => rfl
  | succ n ih => rw [mtZ_s, if_pos (hz1 _), ih]
theorem lie_0 (d : Int32) : lieA zr0 zr0 d := fun _ _ => Or.inl (hz1 _)
theorem bst_0 (w n : Nat) : bstV zr0 w n = (nI 0, nI 0) := by
  induction n with
  | zero =>
    show (nI 0, arwV zr0 0 (w - 0)) = (nI 0, nI 0)
    rw [arw_0]
  | succ n ih => rw [bstV_s, ih, arw_0, if_pos (Int32.le_refl _)]
-- digest
theorem dga_0 (s : SRs) (d : Int64) {n : Nat} (hn : n ≤ 6) : (dgSa zr0 s d n).1 = itr (fun w x => x * 31 + (onM w).toInt64) n d := by
  induction n with
  | zero => rfl
  | succ n ih =>
    have h1 : (dgSa zr0 s d (n + 1)).1 = (dgSa zr0 s d n).1 * 31 + (facSv zr0 n (dgSa zr0 s d n).2).toInt64 := rfl
    rw [h1, ih (by omega), v_ofSet _ (by omega), itr_s]
theorem dgs_0 (s : SRs) (d : Int64) : dgSet zr0 s d = dMs d := by
  have h1 : (dgSetS zr0 s d).2.2 = 0 := by
    unfold dgSetS
    rw [rrR_e1 hem0 _ (Nat.le_refl _)]
  unfold dgSet
  rw [h1, dga_0 s d (Nat.le_refl _)]
  rfl
theorem dgA_0 (s : SRs) (n : Nat) : (dgA zz2 s n).1 = dMa n := by
  induction n with
  | zero => rfl
  | succ n ih =>
    have h2 : dMa (n + 1) = dMs (dMa n) := by
      unfold dMa
      rw [itr_s]
    rw [dgA_s, h2, ← ih]
    generalize dgA zz2 s n = z
    show dgSet zr0 z.2 z.1 = dMs z.1
    exact dgs_0 z.2 z.1
theorem dfa_0 (d : Int64) {n : Nat} (hn : n ≤ 5) : dgFa zr0 d n = itr (fun w x => x * 31 + (fnM w).toInt64) n d := by
  induction n with
  | zero =>
    unfold dgFa
    rw [itr_0, itr_0]
  | succ n ih =>
    have h1 : dgFa zr0 d (n + 1) = dgFa zr0 d n * 31 + (facFv zr0 n).toInt64 := rfl
    rw [h1, ih (by omega), v_ofFunction (by omega), itr_s]
theorem dfb_0 (d : Int64) (n : Nat) : dgFb zr0 d n = dgC d n := by
  induction n with
  | zero => rfl
  | succ n ih =>
    have h1 : dgFb zr0 d (n + 1) = dgFb zr0 d n * 31 + (atV zr0 (nI n)).toInt64 := rfl
    rw [h1, ih, at0, dgC_s]
theorem dgf_0 (d : Int64) : dgF zr0 d = dMf d := by
  unfold dgF dMf
  rw [dfa_0 d (Nat.le_refl _), dfb_0]
theorem dgB_0 (d : Int64) (n : Nat) : dgB zz2 d n = itr (fun _ x => dMf x) n d := by
  induction n with
  | zero =>
    unfold dgB
    rw [itr_0, itr_0]
  | succ n ih =>
    rw [dgB_s, itr_s, ← ih]
    exact dgf_0 _
theorem dgT_0 (d : Int64) : dgT zz2 d = dMt d := by
  unfold dgT dMt
  rw [cth_0, cth_0, thkM_1, thkM_2]
theorem v_digest (s : SRs) : dgV zz2 zz2 s = dMv := by
  unfold dgV dMv dMb
  rw [dgA_0, dgB_0, dgT_0]
