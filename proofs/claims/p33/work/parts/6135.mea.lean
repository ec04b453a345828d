/-! THE MEAN: at most the greatest value -/
theorem sg_mul (s : Bool) (x y : Nat) : Jvm.FP.Core.signed s x * (y : Int) = Jvm.FP.Core.signed s (x * y) := by
  cases s
  · show (x : Int) * y = ((x * y : Nat) : Int)
    exact (Int.natCast_mul x y).symm
  · show -(x : Int) * y = -((x * y : Nat) : Int)
    rw [Int.natCast_mul, Int.neg_mul]
theorem wh_u {i : Int} {s : Bool} {c : Nat} {q : Int} (h : Jvm.FP.Core.Whole i (.fin s c q)) {E : Int} (h1 : E ≤ q) (h2 : E ≤ 0) : Jvm.FP.Core.signed s (c * 2 ^ (q - E).toNat) = i * ((2 ^ (-E).toNat : Nat) : Int) := by
  have h3 : Jvm.FP.Core.signed s (c * 2 ^ q.toNat) = i * ((2 ^ (-q).toNat : Nat) : Int) := h
  have e : (q - E).toNat + (-q).toNat = q.toNat + (-E).toNat := by omega
  have e2 : 2 ^ (q - E).toNat * 2 ^ (-q).toNat = 2 ^ q.toNat * 2 ^ (-E).toNat := by rw [← Nat.pow_add, ← Nat.pow_add, e]
  have hp : (0 : Int) < ((2 ^ (-q).toNat : Nat) : Int) := Int.ofNat_lt.mpr (Nat.two_pow_pos _)
  refine Int.eq_of_mul_eq_mul_right (Int.ne_of_gt hp) ?_
  rw [sg_mul, Nat.mul_assoc, e2, ← Nat.mul_assoc, ← sg_mul, h3]
  exact Int.mul_right_comm _ _ _
theorem q_le {a mx len : Int} {s : Bool} {c d : Nat} {q r : Int} (h1 : Jvm.FP.Core.Whole a (.fin s c q)) (h2 : Jvm.FP.Core.Whole len (.fin false d r)) (hle : a ≤ len * mx) {z e0 : Int} (hz : z ≤ 0) (hq : z ≤ q) (hr : z ≤ r) (h0 : e0 ≤ z) (h0e : e0 ≤ q - r) : Jvm.FP.Core.signed s (Jvm.FP.Core.inUnits c (q - r) e0) ≤ mx * ((2 ^ (-z).toNat : Nat) : Int) * ((2 ^ (z - e0).toNat : Nat) : Int) * (d : Int) := by
  have k1 := wh_u h1 hq hz
  have k2 : ((d * 2 ^ (r - z).toNat : Nat) : Int) = len * ((2 ^ (-z).toNat : Nat) : Int) := wh_u h2 hr hz
  have hp : (0 : Int) < ((2 ^ (r - z).toNat : Nat) : Int) := Int.ofNat_lt.mpr (Nat.two_pow_pos _)
  refine Int.le_of_mul_le_mul_right ?_ hp
  unfold Jvm.FP.Core.inUnits
  rw [sg_mul, Nat.mul_assoc, ← Nat.pow_add, show (q - r - e0).toNat + (r - z).toNat = (q - z).toNat + (-e0).toNat by omega, Nat.pow_add, ← Nat.mul_assoc, ← sg_mul, k1, Int.mul_assoc (mx * _ * _), ← Int.natCast_mul, k2]
  have e3 : 2 ^ (-e0).toNat = 2 ^ (-z).toNat * 2 ^ (z - e0).toNat := by
    rw [← Nat.pow_add]
    congr 1
    omega
  rw [e3, Int.natCast_mul]
  have hA : (0 : Int) ≤ ((2 ^ (-z).toNat : Nat) : Int) := Int.natCast_nonneg _
  have hB : (0 : Int) ≤ ((2 ^ (z - e0).toNat : Nat) : Int) := Int.natCast_nonneg _
  generalize ((2 ^ (-z).toNat : Nat) : Int) = A at *
  generalize ((2 ^ (z - e0).toNat : Nat) : Int) = B at *
  have e4 : a * A * (A * B) = a * (A * (A * B)) := by ac_rfl
  have e5 : mx * A * B * (len * A) = len * mx * (A * (A * B)) := by ac_rfl
  rw [e4, e5]
  exact Int.mul_le_mul_of_nonneg_right hle (Int.mul_nonneg hA (Int.mul_nonneg hA hB))
theorem rr_le {V : Jvm.FP.Core.Datum} {s : Bool} {c d : Nat} {e e0 : Int} (hd : 0 < d) (hV : Jvm.FP.Core.fits Jvm.FP.Core.b64 V) (hn : V ≠ .nan) (h0 : e0 ≤ Jvm.FP.Core.b64.qmin) (h0e : e0 ≤ e) (h : Jvm.FP.Core.signed s (Jvm.FP.Core.inUnits c e e0) ≤ Jvm.FP.Core.zval Jvm.FP.Core.b64 V * ((2 ^ (Jvm.FP.Core.b64.qmin - e0).toNat : Nat) : Int) * (d : Int)) : Jvm.FP.Core.zval Jvm.FP.Core.b64 (Jvm.FP.Core.roundRatio Jvm.FP.Core.b64 s c d e) ≤ Jvm.FP.Core.zval Jvm.FP.Core.b64 V := by
  have hle := Jvm.FP.Core.zmag_roundRatio_le Jvm.FP.Core.good_b64 (s := s) (A := c) (B := d) (e := e) (e0 := e0) hd hV hn h0 h0e
  have hge := Jvm.FP.Core.zmag_roundRatio_ge Jvm.FP.Core.good_b64 (s := s) (A := c) (B := d) (e := e) (e0 := e0) hd hV h0 h0e
  have hP := Nat.two_pow_pos (Jvm.FP.Core.b64.qmin - e0).toNat
  unfold Jvm.FP.Core.zval at h ⊢
  rw [Jvm.FP.Core.sgn_roundRatio]
  rw [sg_mul, sg_mul] at h
  have hz : Jvm.FP.Core.zmag Jvm.FP.Core.b64 V * 2 ^ (Jvm.FP.Core.b64.qmin - e0).toNat * d = 0 → Jvm.FP.Core.zmag Jvm.FP.Core.b64 V = 0 := by
    intro h
    rcases Nat.mul_eq_zero.mp h with h | h
    · rcases Nat.mul_eq_zero.mp h with h | h <;> omega
    · omega
  generalize Jvm.FP.Core.zmag Jvm.FP.Core.b64 V * 2 ^ (Jvm.FP.Core.b64.qmin - e0).toNat * d = vP at *
  generalize Jvm.FP.Core.sgn V = t at *
  generalize Jvm.FP.Core.zmag Jvm.FP.Core.b64 (Jvm.FP.Core.roundRatio Jvm.FP.Core.b64 s c d e) = y at *
  generalize Jvm.FP.Core.zmag Jvm.FP.Core.b64 V = w at *
  generalize Jvm.FP.Core.inUnits c e e0 = x at *
  cases s <;> cases t <;> simp only [Jvm.FP.Core.signed, if_true, Bool.false_eq_true, if_false] at h ⊢
  · have := hle (by omega); omega
  · have := hle (by omega); have := hz (by omega); omega
  · omega
  · have := hge (by omega); omega
theorem mean_zv {a mx : Int32} {len : Nat} (hl : 0 < len) (hl2 : len ≤ 100) (h : a.toInt ≤ (len : Int) * mx.toInt) : Jvm.FP.Core.zval Jvm.FP.Core.b64 (Jvm.FP.Core.val64 (Jvm.FP.Core.ddiv (Jvm.FP.Core.i2d a) (Jvm.FP.Core.i2d (nI len)))) ≤ Jvm.FP.Core.zval Jvm.FP.Core.b64 (Jvm.FP.Core.val64 (Jvm.FP.Core.i2d mx)) := by
  have h1 : Jvm.FP.Core.Whole a.toInt (Jvm.FP.Core.val64 (Jvm.FP.Core.i2d a)) := Jvm.FP.Core.i2d_int a
  have h2 : Jvm.FP.Core.Whole (nI len).toInt (Jvm.FP.Core.val64 (Jvm.FP.Core.i2d (nI len))) := Jvm.FP.Core.i2d_int (nI len)
  have h3 : Jvm.FP.Core.Whole mx.toInt (Jvm.FP.Core.val64 (Jvm.FP.Core.i2d mx)) := Jvm.FP.Core.i2d_int mx
  have f1 := Jvm.FP.Core.val64_fits (Jvm.FP.Core.i2d a)
  have f2 := Jvm.FP.Core.val64_fits (Jvm.FP.Core.i2d (nI len))
  have f3 := Jvm.FP.Core.val64_fits (Jvm.FP.Core.i2d mx)
  rw [Jvm.FP.Core.val64_ddiv]
  rw [nI_toInt (show len < 2 ^ 31 by omega)] at h2
  generalize Jvm.FP.Core.val64 (Jvm.FP.Core.i2d a) = x at *
  generalize Jvm.FP.Core.val64 (Jvm.FP.Core.i2d (nI len)) = y at *
  generalize Jvm.FP.Core.val64 (Jvm.FP.Core.i2d mx) = V at *
  cases x with
  | nan => exact h1.elim
  | inf => exact h1.elim
  | fin s c q =>
    cases y with
    | nan => exact h2.elim
    | inf => exact h2.elim
    | fin t d r =>
      cases V with
      | nan => exact h3.elim
      | inf => exact h3.elim
      | fin u cv qv =>
        have hd : d ≠ 0 := fun e => by
          have := (Jvm.FP.Core.whole_zero h2).mp e
          omega
        have ht : t = false := by
          rw [Jvm.FP.Core.whole_sign h2 (by omega)]
          exact decide_eq_false (by omega)
        subst ht
        have es : (s != false) = s := by cases s <;> rfl
        show Jvm.FP.Core.zval Jvm.FP.Core.b64 (if d = 0 then _ else Jvm.FP.Core.roundRatio Jvm.FP.Core.b64 (s != false) c d (q - r)) ≤ _
        rw [if_neg hd, es]
        have m1 : Jvm.FP.Core.b64.qmin = -1074 := by decide
        have m2 : Jvm.FP.Core.b64.qmax = 971 := by decide
        have g1 : Jvm.FP.Core.b64.qmin ≤ q := f1.2.1
        have g2 : Jvm.FP.Core.b64.qmin ≤ r := f2.2.1
        have g3 : r ≤ Jvm.FP.Core.b64.qmax := f2.2.2.1
        have g4 : Jvm.FP.Core.b64.qmin ≤ qv := f3.2.1
        refine rr_le (e0 := -3000) (by omega) f3 Jvm.FP.Core.Datum.noConfusion (by omega) (by omega) ?_
        have hv : Jvm.FP.Core.zval Jvm.FP.Core.b64 (.fin u cv qv) = mx.toInt * ((2 ^ (-Jvm.FP.Core.b64.qmin).toNat : Nat) : Int) := wh_u h3 g4 (by omega)
        rw [hv]
        exact q_le h1 h2 h (by omega) g1 g2 (by omega) (by omega)
/-- the law's test: the mean is not more -/
theorem mea_le {a mx : Int32} {len : Nat} (hl : 0 < len) (hl2 : len ≤ 100) (h : a.toInt ≤ (len : Int) * mx.toInt) : ¬ nI 0 < Op.cmpValue (FP.dcmp (meaV a (nI len)) (FP.i2d mx)) .l := by
  have hn : ¬ nI len = 0 := fun e => by
    have := (nc_eq (a := len) (b := 0) (by omega) (by omega)).mp e
    omega
  unfold meaV
  rw [if_neg hn]
  have h1 := mean_zv hl hl2 h
  cases e : FP.dcmp (FP.ddiv (FP.i2d a) (FP.i2d (nI len))) (FP.i2d mx) with
  | none => decide
  | some o =>
    cases o with
    | lt => decide
    | eq => decide
    | gt =>
      have h2 := (Jvm.FP.Core.dcmp_gt.mp e).2.2
      exact absurd h2 (Int.not_lt.mpr h1)
