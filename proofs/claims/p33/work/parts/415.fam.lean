/-! FAMILIES: which set goes farthest, covers, pins -/
def farS (F : Nat → Nat → Int32) (fam g n : Nat) : Int32 × Int32 := itr (fun k s => if fam / 2 ^ k % 2 = 1 then (if holdZ (F k) (nI g) = 0 then s else if nI (lrN (F k) g) ≤ s.2 then s else (nI k, nI (lrN (F k) g))) else s) n (-1, -1)
theorem farS_s (F : Nat → Nat → Int32) (fam g n : Nat) : farS F fam g (n + 1) = if fam / 2 ^ n % 2 = 1 then (if holdZ (F n) (nI g) = 0 then farS F fam g n else if nI (lrN (F n) g) ≤ (farS F fam g n).2 then farS F fam g n else (nI n, nI (lrN (F n) g))) else farS F fam g n := rfl
theorem far_or (F : Nat → Nat → Int32) (fam g : Nat) : (farS F fam g 8).1 = -1 ∨ ∃ k : Nat, k < 8 ∧ (farS F fam g 8).1 = nI k := by
  unfold farS
  refine itr_inv (P := fun s : Int32 × Int32 => s.1 = -1 ∨ ∃ k : Nat, k < 8 ∧ s.1 = nI k) (Or.inl rfl) fun i s hi hs => ?_
  show (if fam / 2 ^ i % 2 = 1 then (if holdZ (F i) (nI g) = 0 then s else if nI (lrN (F i) g) ≤ s.2 then s else (nI i, nI (lrN (F i) g))) else s).1 = -1 ∨ _
  split
  · split
    · exact hs
    · split
      · exact hs
      · exact Or.inr ⟨i, hi, rfl⟩
  · exact hs
def farN (F : Nat → Nat → Int32) (fam g : Nat) : Nat := (farS F fam g 8).1.toNatClampNeg
theorem farN_e {F : Nat → Nat → Int32} {fam g k : Nat} (hk : k < 8) (h : (farS F fam g 8).1 = nI k) : farN F fam g = k := by
  unfold farN
  rw [h, nI_clamp (by omega)]
theorem far_no {F : Nat → Nat → Int32} {fam g k : Nat} (hk : k < 8) (h : (farS F fam g 8).1 = nI k) : ¬ (farS F fam g 8).1 = -1 := by
  rw [h]
  intro q
  have h2 := congrArg Int32.toInt q
  rw [nI_toInt (by omega)] at h2
  have h3 : (-1 : Int32).toInt = -1 := rfl
  omega
/-- the cover: how many spans are taken, how far it goes -/
def tcS (F : Nat → Nat → Int32) (fam : Nat) (f : Nat → Int32) (n : Nat) : Nat × Int32 := itr (fun i s => if nI i ≤ s.2 then s else if holdZ f (nI i) = 0 then s else (s.1 + 1, nI (lrN (F (farN F fam i)) i))) n (0, -1)
theorem tcS_s (F : Nat → Nat → Int32) (fam : Nat) (f : Nat → Int32) (n : Nat) : tcS F fam f (n + 1) = if nI n ≤ (tcS F fam f n).2 then tcS F fam f n else if holdZ f (nI n) = 0 then tcS F fam f n else ((tcS F fam f n).1 + 1, nI (lrN (F (farN F fam n)) n)) := rfl
theorem tcS_le (F : Nat → Nat → Int32) (fam : Nat) (f : Nat → Int32) (n : Nat) : (tcS F fam f n).1 ≤ n := by
  induction n with
  | zero => exact Nat.le_refl _
  | succ n ih =>
    rw [tcS_s]
    split
    · omega
    · split
      · omega
      · show (tcS F fam f n).1 + 1 ≤ n + 1
        omega
def tcC (F : Nat → Nat → Int32) (fam : Nat) (f C : Nat → Int32) (n : Nat) : Nat → Int32 := itr (fun i c => if nI i ≤ (tcS F fam f i).2 then c else if holdZ f (nI i) = 0 then c else if 201 ≤ (tcS F fam f i).1 then c else upd c (tcS F fam f i).1 (farS F fam i 8).1) n C
theorem tcC_s (F : Nat → Nat → Int32) (fam : Nat) (f C : Nat → Int32) (n : Nat) : tcC F fam f C (n + 1) = if nI n ≤ (tcS F fam f n).2 then tcC F fam f C n else if holdZ f (nI n) = 0 then tcC F fam f C n else if 201 ≤ (tcS F fam f n).1 then tcC F fam f C n else upd (tcC F fam f C n) (tcS F fam f n).1 (farS F fam n 8).1 := rfl
/-- no set of the family has the grain that is to be covered -/
abbrev stp (F : Nat → Nat → Int32) (fam : Nat) (f : Nat → Int32) (i : Nat) : Prop := ¬ nI i ≤ (tcS F fam f i).2 ∧ ¬ holdZ f (nI i) = 0 ∧ (farS F fam i 8).1 = -1
noncomputable def covV (F : Nat → Nat → Int32) (fam : Nat) (f : Nat → Int32) : Int32 := @ite Int32 (∀ i : Nat, i < 201 → ¬ stp F fam f i) (Classical.propDecidable _) (nI (tcS F fam f 201).1) (-1)
theorem covV_all {F : Nat → Nat → Int32} {fam : Nat} {f : Nat → Int32} (h : ∀ i : Nat, i < 201 → ¬ stp F fam f i) : covV F fam f = nI (tcS F fam f 201).1 := by
  unfold covV
  exact if_pos h
theorem covV_stop {F : Nat → Nat → Int32} {fam : Nat} {f : Nat → Int32} {i : Nat} (hi : i < 201) (h : stp F fam f i) : covV F fam f = -1 := by
  unfold covV
  exact if_neg fun q => q i hi h
theorem two_k {k : Nat} (hk : k < 8) : nI 1 <<< (nI k &&& 31) = nI (2 ^ k) := by
  rcases (show k = 0 ∨ k = 1 ∨ k = 2 ∨ k = 3 ∨ k = 4 ∨ k = 5 ∨ k = 6 ∨ k = 7 by omega) with rfl | rfl | rfl | rfl | rfl | rfl | rfl | rfl <;> decide
def orN (fam j : Nat) : Nat := fam ||| 2 ^ j
theorem orN_le {fam j : Nat} (hf : fam ≤ 255) (hj : j < 8) : orN fam j ≤ 255 := by
  have h1 : 2 ^ j < 2 ^ 8 := Nat.pow_lt_pow_right (by decide) hj
  have h2 : fam ||| 2 ^ j < 2 ^ 8 := Nat.or_lt_two_pow (by omega) h1
  unfold orN
  omega
theorem or_e {fam j : Nat} (hf : fam < 2 ^ 31) (hj : j < 8) : nI fam ||| nI 1 <<< (nI j &&& 31) = nI (orN fam j) := by
  rw [two_k hj]
  unfold orN
  refine Int32.toBitVec_inj.mp ?_
  show BitVec.ofNat 32 fam ||| BitVec.ofNat 32 (2 ^ j) = BitVec.ofNat 32 (fam ||| 2 ^ j)
  exact (BitVec.ofNat_or ..).symm
theorem xor_e {k : Nat} (hk : k < 8) : nI 255 ^^^ nI 1 <<< (nI k &&& 31) = nI (255 - 2 ^ k) := by
  rcases (show k = 0 ∨ k = 1 ∨ k = 2 ∨ k = 3 ∨ k = 4 ∨ k = 5 ∨ k = 6 ∨ k = 7 by omega) with rfl | rfl | rfl | rfl | rfl | rfl | rfl | rfl <;> decide
noncomputable def savV (F : Nat → Nat → Int32) (fam k j : Nat) : Int32 := if covV F (orN fam j) (F k) = -1 then -1 else if covV F fam (F k) = -1 then nI 1000 else covV F fam (F k) - covV F (orN fam j) (F k)
/-- pins -/
abbrev epP (F : Nat → Nat → Int32) (fam g : Nat) (lp : Int32) (k : Nat) : Prop := fam / 2 ^ k % 2 = 1 ∧ ¬ holdZ (F k) (nI g) = 0 ∧ holdZ (F k) (nI (g + 1)) = 0 ∧ ¬ nI (runL (F k) g) ≤ lp
noncomputable def epZ (F : Nat → Nat → Int32) (fam g : Nat) (lp : Int32) : Int32 := @ite Int32 (∀ k : Nat, k < 8 → ¬ epP F fam g lp k) (Classical.propDecidable _) (nI 0) (nI 1)
theorem epZ_y {F : Nat → Nat → Int32} {fam g : Nat} {lp : Int32} {k : Nat} (hk : k < 8) (h : epP F fam g lp k) : epZ F fam g lp = nI 1 := by
  unfold epZ
  exact if_neg fun q => q k hk h
theorem epZ_n {F : Nat → Nat → Int32} {fam g : Nat} {lp : Int32} (h : ∀ k : Nat, k < 8 → ¬ epP F fam g lp k) : epZ F fam g lp = nI 0 := by
  unfold epZ
  exact if_pos h
noncomputable def cpS (F : Nat → Nat → Int32) (fam n : Nat) : Int32 × Int32 := itr (fun i s => if epZ F fam i s.2 = 0 then s else (s.1 + 1, nI i)) n (nI 0, -1)
theorem cpS_s (F : Nat → Nat → Int32) (fam n : Nat) : cpS F fam (n + 1) = if epZ F fam n (cpS F fam n).2 = 0 then cpS F fam n else ((cpS F fam n).1 + 1, nI n) := rfl
/-- mean -/
def meaV (a n : Int32) : UInt64 := if n = 0 then FP.dconst0 else FP.ddiv (FP.i2d a) (FP.i2d n)
theorem mea_nn {a n : Int32} (h : ¬ n = 0) : vf_n64 (FP.ddiv (FP.i2d a) (FP.i2d n)) := by
  have h1 := Jvm.FP.Core.ddiv_out (Jvm.FP.Core.i2d_fin a).notNaN (Jvm.FP.Core.i2d_fin n) (fun q => Jvm.FP.Core.i2d_ne_zero h ((Jvm.FP.Core.zero_bits2 _).mp q))
  have h2 : ¬ 9218868437227405312 < (FP.ddiv (FP.i2d a) (FP.i2d n)).toNat % 2 ^ 63 := fun q => absurd (h1.symm.trans ((Jvm.FP.Core.isNaN_bits _).mpr q)) (by decide)
  unfold vf_n64
  rw [UInt64.le_iff_toNat_le, UInt64.toNat_and]
  show _ &&& (2 ^ 63 - 1) ≤ 9218868437227405312
  rw [Nat.and_two_pow_sub_one_eq_mod]
  omega
