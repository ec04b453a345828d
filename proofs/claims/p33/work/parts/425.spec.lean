theorem dgSa_le {f : Nat → Int32} {s : SRs} {d : Int64} {n : Nat} (h : s.2.2 ≤ 201) : (dgSa f s d n).2.2.2 ≤ 201 := by
  unfold dgSa
  exact itr_inv (P := fun x : Int64 × SRs => x.2.2.2 ≤ 201) h fun i b _ hb => facSr_le hb
def dgSetS (f : Nat → Int32) (s : SRs) (d : Int64) : SRs := rrR f (nI 1) (dgSa f s d 6).2 201
def dgSet (f : Nat → Int32) (s : SRs) (d : Int64) : Int64 := dgSc (dgSetS f s d) (dgSa f s d 6).1 (dgSetS f s d).2.2
def dgA (F : Nat → Nat → Int32) (s : SRs) (n : Nat) : Int64 × SRs := itr (fun k x => (dgSet (F k) x.2 x.1, dgSetS (F k) x.2 x.1)) n (965, s)
theorem dgA_s (F : Nat → Nat → Int32) (s : SRs) (n : Nat) : dgA F s (n + 1) = (dgSet (F n) (dgA F s n).2 (dgA F s n).1, dgSetS (F n) (dgA F s n).2 (dgA F s n).1) := rfl
theorem dgA_le {F : Nat → Nat → Int32} {s : SRs} {n : Nat} (h : s.2.2 ≤ 201) : (dgA F s n).2.2.2 ≤ 201 := by
  unfold dgA
  exact itr_inv (P := fun x : Int64 × SRs => x.2.2.2 ≤ 201) h fun i b _ hb => rrR_le _ _ _ _
def dgF (f : Nat → Int32) (d : Int64) : Int64 := dgFb f (dgFa f d 5) 201
def dgB (V : Nat → Nat → Int32) (d : Int64) (n : Nat) : Int64 := itr (fun k x => dgF (V k) x) n d
theorem dgB_s (V : Nat → Nat → Int32) (d : Int64) (n : Nat) : dgB V d (n + 1) = dgF (V n) (dgB V d n) := by
  unfold dgB
  rw [itr_s]
noncomputable def dgCg (F : Nat → Nat → Int32) (d : Int64) (n : Nat) : Int64 := itr (fun k x => x * 31 + (covV F (255 - 2 ^ k) (F k)).toInt64) n d
theorem dgCg_s (F : Nat → Nat → Int32) (d : Int64) (n : Nat) : dgCg F d (n + 1) = dgCg F d n * 31 + (covV F (255 - 2 ^ n) (F n)).toInt64 := by
  unfold dgCg
  rw [itr_s]
noncomputable def dgTg (F : Nat → Nat → Int32) (d : Int64) : Int64 := (((d * 31 + (cthZ F 255 (nI 1) 201).toInt64) * 31 + (cthZ F 255 (nI 2) 201).toInt64) * 31 + (cpS F 255 201).1.toInt64) * 31 + (cpS F 255 201).1.toInt64
noncomputable def dgG (F V : Nat → Nat → Int32) (s : SRs) : Int64 := dgCg F (dgTg F (dgB V (dgA F s 8).1 5)) 8
