theorem dgSa_le {f : Nat → Int32} {s : SRs} {d : Int64} {n : Nat} (h : s.2.2 ≤ 201) : (dgSa f s d n).2.2.2 ≤ 201 := by
  unfold dgSa
  exact itr_inv (P := fun x : Int64 × SRs => x.2.2.2 ≤ 201) h fun i b _ hb => facSr_le hb
def dgSetS (f : Nat → Int32) (s : SRs) (d : Int64) : SRs := rrR f (nI 1) (dgSa f s d 6).2 201
def dgSet (f : Nat → Int32) (s : SRs) (d : Int64) : Int64 := dgSc (dgSetS f s d) (dgSa f s d 6).1 (dgSetS f s d).2.2
def dgA (F : Nat → Nat → Int32) (s : SRs) (n : Nat) : Int64 × SRs := itr (fun k x => (dgSet (F k) x.2 x.1, dgSetS (F k) x.2 x.1)) n (965, s)
theorem dgA_s (F : Nat → Nat → Int32) (s : SRs) (n : Nat) : dgA F s (n + 1) = (dgSet (F n) (dgA F s n).2 (dgA F s n).1, dgSetS (F n) (dgA F s n).2 (dgA F s n).1) := rfl
theorem dgA_le {F : Nat → Nat → Int32} {s : SRs} {n : Nat} (h : s.2.2 ≤ 201) : (dgA F s n).2.2.2 ≤ 201 := by
  unfold dgA
  exact itr_inv (P := fun x : Int64 × SRs => x.2.2.2 ≤ 201) h fun i b _ hb => rrR_le _ _ _ _
def dgF (f : Nat → Int32) (d : Int64) : Int64 := dgFb f (dgFa f d 5) 201
def dgB (V : Nat → Nat → Int32) (d : Int64) (n : Nat) : Int64 := itr (fun k x => dgF (V k) x) n d
theorem dgB_s (V : Nat → Nat → Int32) (d : Int64) (n : Nat) : dgB V d (n + 1) = dgF (V n) (dgB V d n) := by
  unfold dgB
  rw [itr_s]
def dgC (d : Int64) (n : Nat) : Int64 := itr (fun _ x => x * 31 + (nI 0).toInt64) n d
theorem dgC_s (d : Int64) (n : Nat) : dgC d (n + 1) = dgC d n * 31 + (nI 0).toInt64 := by
  unfold dgC
  rw [itr_s]
def dgT (F : Nat → Nat → Int32) (d : Int64) : Int64 := (((d * 31 + (cthZ F 255 (nI 1) 201).toInt64) * 31 + (cthZ F 255 (nI 2) 201).toInt64) * 31 + (nI 0).toInt64) * 31 + (nI 0).toInt64
def dgV (F V : Nat → Nat → Int32) (s : SRs) : Int64 := dgC (dgT F (dgB V (dgA F s 8).1 5)) 8
