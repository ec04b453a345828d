/-! SpanRow: its rows and its size, as the class's calls leave them -/
abbrev SRs : Type := (Nat → Int32) × (Nat → Int32) × Nat
def SR (D : va_G) (T : Nat → ClassId) (h fi la : Nat) (s : SRs) (H : Heap) : Prop := pAt D H h (eO 1 [.ref fi, .ref la, .int (nI s.2.2)]) ∧ pAt D H fi (eN (T 1) 201 s.1) ∧ pAt D H la (eN (T 1) 201 s.2.1)
def bgnR (s : SRs) (g : Int32) : SRs := if 201 ≤ s.2.2 then s else (upd s.1 s.2.2 g, s.2.1, s.2.2 + 1)
def extR (s : SRs) (g : Int32) : SRs := if s.2.2 ≤ 0 then s else if 201 < s.2.2 then s else (s.1, upd s.2.1 (s.2.2 - 1) g, s.2.2)
def rrR (f : Nat → Int32) (v : Int32) (s : SRs) (n : Nat) : SRs := itr (fun i s => if holdZ f (nI i) = v then (if i = 0 ∨ ¬ holdZ f (nI i - nI 1) = v then extR (bgnR s (nI i)) (nI i) else extR s (nI i)) else s) n (s.1, s.2.1, 0)
theorem rrR_0 (f : Nat → Int32) (v : Int32) (s : SRs) : rrR f v s 0 = (s.1, s.2.1, 0) := rfl
theorem rrR_s (f : Nat → Int32) (v : Int32) (s : SRs) (n : Nat) : rrR f v s (n + 1) = if holdZ f (nI n) = v then (if n = 0 ∨ ¬ holdZ f (nI n - nI 1) = v then extR (bgnR (rrR f v s n) (nI n)) (nI n) else extR (rrR f v s n) (nI n)) else rrR f v s n := rfl
theorem bgnR_le {s : SRs} {g : Int32} (h : s.2.2 ≤ 201) : (bgnR s g).2.2 ≤ 201 := by
  unfold bgnR
  split
  · exact h
  · show s.2.2 + 1 ≤ 201
    omega
theorem extR_le {s : SRs} {g : Int32} (h : s.2.2 ≤ 201) : (extR s g).2.2 ≤ 201 := by
  unfold extR
  split
  · exact h
  · split
    · exact h
    · exact h
theorem rrR_le (f : Nat → Int32) (v : Int32) (s : SRs) (n : Nat) : (rrR f v s n).2.2 ≤ 201 := by
  unfold rrR
  refine itr_inv (P := fun s : SRs => s.2.2 ≤ 201) (Nat.zero_le _) fun i b _ hb => ?_
  show (if holdZ f (nI i) = v then (if i = 0 ∨ ¬ holdZ f (nI i - nI 1) = v then extR (bgnR b (nI i)) (nI i) else extR b (nI i)) else b).2.2 ≤ 201
  split
  · split
    · exact extR_le (bgnR_le hb)
    · exact extR_le hb
  · exact hb
def fstR (s : SRs) (k : Int32) : Int32 := if k < 0 then nI 0 else if nI s.2.2 ≤ k then nI 0 else if nI 201 ≤ k then nI 0 else s.1 k.toNatClampNeg
def lasR (s : SRs) (k : Int32) : Int32 := if k < 0 then -1 else if nI s.2.2 ≤ k then -1 else if nI 201 ≤ k then -1 else s.2.1 k.toNatClampNeg
def facR (s : SRs) (k w : Int32) : Int32 := if w = 0 then fstR s k / nI 2 else if w = 1 then (lasR s k + nI 1) / nI 2 else (if ptZ (fstR s k) = 0 then nI 0 else nI 1) + (if ptZ (lasR s k) = 0 then nI 0 else nI 2)
def lenR (s : SRs) (k : Int32) : Int32 := facR s k (nI 1) - facR s k (nI 0)
def lonR (s : SRs) (n : Nat) : Int32 := itr (fun i c => if lenR s (nI i) = 0 then c + 1 else c) n (nI 0)
theorem lonR_s (s : SRs) (n : Nat) : lonR s (n + 1) = if lenR s (nI n) = 0 then lonR s n + 1 else lonR s n := rfl
def lngR (s : SRs) (n : Nat) : Int32 := itr (fun i m => if lenR s (nI (i + 1)) ≤ lenR s m then m else nI (i + 1)) n (nI 0)
theorem lngR_s (s : SRs) (n : Nat) : lngR s (n + 1) = if lenR s (nI (n + 1)) ≤ lenR s (lngR s n) then lngR s n else nI (n + 1) := rfl
