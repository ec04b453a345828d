/-! what the class's loops over a row come to, turn by turn -/
def negV (f : Nat → Int32) (n : Nat) : Nat → Int32 := itr (fun i s => wrV s (nI i) (-(atV s (nI i)))) n f
theorem negV_s (f : Nat → Int32) (n : Nat) : negV f (n + 1) = wrV (negV f n) (nI n) (-(atV (negV f n) (nI n))) := rfl
def cliV (f : Nat → Int32) (n : Nat) : Nat → Int32 := itr (fun i s => wrV s (nI (i + 1)) (jmax (atV s (nI (i + 1))) (atV s (nI (i + 1) - nI 1)))) n f
theorem cliV_s (f : Nat → Int32) (n : Nat) : cliV f (n + 1) = wrV (cliV f n) (nI (n + 1)) (jmax (atV (cliV f n) (nI (n + 1))) (atV (cliV f n) (nI (n + 1) - nI 1))) := rfl
def dn (n i : Nat) : Int32 := nI n - nI i
theorem dn_s {n i : Nat} (hn : n < 2 ^ 30) (hi : i + 1 < 2 ^ 30) : dn n i + Int32.ofInt (-1) = dn n (i + 1) := by
  have h1 : (dn n i).toInt = (n : Int) - i := pk_sub_toInt hn (by omega)
  have h2 : (dn n (i + 1)).toInt = (n : Int) - (i + 1 : Nat) := pk_sub_toInt hn hi
  have h3 : (Int32.ofInt (-1)).toInt = -1 := rfl
  refine Int32.toInt_inj.mp ?_
  have h4 : (dn n i + Int32.ofInt (-1)).toInt = (dn n i).toInt + (Int32.ofInt (-1)).toInt := by
    apply fb_addI <;> rw [h1, h3] <;> omega
  rw [h4, h1, h2, h3]
  omega
theorem dn_0 (n : Nat) : nI n = dn n 0 := by
  unfold dn
  rw [show nI 0 = 0 from rfl, Int32.sub_zero]
theorem dn_neg {n i : Nat} (hn : n < 2 ^ 30) (hi : i < 2 ^ 30) : dn n i < 0 ↔ n < i := by
  have h1 := pk_sub_toInt hn hi
  have h0 : (0 : Int32).toInt = 0 := rfl
  rw [Int32.lt_iff_toInt_lt, h0]
  show (nI n - nI i).toInt < 0 ↔ n < i
  rw [h1]
  omega
def criV (f : Nat → Int32) (n : Nat) : Nat → Int32 := itr (fun i s => wrV s (dn 199 i) (jmax (atV s (dn 199 i)) (atV s (dn 199 i + nI 1)))) n f
theorem criV_s (f : Nat → Int32) (n : Nat) : criV f (n + 1) = wrV (criV f n) (dn 199 n) (jmax (atV (criV f n) (dn 199 n)) (atV (criV f n) (dn 199 n + nI 1))) := rfl
def ptZ (g : Int32) : Int32 := if ¬ g &&& nI 1 = 0 then nI 0 else nI 1
def addV (f : Nat → Int32) (n : Nat) : (Nat → Int32) × Int32 := itr (fun i s => (wrV s.1 (nI i) (if ptZ (nI i) = 0 then s.2 + atV s.1 (nI i) else s.2), if ptZ (nI i) = 0 then s.2 + atV s.1 (nI i) else s.2)) n (f, nI 0)
theorem addV_s (f : Nat → Int32) (n : Nat) : addV f (n + 1) = (wrV (addV f n).1 (nI n) (if ptZ (nI n) = 0 then (addV f n).2 + atV (addV f n).1 (nI n) else (addV f n).2), if ptZ (nI n) = 0 then (addV f n).2 + atV (addV f n).1 (nI n) else (addV f n).2) := rfl
def mirV (f g : Nat → Int32) (n : Nat) : Nat → Int32 := itr (fun i s => wrV s (nI i) (atV g (nI 200 - nI i))) n f
theorem mirV_s (f g : Nat → Int32) (n : Nat) : mirV f g (n + 1) = wrV (mirV f g n) (nI n) (atV g (nI 200 - nI n)) := rfl
def grtV (f : Nat → Int32) (lo k : Nat) : Int32 := itr (fun k m => jmax m (atV f (nI (lo + k)))) k (-10000)
theorem grtV_s (f : Nat → Int32) (lo k : Nat) : grtV f lo (k + 1) = jmax (grtV f lo k) (atV f (nI (lo + k))) := rfl
def lstV (f : Nat → Int32) (lo k : Nat) : Int32 := itr (fun k m => jmin m (atV f (nI (lo + k)))) k (nI 10000)
theorem lstV_s (f : Nat → Int32) (lo k : Nat) : lstV f lo (k + 1) = jmin (lstV f lo k) (atV f (nI (lo + k))) := rfl
def fgrV (f : Nat → Int32) (n : Nat) : Int32 := itr (fun i m => if atV f (nI (i + 1)) ≤ atV f m then m else nI (i + 1)) n (nI 0)
theorem fgrV_s (f : Nat → Int32) (n : Nat) : fgrV f (n + 1) = if atV f (nI (n + 1)) ≤ atV f (fgrV f n) then fgrV f n else nI (n + 1) := rfl
def grnV (f g : Nat → Int32) (r n : Nat) : Nat → Int32 := itr (fun i s => wrV s (nI i) (grtV g (i - r) (min (i + r + 1) 201 - (i - r)))) n f
theorem grnV_s (f g : Nat → Int32) (r n : Nat) : grnV f g r (n + 1) = wrV (grnV f g r n) (nI n) (grtV g (n - r) (min (n + r + 1) 201 - (n - r))) := rfl
def lenV (f g : Nat → Int32) (r n : Nat) : Nat → Int32 := itr (fun i s => wrV s (nI i) (lstV g (i - r) (min (i + r + 1) 201 - (i - r)))) n f
theorem lenV_s (f g : Nat → Int32) (r n : Nat) : lenV f g r (n + 1) = wrV (lenV f g r n) (nI n) (lstV g (n - r) (min (n + r + 1) 201 - (n - r))) := rfl
theorem jmax_sub {i r : Nat} (hi : i < 2 ^ 30) (hr : r < 2 ^ 30) : jmax (nI i - nI r) (nI 0) = nI (i - r) := by
  unfold jmax
  rcases Nat.lt_or_ge i r with h | h
  · rw [if_pos (show nI i - nI r < nI 0 from pk_sneg hr h), show i - r = 0 by omega]
  · rw [pk_sub h, if_neg]
    intro q
    exact absurd ((nI_ltI (by omega) (by omega)).mp q) (by omega)
theorem add_hi {i r : Nat} (hi : i < 2 ^ 30) (hr : r < 2 ^ 30) : (nI (i + r)).toInt + 1 = ((i + r + 1 : Nat) : Int) := by
  rw [nI_toInt (by omega)]
  omega
def dropZ (f : Nat → Int32) (n : Nat) : Nat → Int32 := itr (fun i s => if (2 * i = 0 ∨ ¬ holdZ s (nI (2 * i) - nI 1) = 0) ∧ (2 * i = 200 ∨ ¬ holdZ s (nI (2 * i + 1)) = 0) then s else wrZ s (nI (2 * i)) (nI 0)) n f
theorem dropZ_s (f : Nat → Int32) (n : Nat) : dropZ f (n + 1) = if (2 * n = 0 ∨ ¬ holdZ (dropZ f n) (nI (2 * n) - nI 1) = 0) ∧ (2 * n = 200 ∨ ¬ holdZ (dropZ f n) (nI (2 * n + 1)) = 0) then dropZ f n else wrZ (dropZ f n) (nI (2 * n)) (nI 0) := rfl
def edgZ (v : Int32) (f : Nat → Int32) (n : Nat) : Nat → Int32 := itr (fun i s => if holdZ s (nI (2 * i) - nI 1) = 0 ∧ holdZ s (nI (2 * i + 1)) = 0 then s else wrZ s (nI (2 * i)) v) n f
theorem edgZ_s (v : Int32) (f : Nat → Int32) (n : Nat) : edgZ v f (n + 1) = if holdZ (edgZ v f n) (nI (2 * n) - nI 1) = 0 ∧ holdZ (edgZ v f n) (nI (2 * n + 1)) = 0 then edgZ v f n else wrZ (edgZ v f n) (nI (2 * n)) v := rfl
def oddZ (f : Nat → Int32) (n : Nat) : Nat → Int32 := itr (fun i s => wrZ s (nI (2 * i + 1)) (nI 0)) n f
theorem oddZ_0 (f : Nat → Int32) : oddZ f 0 = f := rfl
theorem oddZ_s (f : Nat → Int32) (n : Nat) : oddZ f (n + 1) = wrZ (oddZ f n) (nI (2 * n + 1)) (nI 0) := rfl
def mirZ (f : Nat → Int32) (n : Nat) : Nat → Int32 := itr (fun i s => wrZ (wrZ s (nI i) (holdZ s (nI 200 - nI i))) (nI 200 - nI i) (holdZ s (nI i))) n f
theorem mirZ_s (f : Nat → Int32) (n : Nat) : mirZ f (n + 1) = wrZ (wrZ (mirZ f n) (nI n) (holdZ (mirZ f n) (nI 200 - nI n))) (nI 200 - nI n) (holdZ (mirZ f n) (nI n)) := rfl
theorem itr_inv {α : Type} {F : Nat → α → α} {P : α → Prop} {n : Nat} {a : α} (h0 : P a) (hs : ∀ i b, i < n → P b → P (F i b)) : P (itr F n a) := by
  induction n with
  | zero => exact h0
  | succ n ih => exact hs n _ (Nat.lt_succ_self n) (ih (fun i b hi hb => hs i b (Nat.lt_succ_of_lt hi) hb))
