/-! what the class's own loops come to, turn by turn (world level) -/
def subZ (f g : Nat → Int32) : Prop := ∀ j : Nat, j < 201 → ¬ holdZ f (nI j) = 0 → ¬ holdZ g (nI j) = 0
def mtZ (f g : Nat → Int32) (d : Int32) (n : Nat) : Int32 := itr (fun i c => if holdZ g (nI (2 * i + 1)) = 0 then c else if holdZ f (nI (2 * i + 1) - d) = 0 then c else c + 1) n (nI 0)
theorem mtZ_s (f g : Nat → Int32) (d : Int32) (n : Nat) : mtZ f g d (n + 1) = if holdZ g (nI (2 * n + 1)) = 0 then mtZ f g d n else if holdZ f (nI (2 * n + 1) - d) = 0 then mtZ f g d n else mtZ f g d n + 1 := rfl
def lieA (f g : Nat → Int32) (d : Int32) : Prop := ∀ i : Nat, i < 201 → lieP f g d i
def movZ (G : Nat → Nat → Int32) (k : Nat) (d : Int32) (n : Nat) : Nat → Int32 := itr (fun i g => wrZ g (nI i) (holdZ (va_up G k g 8) (nI i - d))) n (G k)
theorem movZ_0 (G : Nat → Nat → Int32) (k : Nat) (d : Int32) : movZ G k d 0 = G k := rfl
theorem movZ_s (G : Nat → Nat → Int32) (k : Nat) (d : Int32) (n : Nat) : movZ G k d (n + 1) = wrZ (movZ G k d n) (nI n) (holdZ (va_up G k (movZ G k d n) 8) (nI n - d)) := rfl
/-- factOfSet: the answer, and the SpanRow behind it -/
def facSr (f : Nat → Int32) (w : Nat) (s : SRs) : SRs := if w = 0 then s else if w = 1 then rrR f (nI 1) s 201 else if w = 2 then s else if w = 3 then rrR f (nI 1) s 201 else rrR f (nI 0) s 201
def facSv (f : Nat → Int32) (w : Nat) (s : SRs) : Int32 := if w = 0 then cntZ f 201 else if w = 1 then nI (rrR f (nI 1) s 201).2.2 else if w = 2 then lenZ f 100 else if w = 3 then lonR (rrR f (nI 1) s 201) (rrR f (nI 1) s 201).2.2 else if w = 4 then nI (rrR f (nI 0) s 201).2.2 else lenR (rrR f (nI 0) s 201) (lngR (rrR f (nI 0) s 201) ((rrR f (nI 0) s 201).2.2 - 1))
theorem facSr_le {f : Nat → Int32} {w : Nat} {s : SRs} (h : s.2.2 ≤ 201) : (facSr f w s).2.2 ≤ 201 := by
  unfold facSr
  repeat' split
  all_goals first | exact h | exact rrR_le _ _ _ _
def arwV (f : Nat → Int32) (fr n : Nat) : Int32 := itr (fun i c => c + atV f (nI (2 * (fr + i) + 1))) n (nI 0)
theorem arwV_s (f : Nat → Int32) (fr n : Nat) : arwV f fr (n + 1) = arwV f fr n + atV f (nI (2 * (fr + n) + 1)) := rfl
def aroV (f g : Nat → Int32) (n : Nat) : Int32 := itr (fun i c => if holdZ g (nI (2 * i + 1)) = 0 then c else c + atV f (nI (2 * i + 1))) n (nI 0)
theorem aroV_s (f g : Nat → Int32) (n : Nat) : aroV f g (n + 1) = if holdZ g (nI (2 * n + 1)) = 0 then aroV f g n else aroV f g n + atV f (nI (2 * n + 1)) := rfl
def facFv (f : Nat → Int32) (w : Nat) : Int32 := if w = 0 then stepsV f 200 else if w = 1 then lstV f 0 (min 201 201 - 0) else if w = 2 then grtV f 0 (min 201 201 - 0) else if w = 3 then fgrV f 200 else arwV f 0 100
theorem mem_bit {fam k : Nat} (h : fam < 2 ^ 31) (hk : k < 8) : nI fam >>> (nI k &&& 31) &&& nI 1 = nI (fam / 2 ^ k % 2) := by
  rcases (show k = 0 ∨ k = 1 ∨ k = 2 ∨ k = 3 ∨ k = 4 ∨ k = 5 ∨ k = 6 ∨ k = 7 by omega) with rfl | rfl | rfl | rfl | rfl | rfl | rfl | rfl
  · rw [pk_shrN h _ 0 (by decide), pk_andN (by omega) 1 rfl]
  · rw [pk_shrN h _ 1 (by decide), pk_andN (by omega) 1 rfl]
  · rw [pk_shrN h _ 2 (by decide), pk_andN (by omega) 1 rfl]
  · rw [pk_shrN h _ 3 (by decide), pk_andN (by omega) 1 rfl]
  · rw [pk_shrN h _ 4 (by decide), pk_andN (by omega) 1 rfl]
  · rw [pk_shrN h _ 5 (by decide), pk_andN (by omega) 1 rfl]
  · rw [pk_shrN h _ 6 (by decide), pk_andN (by omega) 1 rfl]
  · rw [pk_shrN h _ 7 (by decide), pk_andN (by omega) 1 rfl]
theorem mem_iff {fam k : Nat} (h : fam < 2 ^ 31) (hk : k < 8) : nI fam >>> (nI k &&& 31) &&& nI 1 = nI 1 ↔ fam / 2 ^ k % 2 = 1 := by
  rw [mem_bit h hk]
  exact nI_eq (by omega) (by omega)
def memN (ad : Nat → Nat) (fam k : Nat) : Option Nat := if fam / 2 ^ k % 2 = 1 then some (ad (4 + k)) else none
theorem memN_t {ad : Nat → Nat} {fam k : Nat} (h : fam / 2 ^ k % 2 = 1) : memN ad fam k = some (ad (4 + k)) := if_pos h
theorem memN_f {ad : Nat → Nat} {fam k : Nat} (h : ¬ fam / 2 ^ k % 2 = 1) : memN ad fam k = none := if_neg h
def thkZ (F : Nat → Nat → Int32) (fam : Nat) (g : Int32) (n : Nat) : Int32 := itr (fun k c => if fam / 2 ^ k % 2 = 1 then (if holdZ (F k) g = 0 then c else c + 1) else c) n (nI 0)
theorem thkZ_s (F : Nat → Nat → Int32) (fam : Nat) (g : Int32) (n : Nat) : thkZ F fam g (n + 1) = if fam / 2 ^ n % 2 = 1 then (if holdZ (F n) g = 0 then thkZ F fam g n else thkZ F fam g n + 1) else thkZ F fam g n := rfl
def cthZ (F : Nat → Nat → Int32) (fam : Nat) (m : Int32) (n : Nat) : Int32 := itr (fun i c => if thkZ F fam (nI i) 8 < m then c else c + 1) n (nI 0)
theorem cthZ_s (F : Nat → Nat → Int32) (fam : Nat) (m : Int32) (n : Nat) : cthZ F fam m (n + 1) = if thkZ F fam (nI n) 8 < m then cthZ F fam m n else cthZ F fam m n + 1 := rfl
/-- functions: raise, set, mix, thick, where -/
def raiV (f : Nat → Int32) (x : Int32) (lo n : Nat) : Nat → Int32 := itr (fun i s => wrV s (nI (lo + i)) (atV s (nI (lo + i)) + x)) n f
theorem raiV_s (f : Nat → Int32) (x : Int32) (lo n : Nat) : raiV f x lo (n + 1) = wrV (raiV f x lo n) (nI (lo + n)) (atV (raiV f x lo n) (nI (lo + n)) + x) := rfl
def setV (f g : Nat → Int32) (x : Int32) (n : Nat) : Nat → Int32 := itr (fun i s => if holdZ g (nI i) = 0 then s else wrV s (nI i) x) n f
theorem setV_s (f g : Nat → Int32) (x : Int32) (n : Nat) : setV f g x (n + 1) = if holdZ g (nI n) = 0 then setV f g x n else wrV (setV f g x n) (nI n) x := rfl
def mxV (V : Nat → Nat → Int32) (to one other k n : Nat) : Nat → Int32 := itr (fun i g => wrV g (nI i) (mixV (atV (va_up V to g one) (nI i)) (atV (va_up V to g other) (nI i)) k)) n (V to)
theorem mxV_0 (V : Nat → Nat → Int32) (to one other k : Nat) : mxV V to one other k 0 = V to := rfl
theorem mxV_s (V : Nat → Nat → Int32) (to one other k n : Nat) : mxV V to one other k (n + 1) = wrV (mxV V to one other k n) (nI n) (mixV (atV (va_up V to (mxV V to one other k n) one) (nI n)) (atV (va_up V to (mxV V to one other k n) other) (nI n)) k) := rfl
def tkV (F : Nat → Nat → Int32) (fam : Nat) (f : Nat → Int32) (n : Nat) : Nat → Int32 := itr (fun i g => wrV g (nI i) (thkZ F fam (nI i) 8)) n f
theorem tkV_0 (F : Nat → Nat → Int32) (fam : Nat) (f : Nat → Int32) : tkV F fam f 0 = f := rfl
theorem tkV_s (F : Nat → Nat → Int32) (fam : Nat) (f : Nat → Int32) (n : Nat) : tkV F fam f (n + 1) = wrV (tkV F fam f n) (nI n) (thkZ F fam (nI n) 8) := rfl
def whrZ (g f : Nat → Int32) (lo hi : Int32) (n : Nat) : Nat → Int32 := itr (fun i s => wrZ s (nI i) (if atV f (nI i) < lo then nI 0 else if hi < atV f (nI i) then nI 0 else nI 1)) n g
theorem whrZ_0 (g f : Nat → Int32) (lo hi : Int32) : whrZ g f lo hi 0 = g := rfl
theorem whrZ_s (g f : Nat → Int32) (lo hi : Int32) (n : Nat) : whrZ g f lo hi (n + 1) = wrZ (whrZ g f lo hi n) (nI n) (if atV f (nI n) < lo then nI 0 else if hi < atV f (nI n) then nI 0 else nI 1) := rfl
/-- no set has a grain -/
def emp (F : Nat → Nat → Int32) : Prop := ∀ k j : Nat, k < 8 → j < 201 → holdZ (F k) (nI j) = 0
/-- the checksum's parts -/
def dgSa (f : Nat → Int32) (s : SRs) (d : Int64) (n : Nat) : Int64 × SRs := itr (fun w x => (x.1 * 31 + (facSv f w x.2).toInt64, facSr f w x.2)) n (d, s)
theorem dgSa_s (f : Nat → Int32) (s : SRs) (d : Int64) (n : Nat) : dgSa f s d (n + 1) = ((dgSa f s d n).1 * 31 + (facSv f n (dgSa f s d n).2).toInt64, facSr f n (dgSa f s d n).2) := rfl
def dgSb (s : SRs) (i : Nat) (d : Int64) (n : Nat) : Int64 := itr (fun w x => x * 31 + (facR s (nI i) (nI w)).toInt64) n d
theorem dgSb_s (s : SRs) (i : Nat) (d : Int64) (n : Nat) : dgSb s i d (n + 1) = dgSb s i d n * 31 + (facR s (nI i) (nI n)).toInt64 := rfl
def dgSc (s : SRs) (d : Int64) (n : Nat) : Int64 := itr (fun i x => dgSb s i x 3) n d
theorem dgSc_s (s : SRs) (d : Int64) (n : Nat) : dgSc s d (n + 1) = dgSb s n (dgSc s d n) 3 := rfl
def dgFa (f : Nat → Int32) (d : Int64) (n : Nat) : Int64 := itr (fun w x => x * 31 + (facFv f w).toInt64) n d
theorem dgFa_s (f : Nat → Int32) (d : Int64) (n : Nat) : dgFa f d (n + 1) = dgFa f d n * 31 + (facFv f n).toInt64 := rfl
def dgFb (f : Nat → Int32) (d : Int64) (n : Nat) : Int64 := itr (fun i x => x * 31 + (atV f (nI i)).toInt64) n d
theorem dgFb_s (f : Nat → Int32) (d : Int64) (n : Nat) : dgFb f d (n + 1) = dgFb f d n * 31 + (atV f (nI n)).toInt64 := rfl
theorem lie_or {f g : Nat → Int32} {d r : Int32} (h : (r = nI 1 ∧ ∀ i : Nat, i < 201 → lieP f g d i) ∨ (r = nI 0 ∧ ∃ i : Nat, i < 201 ∧ ¬ lieP f g d i)) : (r = 0 → ¬ lieA f g d) ∧ (¬ r = 0 → lieA f g d) := by
  rcases h with ⟨h1, h2⟩ | ⟨h1, i, h2, h3⟩
  · refine ⟨fun q => ?_, fun _ => h2⟩
    rw [h1] at q
    exact absurd q (by decide)
  · exact ⟨fun _ q => h3 (q i h2), fun q => absurd h1 q⟩
