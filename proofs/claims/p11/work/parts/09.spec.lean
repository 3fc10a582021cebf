/-! THE DOCUMENT'S WORDS over rows of ints: th: things, four ints each; T: his, n, mind, ahead, changes, then what each person has -/
abbrev zF1 : Type := Nat → Int32
def feltF (th : zF1) (j : Nat) (mind n : Int32) : Int32 :=
  if mind = 0 then (if th (4 * j) = 2 then th (4 * j + 2) + 2 * n else th (4 * j + 2))
  else if th (4 * j) = 1 ∨ th (4 * j) = 3 then (if th (4 * j) = 3 ∧ 3 ≤ n then th (4 * j + 3) + n + 5 else th (4 * j + 3) + n) else th (4 * j + 3)
def setF (f : zF1) (j : Nat) (a b c d : Int32) : zF1 := va_up (va_up (va_up (va_up f (4 * j) a) (4 * j + 1) b) (4 * j + 2) c) (4 * j + 3) d
/-- a number of one of n -/
def vdF (n x : Int32) : Prop := 0 ≤ x ∧ x < n
def bI (p : Prop) [Decidable p] : Int32 := if p then 1 else 0
theorem bI_nar (p : Prop) [Decidable p] : narrow .boolean (.int (bI p)) = .int (bI p) := by unfold bI; split <;> rfl
theorem bI_0 {p : Prop} [Decidable p] : bI p = 0 ↔ ¬ p := by unfold bI; split <;> simp_all
theorem bI_1 {p : Prop} [Decidable p] : ¬ bI p = 0 ↔ p := by unfold bI; split <;> simp_all
theorem bI_t {p : Prop} [Decidable p] (h : p) : 1 = bI p := (if_pos h).symm
theorem bI_f {p : Prop} [Decidable p] (h : ¬ p) : 0 = bI p := (if_neg h).symm
theorem vp_of {n : Nat} {N x : Int32} (h0 : 0 ≤ x) (h : x < N) (hN : N ≤ nI n) (hn : n < 2 ^ 31) : vp_in x n := by
  rw [vp_in_iff]
  have a := Int32.le_iff_toInt_le.mp h0
  have b := Int32.lt_iff_toInt_lt.mp h
  have c := Int32.le_iff_toInt_le.mp hN
  rw [nI_toInt hn] at c
  have d : (0 : Int32).toInt = 0 := by decide
  omega
theorem nlt {a b : Int32} (h : b ≤ a) : ¬ a < b := Int32.not_lt.mpr h
theorem nle {a b : Int32} (h : b < a) : ¬ a ≤ b := Int32.not_le.mpr h
theorem vpl (c : Int32) {n : Nat} {x : Int32} (hc : c.toInt = (n : Int)) (h : 0 ≤ x ∧ x < c) : vp_in x n := by
  rw [vp_in_iff]
  have a := Int32.le_iff_toInt_le.mp h.1
  have b := Int32.lt_iff_toInt_lt.mp h.2
  have d : (0 : Int32).toInt = 0 := by decide
  omega
theorem zs_at (M : zM) (b o : Nat) (v : Int32) : (zs M b o v).1 b = va_up (M.1 b) o v := va_up_self _ _ _
theorem zs_off (M : zM) {b c o : Nat} {v : Int32} (h : c ≠ b) : (zs M b o v).1 c = M.1 c := va_up_ne _ _ h
theorem za_at (M : zM) (b : Nat) (f : zF1) : (za M b f).1 b = f := va_up_self _ _ _
theorem za_off (M : zM) {b c : Nat} {f : zF1} (h : c ≠ b) : (za M b f).1 c = M.1 c := va_up_ne _ _ h
theorem zs_za (M : zM) (b o : Nat) (v : Int32) : zs M b o v = za M b (va_up (M.1 b) o v) := rfl
theorem za_za (M : zM) (b : Nat) (f h : zF1) : za (za M b f) b h = za M b h := by unfold za; simp only [bx_uu]
theorem za_self (M : zM) (b : Nat) : za M b (M.1 b) = M := by
  unfold za
  refine Prod.ext (funext fun j => ?_) rfl
  show va_up M.1 b (M.1 b) j = M.1 j
  by_cases h : j = b
  · subst h; exact va_up_self _ _ _
  · exact va_up_ne _ _ h
theorem za_swap (M : zM) {b c : Nat} (f h : zF1) (hne : b ≠ c) : za (za M b f) c h = za (za M c h) b f := by
  unfold za
  refine Prod.ext (funext fun j => ?_) rfl
  show va_up (va_up M.1 b f) c h j = va_up (va_up M.1 c h) b f j
  unfold va_up
  by_cases h1 : j = c
  · subst h1; simp [Ne.symm hne]
  · simp [h1]
theorem zk_ne {a b x y : Nat} (h1 : zk a = x) (h2 : zk b = y) (h : x ≠ y) : a ≠ b := by
  rintro rfl
  exact h (h1.symm.trans h2)
def feelF (th : zF1) (c : Int32) (T : zF1) : zF1 := va_up (va_up T 1 (T 1 + 1)) 2 (if feltF th (T 0).toNatClampNeg 1 (T 1 + 1) * c ≤ feltF th (T 0).toNatClampNeg 0 (T 1 + 1) then 0 else 1)
def worthO (th : zF1) (nt x : Int32) : Int32 := if 0 ≤ x ∧ x < nt then th (4 * x.toNatClampNeg + 1) else 0
def timesF (c m : Int32) : Int32 := if m = 1 then c else 1
theorem timesF_1 {c m : Int32} (h : m = 1) : timesF c m = c := if_pos h
theorem timesF_0 {c m : Int32} (h : ¬ m = 1) : timesF c m = 1 := if_neg h
abbrev gladF (th : zF1) (c hd : Int32) (T : zF1) (x : Int32) : Prop := feltF th x.toNatClampNeg (T 2) 0 < feltF th (T 0).toNatClampNeg (T 2) (T 1) * timesF c (T 2) ∧ th (4 * (T 0).toNatClampNeg + 1) - th (4 * x.toNatClampNeg + 1) ≤ hd
abbrev willF (th : zF1) (mg : Int32) (T : zF1) (x : Int32) : Prop := th (4 * x.toNatClampNeg + 1) + mg ≤ th (4 * (T 0).toNatClampNeg + 1)
/-- an offer: what he and the one at place s have then; whether it was refused -/
def offT (th : zF1) (mg hd c : Int32) (s : Nat) (T : zF1) : zF1 := if gladF th c hd T (T s) then (if willF th mg T (T s) then va_up (va_up (va_up (va_up T s (T 0)) 0 (T s)) 1 0) 4 (T 4 + 1) else T) else T
def offR (th : zF1) (mg hd c : Int32) (s : Nat) (T : zF1) (rf : Int32) : Int32 := if gladF th c hd T (T s) then (if willF th mg T (T s) then rf else if rf = -4 then T 3 else rf) else rf
/-- a trip's ints all at once: T, and the first milestone that refused him -/
def zt (M : zM) (t : Nat) (T : zF1) (rf : Int32) : zM := za (za M t T) (t + 1) (va_up (M.1 (t + 1)) 0 rf)
theorem va_up_id {α : Type} (f : Nat → α) (k : Nat) : va_up f k (f k) = f := by
  funext j
  unfold va_up
  split
  · next h => rw [h]
  · rfl
theorem zt_self (M : zM) (t : Nat) : zt M t (M.1 t) (M.1 (t + 1) 0) = M := by unfold zt; rw [za_self, va_up_id, za_self]
theorem zt_t (M : zM) (t : Nat) (T : zF1) (rf : Int32) : (zt M t T rf).1 t = T := by unfold zt; rw [za_off _ (by omega), za_at]
theorem zt_r (M : zM) (t : Nat) (T : zF1) (rf : Int32) : (zt M t T rf).1 (t + 1) = va_up (M.1 (t + 1)) 0 rf := by unfold zt; rw [za_at]
theorem zt_off {M : zM} {t c : Nat} {T : zF1} {rf : Int32} (h : c ≠ t) (h1 : c ≠ t + 1) : (zt M t T rf).1 c = M.1 c := by unfold zt; rw [za_off _ h1, za_off _ h]
theorem zt_2 (M : zM) (t : Nat) (T : zF1) (rf : Int32) : (zt M t T rf).2 = M.2 := rfl
theorem za_zt (M : zM) (t : Nat) (T : zF1) : za M t T = zt M t T (M.1 (t + 1) 0) := by
  unfold zt
  rw [va_up_id]
  conv => rhs; arg 3; rw [← za_off M (b := t) (f := T) (show t + 1 ≠ t by omega)]
  rw [za_self]
theorem zt_zt (M : zM) (t : Nat) (T T2 : zF1) (rf r2 : Int32) : zt (zt M t T rf) t T2 r2 = zt M t T2 r2 := by
  unfold zt
  rw [za_at, bx_uu, za_swap _ _ _ (show t + 1 ≠ t by omega), za_za, za_za]
theorem zs_zt (M : zM) (t : Nat) (T : zF1) (rf : Int32) (o : Nat) (v : Int32) : zs (zt M t T rf) t o v = zt M t (va_up T o v) rf := by
  rw [zs_za, zt_t]
  unfold zt
  rw [za_swap _ _ _ (show t + 1 ≠ t by omega), za_za]
theorem zs_ztr (M : zM) (t : Nat) (T : zF1) (rf v : Int32) : zs (zt M t T rf) (t + 1) 0 v = zt M t T v := by
  rw [zs_za, zt_r, bx_uu]
  unfold zt
  rw [za_za]
theorem za_ztt (M : zM) (t : Nat) (T T2 : zF1) (rf : Int32) : za (zt M t T rf) t T2 = zt M t T2 rf := by
  unfold zt
  rw [za_swap _ _ _ (show t + 1 ≠ t by omega), za_za]
/-- one of the people at a milestone; all of them; the well; a milestone. rb: number of things, of people, heed, well -/
def stepF (rb th pe : zF1) (c : Int32) (p : Nat) (s : zF1 × Int32) : zF1 × Int32 := if pe (2 * p) = s.1 3 ∧ (0 ≤ s.1 0 ∧ s.1 0 < rb 0) ∧ (0 ≤ s.1 (5 + p) ∧ s.1 (5 + p) < rb 0) then (offT th (pe (2 * p + 1)) (rb 2) c (5 + p) s.1, offR th (pe (2 * p + 1)) (rb 2) c (5 + p) s.1 s.2) else s
def peoF (rb th pe : zF1) (c : Int32) : Nat → zF1 × Int32 → zF1 × Int32
  | 0, s => s
  | k + 1, s => stepF rb th pe c k (peoF rb th pe c k s)
def wellF (rb th : zF1) (T : zF1) : zF1 := if rb 3 = T 3 ∧ (0 ≤ T 0 ∧ T 0 < rb 0) ∧ 10 ≤ feltF th (T 0).toNatClampNeg 0 (T 1) then va_up (va_up T 0 (-4)) 1 0 else T
def feelsF (rb th : zF1) (c : Int32) (T : zF1) : zF1 := if 0 ≤ T 0 ∧ T 0 < rb 0 then feelF th c T else T
def passF (rb th pe : zF1) (np : Nat) (c : Int32) (s : zF1 × Int32) : zF1 × Int32 :=
  (va_up (wellF rb th (peoF rb th pe c np (feelsF rb th c s.1, s.2)).1) 3 ((wellF rb th (peoF rb th pe c np (feelsF rb th c s.1, s.2)).1) 3 + 1), (peoF rb th pe c np (feelsF rb th c s.1, s.2)).2)
