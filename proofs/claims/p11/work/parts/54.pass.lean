/-- all that he and people have is valid; his mind is one -/
def tv9 (nt : Nat) (T : zF1) : Prop := vx nt (T 0) ∧ (∀ p, p < 9 → vx nt (T (5 + p))) ∧ (T 2 = 0 ∨ T 2 = 1)
def coinF (ts a : Int32) : Int32 := (ts >>> (a &&& 31) &&& 1) + 1
def moreF (rb th : zF1) (mo c : Int32) (s : zF1 × Int32) : zF1 × Int32 := if mo = s.1 3 ∧ (0 ≤ s.1 0 ∧ s.1 0 < rb 0) ∧ (0 ≤ s.1 13 ∧ s.1 13 < rb 0) then (offT th 0 (rb 2) c 13 s.1, offR th 0 (rb 2) c 13 s.1 s.2) else s
def endM (rb th : zF1) (s : zF1 × Int32) : zF1 × Int32 := (va_up (wellF rb th s.1) 3 (wellF rb th s.1 3 + 1), s.2)
/-- a milestone of the reference: mo: where one more waits -/
def passM (rb th pe : zF1) (np : Nat) (mo c : Int32) (s : zF1 × Int32) : zF1 × Int32 := endM rb th (moreF rb th mo c (peoF rb th pe c np (feelsF rb th c s.1, s.2)))
def homeM (rb th pe : zF1) (np : Nat) (mo ts : Int32) : Nat → zF1 × Int32 → zF1 × Int32
  | 0, s => s
  | k + 1, s => homeM rb th pe np mo ts k (passM rb th pe np mo (coinF ts (s.1 3)) s)
theorem ne5 {p k : Nat} (h : k < 5) : k ≠ 5 + p := by omega
theorem ne5' {p k : Nat} (h : k < 5) : 5 + p ≠ k := by omega
theorem tv9_up1 {nt : Nat} {T : zF1} (h : tv9 nt T) (k : Nat) (v : Int32) (hk : k = 1 ∨ k = 3 ∨ k = 4) : tv9 nt (va_up T k v) := by
  obtain ⟨h1, h2, h3⟩ := h
  refine ⟨?_, fun p hp => ?_, ?_⟩
  · rw [va_up_ne _ _ (by omega)]; exact h1
  · rw [va_up_ne _ _ (by omega)]; exact h2 p hp
  · rw [va_up_ne _ _ (by omega)]; exact h3
theorem tv9_up0 {nt : Nat} {T : zF1} (h : tv9 nt T) {v : Int32} (hv : vx nt v) : tv9 nt (va_up T 0 v) := by
  obtain ⟨h1, h2, h3⟩ := h
  refine ⟨?_, fun p hp => ?_, ?_⟩
  · rw [va_up_self]; exact hv
  · rw [va_up_ne _ _ (by omega)]; exact h2 p hp
  · rw [va_up_ne _ _ (by omega)]; exact h3
theorem tv9_up2 {nt : Nat} {T : zF1} (h : tv9 nt T) {v : Int32} (hv : v = 0 ∨ v = 1) : tv9 nt (va_up T 2 v) := by
  obtain ⟨h1, h2, h3⟩ := h
  refine ⟨?_, fun p hp => ?_, ?_⟩
  · rw [va_up_ne _ _ (by omega)]; exact h1
  · rw [va_up_ne _ _ (by omega)]; exact h2 p hp
  · rw [va_up_self]; exact hv
theorem tv9_up5 {nt : Nat} {T : zF1} (h : tv9 nt T) (p : Nat) {v : Int32} (hv : vx nt v) : tv9 nt (va_up T (5 + p) v) := by
  obtain ⟨h1, h2, h3⟩ := h
  refine ⟨?_, fun q hq => ?_, ?_⟩
  · rw [va_up_ne _ _ (by omega)]; exact h1
  · by_cases e : q = p
    · rw [e, va_up_self]; exact hv
    · rw [va_up_ne _ _ (by omega)]; exact h2 q hq
  · rw [va_up_ne _ _ (by omega)]; exact h3
theorem tv9_feel {nt : Nat} {T : zF1} (h : tv9 nt T) (rb th : zF1) (c : Int32) : tv9 nt (feelsF rb th c T) := by
  unfold feelsF
  split
  · unfold feelF
    refine tv9_up2 (tv9_up1 h 1 _ (Or.inl rfl)) ?_
    split
    · exact Or.inl rfl
    · exact Or.inr rfl
  · exact h
theorem tv9_off {nt : Nat} {T : zF1} (h : tv9 nt T) (th : zF1) (mg hd c : Int32) {p : Nat} (hp : p < 9) : tv9 nt (offT th mg hd c (5 + p) T) := by
  unfold offT
  split
  · split
    · exact tv9_up1 (tv9_up1 (tv9_up0 (tv9_up5 h p h.1) (h.2.1 p hp)) 1 _ (Or.inl rfl)) 4 _ (Or.inr (Or.inr rfl))
    · exact h
  · exact h
theorem offT_3 (th : zF1) (mg hd c : Int32) (p : Nat) (T : zF1) : offT th mg hd c (5 + p) T 3 = T 3 := by
  unfold offT
  split
  · split
    · rw [va_up_ne _ _ (by omega), va_up_ne _ _ (by omega), va_up_ne _ _ (by omega), va_up_ne _ _ (by omega)]
    · rfl
  · rfl
theorem feels_3 (rb th : zF1) (c : Int32) (T : zF1) : feelsF rb th c T 3 = T 3 := by
  unfold feelsF feelF
  split
  · rw [va_up_ne _ _ (by omega), va_up_ne _ _ (by omega)]
  · rfl
theorem step_ok {nt : Nat} {s : zF1 × Int32} (h : tv9 nt s.1) (rb th pe : zF1) (c : Int32) {k : Nat} (hk : k < 9) : tv9 nt (stepF rb th pe c k s).1 ∧ (stepF rb th pe c k s).1 3 = s.1 3 := by
  unfold stepF
  split
  · exact ⟨tv9_off h _ _ _ _ hk, offT_3 _ _ _ _ _ _⟩
  · exact ⟨h, rfl⟩
theorem peo_ok {nt : Nat} {s : zF1 × Int32} (h : tv9 nt s.1) (rb th pe : zF1) (c : Int32) : ∀ k, k ≤ 9 → tv9 nt (peoF rb th pe c k s).1 ∧ (peoF rb th pe c k s).1 3 = s.1 3 := by
  intro k
  induction k with
  | zero => intro _; exact ⟨h, rfl⟩
  | succ k ih =>
    intro hk
    obtain ⟨i1, i2⟩ := ih (by omega)
    obtain ⟨j1, j2⟩ := step_ok i1 rb th pe c (k := k) (by omega)
    exact ⟨j1, j2.trans i2⟩
theorem more_ok {nt : Nat} {s : zF1 × Int32} (h : tv9 nt s.1) (rb th : zF1) (mo c : Int32) : tv9 nt (moreF rb th mo c s).1 ∧ (moreF rb th mo c s).1 3 = s.1 3 := by
  unfold moreF
  split
  · exact ⟨tv9_off h _ _ _ _ (p := 8) (by decide), offT_3 _ _ _ _ 8 _⟩
  · exact ⟨h, rfl⟩
theorem well_ok {nt : Nat} {T : zF1} (h : tv9 nt T) (rb th : zF1) : tv9 nt (wellF rb th T) ∧ wellF rb th T 3 = T 3 := by
  unfold wellF
  split
  · exact ⟨tv9_up1 (tv9_up0 h (Or.inl rfl)) 1 _ (Or.inl rfl), by rw [va_up_ne _ _ (by omega), va_up_ne _ _ (by omega)]⟩
  · exact ⟨h, rfl⟩
theorem end_ok {nt : Nat} {s : zF1 × Int32} (h : tv9 nt s.1) (rb th : zF1) : tv9 nt (endM rb th s).1 ∧ (endM rb th s).1 3 = s.1 3 + 1 := by
  obtain ⟨h1, h2⟩ := well_ok h rb th
  exact ⟨tv9_up1 h1 3 _ (Or.inr (Or.inl rfl)), by
    show va_up (wellF rb th s.1) 3 (wellF rb th s.1 3 + 1) 3 = s.1 3 + 1
    rw [va_up_self, h2]⟩
theorem pass_ok {nt : Nat} {s : zF1 × Int32} (h : tv9 nt s.1) (rb th pe : zF1) {np : Nat} (mo c : Int32) (hp : np ≤ 9) : tv9 nt (passM rb th pe np mo c s).1 ∧ (passM rb th pe np mo c s).1 3 = s.1 3 + 1 := by
  have h1 : tv9 nt (feelsF rb th c s.1, s.2).1 := tv9_feel h rb th c
  obtain ⟨h2, h3⟩ := peo_ok h1 rb th pe c np hp
  obtain ⟨h4, h5⟩ := more_ok h2 rb th mo c
  obtain ⟨h6, h7⟩ := end_ok h4 rb th
  exact ⟨h6, by
    show (endM rb th (moreF rb th mo c (peoF rb th pe c np (feelsF rb th c s.1, s.2)))).1 3 = s.1 3 + 1
    rw [h7, h5, h3]
    exact congrArg (· + 1) (feels_3 rb th c s.1)⟩
theorem home_ok {nt : Nat} (rb th pe : zF1) {np : Nat} (mo ts : Int32) (hp : np ≤ 9) : ∀ (k : Nat) {s : zF1 × Int32}, tv9 nt s.1 → tv9 nt (homeM rb th pe np mo ts k s).1 := by
  intro k
  induction k with
  | zero => intro s h; exact h
  | succ k ih => intro s h; exact ih (pass_ok h rb th pe mo _ hp).1
/-- the reference's walker: his row, and the first milestone that refused him -/
def zr (M : zM) (o : Nat) (T : zF1) (rf : Int32) : zM := za (za M (o + 3) T) o (va_up (M.1 o) 18 rf)
theorem zr_T (M : zM) (o : Nat) (T : zF1) (rf : Int32) : (zr M o T rf).1 (o + 3) = T := by unfold zr; rw [za_off _ (by omega), za_at]
theorem zr_o (M : zM) (o : Nat) (T : zF1) (rf : Int32) : (zr M o T rf).1 o = va_up (M.1 o) 18 rf := by unfold zr; rw [za_at]
theorem zr_of (M : zM) (o : Nat) (T : zF1) (rf : Int32) {k : Nat} (h : k ≠ 18) : (zr M o T rf).1 o k = M.1 o k := by rw [zr_o, va_up_ne _ _ h]
theorem zr_rf (M : zM) (o : Nat) (T : zF1) (rf : Int32) : (zr M o T rf).1 o 18 = rf := by rw [zr_o, va_up_self]
theorem zr_off {M : zM} {o b : Nat} {T : zF1} {rf : Int32} (h : b ≠ o) (h1 : b ≠ o + 3) : (zr M o T rf).1 b = M.1 b := by unfold zr; rw [za_off _ h, za_off _ h1]
theorem zr_2 (M : zM) (o : Nat) (T : zF1) (rf : Int32) : (zr M o T rf).2 = M.2 := rfl
theorem za_zr (M : zM) (o : Nat) (T : zF1) : za M (o + 3) T = zr M o T (M.1 o 18) := by
  unfold zr
  rw [va_up_id]
  conv => rhs; arg 3; rw [← za_off M (b := o + 3) (f := T) (show o ≠ o + 3 by omega)]
  rw [za_self]
theorem zr_self (M : zM) (o : Nat) : zr M o (M.1 (o + 3)) (M.1 o 18) = M := by rw [← za_zr, za_self]
theorem zr_zr (M : zM) (o : Nat) (T T2 : zF1) (rf r2 : Int32) : zr (zr M o T rf) o T2 r2 = zr M o T2 r2 := by
  unfold zr
  rw [za_at, bx_uu, za_swap _ _ _ (show o ≠ o + 3 by omega), za_za, za_za]
theorem zs_zr (M : zM) (o : Nat) (T : zF1) (rf : Int32) (q : Nat) (v : Int32) : zs (zr M o T rf) (o + 3) q v = zr M o (va_up T q v) rf := by
  rw [zs_za, zr_T]
  unfold zr
  rw [za_swap _ _ _ (show o ≠ o + 3 by omega), za_za]
theorem zs_zro (M : zM) (o : Nat) (T : zF1) (rf v : Int32) : zs (zr M o T rf) o 18 v = zr M o T v := by
  rw [zs_za, zr_o, bx_uu]
  unfold zr
  rw [za_za]
