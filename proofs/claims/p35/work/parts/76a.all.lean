section
/-! the document's words hang only on what is there -/
def thE (nt : Nat) (th th' : zF1) : Prop := ∀ q, q < 4 * nt → th q = th' q
def peE (np : Nat) (pe pe' : zF1) : Prop := ∀ q, q < 2 * np → pe q = pe' q
def rbE (nt : Nat) (rb rb' : zF1) : Prop := rb 0 = nI nt ∧ rb' 0 = nI nt ∧ rb 2 = rb' 2 ∧ rb 3 = rb' 3
/-- two trips alike, but for a shift of the changes; s: where the other one keeps what people have -/
def trx (np : Nat) (d : Int32) (s : Nat → Nat) (T T' : zF1) : Prop := T 0 = T' 0 ∧ T 1 = T' 1 ∧ T 2 = T' 2 ∧ T 3 = T' 3 ∧ T 4 = T' 4 + d ∧ ∀ p, p < np → T (5 + p) = T' (s p)
def s5 (p : Nat) : Nat := 5 + p
def s13 (np p : Nat) : Nat := if p < np then 5 + p else 13
def sOK (np : Nat) (s : Nat → Nat) : Prop := (∀ p, p < np → 5 ≤ s p) ∧ ∀ p q, p < np → q < np → s p = s q → p = q
theorem s5_ok (np : Nat) : sOK np s5 := ⟨fun p _ => by unfold s5; omega, fun p q _ _ h => by unfold s5 at h; omega⟩
theorem s13_ok {np : Nat} (h : np ≤ 8) : sOK (np + 1) (s13 np) := ⟨fun p _ => by unfold s13; split <;> omega, fun p q h1 h2 h => by unfold s13 at h; split at h <;> split at h <;> omega⟩
theorem felt_cg {nt : Nat} {th th' : zF1} (h : thE nt th th') {j : Nat} (hj : j < nt) (m n : Int32) : feltF th j m n = feltF th' j m n := by
  unfold feltF
  rw [h (4 * j) (by omega), h (4 * j + 2) (by omega), h (4 * j + 3) (by omega)]
theorem v_nat {nt : Nat} {x : Int32} (h10 : nt ≤ 10) (h : 0 ≤ x ∧ x < nI nt) : x.toNatClampNeg < nt := by
  obtain ⟨j, h1, rfl⟩ := n_in h (by omega)
  rw [nI_clamp (by omega)]
  exact h1
theorem glad_cg {nt : Nat} {th th' T T' : zF1} {c hd x : Int32} (h10 : nt ≤ 10) (h : thE nt th th') (t0 : T 0 = T' 0) (t1 : T 1 = T' 1) (t2 : T 2 = T' 2) (v0 : 0 ≤ T' 0 ∧ T' 0 < nI nt) (vx : 0 ≤ x ∧ x < nI nt) : gladF th c hd T x ↔ gladF th' c hd T' x := by
  have j0 := v_nat h10 v0
  have jx := v_nat h10 vx
  unfold gladF
  rw [t0, t1, t2, felt_cg h jx, felt_cg h j0, h (4 * (T' 0).toNatClampNeg + 1) (by omega), h (4 * x.toNatClampNeg + 1) (by omega)]
theorem will_cg {nt : Nat} {th th' T T' : zF1} {mg x : Int32} (h10 : nt ≤ 10) (h : thE nt th th') (t0 : T 0 = T' 0) (v0 : 0 ≤ T' 0 ∧ T' 0 < nI nt) (vx : 0 ≤ x ∧ x < nI nt) : willF th mg T x ↔ willF th' mg T' x := by
  have j0 := v_nat h10 v0
  have jx := v_nat h10 vx
  unfold willF
  rw [t0, h (4 * (T' 0).toNatClampNeg + 1) (by omega), h (4 * x.toNatClampNeg + 1) (by omega)]
theorem shift4 (x d : Int32) : x + d + 1 = x + 1 + d := by rw [Int32.add_assoc, Int32.add_comm d 1, Int32.add_assoc]
theorem off_cg {nt np p : Nat} {th th' T T' : zF1} {mg hd c d rf : Int32} {s : Nat → Nat} (h10 : nt ≤ 10) (h : thE nt th th') (ok : sOK np s) (hp : p < np) (t : trx np d s T T') (v0 : 0 ≤ T' 0 ∧ T' 0 < nI nt) (vx : 0 ≤ T' (s p) ∧ T' (s p) < nI nt) : trx np d s (offT th mg hd c (5 + p) T) (offT th' mg hd c (s p) T') ∧ offR th mg hd c (5 + p) T rf = offR th' mg hd c (s p) T' rf := by
  obtain ⟨t0, t1, t2, t3, t4, t5⟩ := id t
  have e := t5 p hp
  have s1 := ok.1 p hp
  unfold offT offR
  rw [e]
  by_cases g : gladF th' c hd T' (T' (s p))
  · have g' := (glad_cg (c := c) (hd := hd) h10 h t0 t1 t2 v0 vx).mpr g
    by_cases wl : willF th' mg T' (T' (s p))
    · have w' := (will_cg (mg := mg) h10 h t0 v0 vx).mpr wl
      rw [if_pos g, if_pos g', if_pos wl, if_pos w', if_pos g, if_pos g', if_pos wl, if_pos w']
      refine ⟨⟨?_, ?_, ?_, ?_, ?_, fun q hq => ?_⟩, rfl⟩
      · simp +decide only [va_g, if_true, if_false]
      · simp +decide only [va_g, if_true, if_false]
      · rw [va_up_ne _ _ (by decide), va_up_ne _ _ (by decide), va_up_ne _ _ (by decide), va_up_ne _ _ (by omega), va_up_ne _ _ (by decide), va_up_ne _ _ (by decide), va_up_ne _ _ (by decide), va_up_ne _ _ (by omega), t2]
      · rw [va_up_ne _ _ (by decide), va_up_ne _ _ (by decide), va_up_ne _ _ (by decide), va_up_ne _ _ (by omega), va_up_ne _ _ (by decide), va_up_ne _ _ (by decide), va_up_ne _ _ (by decide), va_up_ne _ _ (by omega), t3]
      · rw [va_up_self, va_up_self, t4, shift4]
      · have s2 := ok.1 q hq
        rw [va_up_ne _ _ (by omega), va_up_ne _ _ (by omega), va_up_ne _ _ (by omega), va_up_ne _ _ (show s q ≠ 4 by omega), va_up_ne _ _ (show s q ≠ 1 by omega), va_up_ne _ _ (show s q ≠ 0 by omega)]
        by_cases z : q = p
        · subst z; rw [va_up_self, va_up_self, t0]
        · rw [va_up_ne _ _ (by omega), va_up_ne _ _ (fun y => z (ok.2 q p hq hp y))]
          exact t5 q hq
    · have w' := fun y => wl ((will_cg (mg := mg) h10 h t0 v0 vx).mp y)
      rw [if_pos g, if_pos g', if_neg wl, if_neg w', if_pos g, if_pos g', if_neg wl, if_neg w', t3]
      exact ⟨t, rfl⟩
  · have g' := fun y => g ((glad_cg (c := c) (hd := hd) h10 h t0 t1 t2 v0 vx).mp y)
    rw [if_neg g, if_neg g', if_neg g, if_neg g']
    exact ⟨t, rfl⟩
theorem step_cg {nt np p : Nat} {rb rb' th th' pe pe' : zF1} {c d : Int32} {s : Nat → Nat} {S S' : zF1 × Int32} (h10 : nt ≤ 10) (hr : rbE nt rb rb') (h : thE nt th th') (ok : sOK np s) (hp : p < np) (sp : s p = 5 + p) (e0 : pe (2 * p) = pe' (2 * p)) (e1 : pe (2 * p + 1) = pe' (2 * p + 1)) (t : trx np d s S.1 S'.1) (e : S.2 = S'.2) : trx np d s (stepF rb th pe c p S).1 (stepF rb' th' pe' c p S').1 ∧ (stepF rb th pe c p S).2 = (stepF rb' th' pe' c p S').2 := by
  obtain ⟨r0, r0', r2, r3⟩ := hr
  obtain ⟨t0, t1, t2, t3, t4, t5⟩ := id t
  have e5 := t5 p hp
  rw [sp] at e5
  unfold stepF
  rw [r0, r0', r2, t0, t3, e0, e1, e5, e]
  by_cases z : pe' (2 * p) = S'.1 3 ∧ (0 ≤ S'.1 0 ∧ S'.1 0 < nI nt) ∧ (0 ≤ S'.1 (5 + p) ∧ S'.1 (5 + p) < nI nt)
  · rw [if_pos z, if_pos z]
    have := off_cg (mg := pe' (2 * p + 1)) (hd := rb' 2) (c := c) (rf := S'.2) h10 h ok hp t z.2.1 (by rw [sp]; exact z.2.2)
    rw [sp] at this
    exact this
  · rw [if_neg z, if_neg z]
    exact ⟨t, e⟩
theorem peo_cg {nt np : Nat} {rb rb' th th' pe pe' : zF1} {c d : Int32} {s : Nat → Nat} {S S' : zF1 × Int32} (h10 : nt ≤ 10) (hr : rbE nt rb rb') (h : thE nt th th') (ok : sOK np s) (t : trx np d s S.1 S'.1) (e : S.2 = S'.2) : ∀ k, k ≤ np → (∀ p, p < k → s p = 5 + p) → (∀ q, q < 2 * k → pe q = pe' q) → trx np d s (peoF rb th pe c k S).1 (peoF rb' th' pe' c k S').1 ∧ (peoF rb th pe c k S).2 = (peoF rb' th' pe' c k S').2 := by
  intro k
  induction k with
  | zero => intro _ _ _; exact ⟨t, e⟩
  | succ k ih =>
    intro hk hs hpe
    obtain ⟨i1, i2⟩ := ih (by omega) (fun p hp => hs p (by omega)) (fun q hq => hpe q (by omega))
    exact step_cg h10 hr h ok (by omega) (hs k (by omega)) (hpe _ (by omega)) (hpe _ (by omega)) i1 i2
theorem well_cg {nt np : Nat} {rb rb' th th' T T' : zF1} {d : Int32} {s : Nat → Nat} (h10 : nt ≤ 10) (hr : rbE nt rb rb') (h : thE nt th th') (ok : sOK np s) (t : trx np d s T T') : trx np d s (wellF rb th T) (wellF rb' th' T') := by
  obtain ⟨r0, r0', r2, r3⟩ := hr
  obtain ⟨t0, t1, t2, t3, t4, t5⟩ := id t
  unfold wellF
  rw [r0, r0', r3, t0, t1, t3]
  by_cases v : 0 ≤ T' 0 ∧ T' 0 < nI nt
  · rw [felt_cg h (v_nat h10 v)]
    by_cases z : rb' 3 = T' 3 ∧ (0 ≤ T' 0 ∧ T' 0 < nI nt) ∧ 10 ≤ feltF th' (T' 0).toNatClampNeg 0 (T' 1)
    · rw [if_pos z, if_pos z]
      refine ⟨?_, ?_, ?_, ?_, ?_, fun q hq => ?_⟩
      · simp +decide only [va_g, if_true, if_false]
      · simp +decide only [va_g, if_true]
      · simp +decide only [va_g, if_false, t2]
      · simp +decide only [va_g, if_false, t3]
      · simp +decide only [va_g, if_false, t4]
      · have s2 := ok.1 q hq
        rw [va_up_ne _ _ (by omega), va_up_ne _ _ (by omega), va_up_ne _ _ (by omega), va_up_ne _ _ (by omega)]
        exact t5 q hq
    · rw [if_neg z, if_neg z]; exact t
  · rw [if_neg (fun z => v z.2.1), if_neg (fun z => v z.2.1)]; exact t
theorem feels_cg {nt np : Nat} {rb rb' th th' T T' : zF1} {c d : Int32} {s : Nat → Nat} (h10 : nt ≤ 10) (hr : rbE nt rb rb') (h : thE nt th th') (ok : sOK np s) (t : trx np d s T T') : trx np d s (feelsF rb th c T) (feelsF rb' th' c T') := by
  obtain ⟨r0, r0', r2, r3⟩ := hr
  obtain ⟨t0, t1, t2, t3, t4, t5⟩ := id t
  unfold feelsF
  rw [r0, r0', t0]
  by_cases v : 0 ≤ T' 0 ∧ T' 0 < nI nt
  · rw [if_pos v, if_pos v]
    unfold feelF
    rw [t0, t1, felt_cg h (v_nat h10 v), felt_cg h (v_nat h10 v)]
    refine ⟨?_, ?_, ?_, ?_, ?_, fun q hq => ?_⟩
    · simp +decide only [va_g, if_false, t0]
    · simp +decide only [va_g, if_true, if_false]
    · simp +decide only [va_g, if_true]
    · simp +decide only [va_g, if_false, t3]
    · simp +decide only [va_g, if_false, t4]
    · have s2 := ok.1 q hq
      rw [va_up_ne _ _ (by omega), va_up_ne _ _ (by omega), va_up_ne _ _ (by omega), va_up_ne _ _ (by omega)]
      exact t5 q hq
  · rw [if_neg v, if_neg v]; exact t
theorem end_cg {nt np : Nat} {rb rb' th th' : zF1} {d : Int32} {s : Nat → Nat} {S S' : zF1 × Int32} (h10 : nt ≤ 10) (hr : rbE nt rb rb') (h : thE nt th th') (ok : sOK np s) (t : trx np d s S.1 S'.1) (e : S.2 = S'.2) : trx np d s (endM rb th S).1 (endM rb' th' S').1 ∧ (endM rb th S).2 = (endM rb' th' S').2 := by
  have w := well_cg h10 hr h ok t
  obtain ⟨t0, t1, t2, t3, t4, t5⟩ := w
  unfold endM
  refine ⟨⟨?_, ?_, ?_, ?_, ?_, fun q hq => ?_⟩, e⟩
  · simp +decide only [va_g, if_false, t0]
  · simp +decide only [va_g, if_false, t1]
  · simp +decide only [va_g, if_false, t2]
  · simp +decide only [va_g, if_true, t3]
  · simp +decide only [va_g, if_false, t4]
  · have s2 := ok.1 q hq
    show va_up _ 3 _ (5 + q) = va_up _ 3 _ (s q)
    rw [va_up_ne _ _ (by omega), va_up_ne _ _ (by omega)]
    exact t5 q hq
theorem passF_end (rb th pe : zF1) (np : Nat) (c : Int32) (S : zF1 × Int32) : passF rb th pe np c S = endM rb th (peoF rb th pe c np (feelsF rb th c S.1, S.2)) := rfl
theorem pass_cg {nt np : Nat} {rb rb' th th' pe pe' : zF1} {c d : Int32} {S S' : zF1 × Int32} (h10 : nt ≤ 10) (hr : rbE nt rb rb') (h : thE nt th th') (hp : peE np pe pe') (t : trx np d s5 S.1 S'.1) (e : S.2 = S'.2) : trx np d s5 (passF rb th pe np c S).1 (passF rb' th' pe' np c S').1 ∧ (passF rb th pe np c S).2 = (passF rb' th' pe' np c S').2 := by
  rw [passF_end, passF_end]
  have ok := s5_ok np
  obtain ⟨a, b⟩ := peo_cg (S := (feelsF rb th c S.1, S.2)) (S' := (feelsF rb' th' c S'.1, S'.2)) (c := c) h10 hr h ok (feels_cg h10 hr h ok t) e np (Nat.le_refl _) (fun p _ => rfl) hp
  exact end_cg h10 hr h ok a b
theorem home_cg {nt np : Nat} {rb rb' th th' pe pe' : zF1} {d : Int32} (h10 : nt ≤ 10) (hr : rbE nt rb rb') (h : thE nt th th') (hp : peE np pe pe') : ∀ (k : Nat) (S S' : zF1 × Int32), trx np d s5 S.1 S'.1 → S.2 = S'.2 → trx np d s5 (homeF rb th pe np k S).1 (homeF rb' th' pe' np k S').1 ∧ (homeF rb th pe np k S).2 = (homeF rb' th' pe' np k S').2 := by
  intro k
  induction k with
  | zero => intro S S' t e; exact ⟨t, e⟩
  | succ k ih =>
    intro S S' t e
    obtain ⟨a, b⟩ := pass_cg (c := 1) h10 hr h hp t e
    exact ih _ _ a b
/-- one more person: behind all others here, aside there -/
theorem passM_cg {nt np : Nat} {rb rb' th th' pe pe' : zF1} {c d mo : Int32} {S S' : zF1 × Int32} (h10 : nt ≤ 10) (h8 : np ≤ 8) (hr : rbE nt rb rb') (h : thE nt th th') (hp : peE np pe pe') (m0 : pe (2 * np) = mo) (m1 : pe (2 * np + 1) = 0) (t : trx (np + 1) d (s13 np) S.1 S'.1) (e : S.2 = S'.2) : trx (np + 1) d (s13 np) (passF rb th pe (np + 1) c S).1 (passM rb' th' pe' np mo c S').1 ∧ (passF rb th pe (np + 1) c S).2 = (passM rb' th' pe' np mo c S').2 := by
  rw [passF_end, passM]
  have ok := s13_ok h8
  have sn : s13 np np = 13 := if_neg (by omega)
  obtain ⟨a, b⟩ := peo_cg (S := (feelsF rb th c S.1, S.2)) (S' := (feelsF rb' th' c S'.1, S'.2)) (c := c) h10 hr h ok (feels_cg h10 hr h ok t) e np (by omega) (fun p hp => if_pos hp) hp
  rw [peoF]
  generalize peoF rb th pe c np (feelsF rb th c S.1, S.2) = A at a b
  generalize peoF rb' th' pe' c np (feelsF rb' th' c S'.1, S'.2) = B at a b
  have key : trx (np + 1) d (s13 np) (stepF rb th pe c np A).1 (moreF rb' th' mo c B).1 ∧ (stepF rb th pe c np A).2 = (moreF rb' th' mo c B).2 := by
    obtain ⟨r0, r0', r2, r3⟩ := hr
    obtain ⟨t0, t1, t2, t3, t4, t5⟩ := id a
    have e5 := t5 np (by omega)
    rw [sn] at e5
    unfold stepF moreF
    rw [r0, r0', r2, t0, t3, m0, m1, e5, b]
    by_cases z : mo = B.1 3 ∧ (0 ≤ B.1 0 ∧ B.1 0 < nI nt) ∧ (0 ≤ B.1 13 ∧ B.1 13 < nI nt)
    · rw [if_pos z, if_pos z]
      have := off_cg (mg := 0) (hd := rb' 2) (c := c) (rf := B.2) (p := np) h10 h ok (by omega) a z.2.1 (by rw [sn]; exact z.2.2)
      rw [sn] at this
      exact this
    · rw [if_neg z, if_neg z]
      exact ⟨a, b⟩
  exact end_cg h10 hr h ok key.1 key.2
theorem homeM_cg {nt np : Nat} {rb rb' th th' pe pe' : zF1} {d mo : Int32} (h10 : nt ≤ 10) (h8 : np ≤ 8) (hr : rbE nt rb rb') (h : thE nt th th') (hp : peE np pe pe') (m0 : pe (2 * np) = mo) (m1 : pe (2 * np + 1) = 0) : ∀ (k : Nat) (S S' : zF1 × Int32), trx (np + 1) d (s13 np) S.1 S'.1 → S.2 = S'.2 → trx (np + 1) d (s13 np) (homeF rb th pe (np + 1) k S).1 (homeM rb' th' pe' np mo 0 k S').1 := by
  intro k
  induction k with
  | zero => intro S S' t e; exact t
  | succ k ih =>
    intro S S' t e
    obtain ⟨a, b⟩ := passM_cg (c := 1) h10 h8 hr h hp m0 m1 t e
    rw [homeM, coin_0]
    exact ih _ _ a b
theorem worth_cg {nt : Nat} {th th' : zF1} {x : Int32} (h10 : nt ≤ 10) (h : thE nt th th') (v : vx nt x) : worthO th (nI nt) x = wrt th' x := by
  unfold worthO wrt
  rcases v with rfl | ⟨j, hj, rfl⟩
  · rfl
  · rw [if_pos ⟨nI_pos' (by omega), nI_lt hj (by omega)⟩, if_neg (nI_pos (by omega)), nI_clamp (by omega)]
    exact h _ (by omega)
theorem who_cg {np : Nat} {d x : Int32} {T T' : zF1} (h8 : np ≤ 8) (t : trx np d s5 T T') : whoF T np x = -4 ↔ whoR T' x np = -4 := by
  obtain ⟨t0, t1, t2, t3, t4, t5⟩ := t
  rw [whoF_none h8, whoR_none' h8, t0]
  constructor
  · rintro ⟨a, b⟩; exact ⟨a, fun p hp z => b p hp ((t5 p hp).trans z)⟩
  · rintro ⟨a, b⟩; exact ⟨a, fun p hp z => b p hp ((t5 p hp).symm.trans z)⟩
/-- no thing is had by two -/
def uq (np : Nat) (T : zF1) : Prop := (∀ p, p < np → T (5 + p) = T 0 → T 0 = -4) ∧ ∀ p q, p < np → q < np → T (5 + p) = T (5 + q) → ¬ T (5 + p) = -4 → p = q
theorem whoR_at {T : zF1} {x : Int32} : ∀ {np : Nat}, (∀ p, p < np → ¬ T (5 + p) = x) → whoR T x np = if T 0 = x then 8 else -4 := by
  intro np
  induction np with
  | zero => intro _; rfl
  | succ np ih => intro h; rw [whoR, if_neg (h np (by omega))]; exact ih (fun p hp => h p (by omega))
theorem whoR_p {T : zF1} {x : Int32} {p : Nat} (hx : T (5 + p) = x) : ∀ {np : Nat}, p < np → (∀ q, p < q → q < np → ¬ T (5 + q) = x) → whoR T x np = nI p := by
  intro np
  induction np with
  | zero => intro h; omega
  | succ np ih =>
    intro h1 h2
    rw [whoR]
    by_cases z : p = np
    · subst z; rw [if_pos hx]
    · rw [if_neg (h2 np (by omega) (by omega))]
      exact ih (by omega) (fun q a b => h2 q a (by omega))
theorem whoL_p {T : zF1} {x : Int32} {p : Nat} (hx : T (5 + p) = x) : ∀ {j k : Nat}, k ≤ p → p < k + j → (∀ q, k ≤ q → q < p → ¬ T (5 + q) = x) → whoL T x j k = nI p := by
  intro j
  induction j with
  | zero => intro k a b; omega
  | succ j ih =>
    intro k a b h
    rw [whoL]
    by_cases z : k = p
    · subst z; rw [if_pos hx]
    · rw [if_neg (h k (by omega) (by omega))]
      exact ih (by omega) (by omega) (fun q c e => h q (by omega) e)
theorem who_eq {np : Nat} {d x : Int32} {T T' : zF1} (h8 : np ≤ 8) (t : trx np d s5 T T') (u : uq np T') (hx : ¬ x = -4) : whoF T np x = whoR T' x np := by
  obtain ⟨t0, t1, t2, t3, t4, t5⟩ := id t
  by_cases z : ∃ p, p < np ∧ T' (5 + p) = x
  · obtain ⟨p, hp, e⟩ := z
    have n0 : ¬ T' 0 = x := fun y => by
      have := u.1 p hp (e.trans y.symm)
      exact hx (y.symm.trans this)
    have un : ∀ q, q < np → T' (5 + q) = x → q = p := fun q hq y => u.2 q p hq hp (y.trans e.symm) (by rw [y]; exact hx)
    rw [whoR_p e hp (fun q a b y => by have := un q b y; omega)]
    unfold whoF
    rw [if_neg (by rw [t0]; exact n0)]
    exact whoL_p ((t5 p hp).trans e) (Nat.zero_le _) (by omega) (fun q a b y => by have := un q (by omega) ((t5 q (by omega)).symm.trans y); omega)
  · have zz : ∀ p, p < np → ¬ T' (5 + p) = x := fun p hp y => z ⟨p, hp, y⟩
    rw [whoR_at zz]
    unfold whoF
    rw [t0]
    by_cases y : T' 0 = x
    · rw [if_pos y, if_pos y]
    · rw [if_neg y, if_neg y]
      exact (whoL_none (by omega)).mpr (fun p _ hp q => zz p (by omega) ((t5 p (by omega)).symm.trans q))
end
section
/-! answers that are told ahead, alike on both sides -/
def nz (T : zF1) : Prop := T 0 = -4 → T 1 = 0
theorem uq_off {np p : Nat} {th T : zF1} {mg hd c : Int32} (u : uq np T) (hp : p < np) : uq np (offT th mg hd c (5 + p) T) := by
  unfold offT
  split
  · split
    · obtain ⟨u1, u2⟩ := u
      have e0 : ∀ v, (va_up (va_up (va_up (va_up T (5 + p) (T 0)) 0 (T (5 + p))) 1 0) 4 v) 0 = T (5 + p) := fun v => by simp +decide only [va_g, if_true, if_false]
      have ep : ∀ v, (va_up (va_up (va_up (va_up T (5 + p) (T 0)) 0 (T (5 + p))) 1 0) 4 v) (5 + p) = T 0 := fun v => by rw [va_up_ne _ _ (by omega), va_up_ne _ _ (by omega), va_up_ne _ _ (by omega), va_up_self]
      have eq : ∀ v q, q ≠ p → (va_up (va_up (va_up (va_up T (5 + p) (T 0)) 0 (T (5 + p))) 1 0) 4 v) (5 + q) = T (5 + q) := fun v q hq => by rw [va_up_ne _ _ (by omega), va_up_ne _ _ (by omega), va_up_ne _ _ (by omega), va_up_ne _ _ (by omega)]
      refine ⟨fun q hq h => ?_, fun q r hq hr h hn => ?_⟩
      · rw [e0] at h ⊢
        by_cases z : q = p
        · subst z
          rw [ep] at h
          rw [← h]
          exact u1 q hq h.symm
        · rw [eq _ _ z] at h
          by_cases y : T (5 + p) = -4
          · exact y
          · exact absurd (u2 q p hq hp h (by rw [h]; exact y)) z
      · by_cases z : q = p
        · by_cases y : r = p
          · omega
          · subst z
            rw [ep, eq _ _ y] at h
            rw [ep] at hn
            exact absurd (u1 r hr h.symm) hn
        · by_cases y : r = p
          · subst y
            rw [ep, eq _ _ z] at h
            rw [eq _ _ z] at hn
            exact absurd (h.trans (u1 q hq h)) hn
          · rw [eq _ _ z, eq _ _ y] at h
            rw [eq _ _ z] at hn
            exact u2 q r hq hr h hn
    · exact u
  · exact u
theorem uq_eq {np : Nat} {T T' : zF1} (u : uq np T) (h0 : T' 0 = T 0) (h5 : ∀ p, p < np → T' (5 + p) = T (5 + p)) : uq np T' := by
  refine ⟨fun p hp h => ?_, fun p q hp hq h hn => ?_⟩
  · rw [h5 p hp, h0] at h; rw [h0]; exact u.1 p hp h
  · rw [h5 p hp, h5 q hq] at h; rw [h5 p hp] at hn; exact u.2 p q hp hq h hn
theorem uq_m {np : Nat} {T T' : zF1} (u : uq np T) (h0 : T' 0 = -4) (h5 : ∀ p, p < np → T' (5 + p) = T (5 + p)) : uq np T' := by
  refine ⟨fun p hp h => h0, fun p q hp hq h hn => ?_⟩
  rw [h5 p hp, h5 q hq] at h; rw [h5 p hp] at hn; exact u.2 p q hp hq h hn
theorem uq_peo {np : Nat} {rb th pe : zF1} {c : Int32} {S : zF1 × Int32} (u : uq np S.1) (z : nz S.1) : ∀ k, k ≤ np → uq np (peoF rb th pe c k S).1 ∧ nz (peoF rb th pe c k S).1 := by
  intro k
  induction k with
  | zero => intro _; exact ⟨u, z⟩
  | succ k ih =>
    intro hk
    obtain ⟨i1, i2⟩ := ih (by omega)
    rw [peoF, stepF]
    split
    · refine ⟨uq_off i1 (by omega), ?_⟩
      show nz (offT _ _ _ _ _ _)
      unfold offT
      split
      · split
        · intro _; simp +decide only [va_g, if_true, if_false]
        · exact i2
      · exact i2
    · exact ⟨i1, i2⟩
theorem uq_pass {np : Nat} {rb th pe : zF1} {c : Int32} {S : zF1 × Int32} (u : uq np S.1) (z : nz S.1) : uq np (passF rb th pe np c S).1 ∧ nz (passF rb th pe np c S).1 := by
  rw [passF_end]
  have f : uq np (feelsF rb th c S.1) ∧ nz (feelsF rb th c S.1) := by
    unfold feelsF
    split
    · next v =>
      unfold feelF
      refine ⟨uq_eq u (by simp +decide only [va_g, if_false]) (fun p hp => by rw [va_up_ne _ _ (by omega), va_up_ne _ _ (by omega)]), fun h => ?_⟩
      have h : S.1 0 = -4 := by simpa +decide only [va_g, if_false] using h
      rw [h] at v
      exact absurd v.1 (by decide)
    · exact ⟨u, z⟩
  obtain ⟨p1, p2⟩ := uq_peo (rb := rb) (th := th) (pe := pe) (c := c) (S := (feelsF rb th c S.1, S.2)) f.1 f.2 np (Nat.le_refl _)
  generalize peoF rb th pe c np (feelsF rb th c S.1, S.2) = A at p1 p2
  unfold endM
  have wl : uq np (wellF rb th A.1) ∧ nz (wellF rb th A.1) := by
    unfold wellF
    split
    · exact ⟨uq_m p1 (by simp +decide only [va_g, if_true, if_false]) (fun p hp => by rw [va_up_ne _ _ (by omega), va_up_ne _ _ (by omega)]), fun _ => by simp +decide only [va_g, if_true]⟩
    · exact ⟨p1, p2⟩
  refine ⟨uq_eq wl.1 (by simp +decide only [va_g, if_false]) (fun p hp => va_up_ne _ _ (by omega)), fun h => ?_⟩
  have h : wellF rb th A.1 0 = -4 := by simpa +decide only [va_g, if_false] using h
  show va_up (wellF rb th A.1) 3 (wellF rb th A.1 3 + 1) 1 = 0
  rw [va_up_ne _ _ (by decide)]
  exact wl.2 h
theorem firstL_cg {V Q V' Q' : Nat → Int32} {x : Int32} {nt : Nat} (h : ∀ k, k < nt → (V k = -4 ↔ V' k = -4) ∧ Q k = Q' k) : ∀ (j k : Nat) (s : Int32), k + j ≤ nt → firstL V Q x j k s = firstL V' Q' x j k s := by
  intro j
  induction j with
  | zero => intro k s _; rfl
  | succ j ih =>
    intro k s hk
    obtain ⟨a, b⟩ := h k (by omega)
    rw [firstL, firstL, ih _ _ (by omega), b]
    by_cases z : V k = -4
    · by_cases y : Q' k = x
      · rw [if_pos ⟨z, y⟩, if_pos ⟨a.mp z, y⟩]
      · rw [if_neg (fun q => y q.2), if_neg (fun q => y q.2)]
    · rw [if_neg (fun q => z q.1), if_neg (fun q => z (a.mpr q.1))]
theorem cht_cg {W : Nat → Int32} {v : Int32} (hW : ∀ h, h < 100 → -1000 < W h) : ∀ (j h : Nat) (s s' : Int32 × Int32), h + j ≤ 100 → s.1 = s'.1 → (s.1 = -4 ∧ s'.2 = -1000 ∨ ¬ s.1 = -4 ∧ s.2 = s'.2) → (heedL W v j h s).1 = (chtL W v j h s').1 := by
  intro j
  induction j with
  | zero => intro h s s' _ e _; exact e
  | succ j ih =>
    intro h s s' hj e q
    rw [heedL, chtL]
    have hn : ¬ nI h = -4 := (by decide : ∀ h, h < 100 → ¬ nI h = -4) h (by omega)
    by_cases z : W h ≤ v ∧ (s.1 = -4 ∨ s.2 < W h)
    · have z' : W h ≤ v ∧ s'.2 < W h := by
        refine ⟨z.1, ?_⟩
        rcases q with ⟨q1, q2⟩ | ⟨q1, q2⟩
        · rw [q2]; exact hW h (by omega)
        · rw [← q2]; exact z.2.resolve_left q1
      rw [if_pos z, if_pos z']
      exact ih _ _ _ (by omega) rfl (Or.inr ⟨hn, rfl⟩)
    · have z' : ¬ (W h ≤ v ∧ s'.2 < W h) := fun y => z ⟨y.1, by
        rcases q with ⟨q1, q2⟩ | ⟨q1, q2⟩
        · exact Or.inl q1
        · rw [q2]; exact Or.inr y.2⟩
      rw [if_neg z, if_neg z']
      exact ih _ _ _ (by omega) e q
theorem standL_cg {W W' : Nat → Int32} (h : ∀ k, W k = W' k) : ∀ (j k : Nat) (s : Int32 × Int32), standL W j k s = standL W' j k s := by
  have : W = W' := funext h
  subst this
  intro j k s
  rfl
theorem standL_1 {W : Nat → Int32} (h : ∀ k, -1 < W k) (j k : Nat) (m m' : Int32) : standL W (j + 1) k (-1, m) = standL W (j + 1) k (-1, m') := by
  rw [standL, standL, if_pos (h k), if_pos (h k)]
theorem wait_cg {wo wo' : Int32 → Int32} {V V' S : Nat → Int32} {nt : Nat} (hw : ∀ x, vx nt x → wo x = wo' x) (hV : ∀ k, k < nt → (V k = -4 ↔ V' k = -4)) (h10 : nt ≤ 10) : ∀ (j k : Nat) (s s' : Int32 × Int32), k + j ≤ nt → s.1 = s'.1 → vx nt s.1 → (¬ s.1 = -4 → s.2 = s'.2) → (s'.1 = -4 → s'.2 = -4) → (waitL wo V S j k s).1 = (waitL wo' V' S j k s').1 ∧ (¬ (waitL wo V S j k s).1 = -4 → (waitL wo V S j k s).2 = (waitL wo' V' S j k s').2) ∧ ((waitL wo' V' S j k s').1 = -4 → (waitL wo' V' S j k s').2 = -4) := by
  intro j
  induction j with
  | zero => intro k s s' _ a _ b c; exact ⟨a, b, c⟩
  | succ j ih =>
    intro k s s' hk a v b c
    rw [waitL, waitL]
    have vk : vx nt (nI k) := Or.inr ⟨k, by omega, rfl⟩
    have hn : ¬ nI k = -4 := (by decide : ∀ h, h < 10 → ¬ nI h = -4) k (by omega)
    have eq : ((s.1 = -4 ∨ wo (nI k) < wo s.1) ∧ V k = -4) ↔ ((s'.1 = -4 ∨ wo' (nI k) < wo' s'.1) ∧ V' k = -4) := by
      rw [hw _ vk, hw _ v, a, hV k (by omega)]
    by_cases z : (s.1 = -4 ∨ wo (nI k) < wo s.1) ∧ V k = -4
    · rw [if_pos z, if_pos (eq.mp z)]
      by_cases y : S k < 0
      · rw [if_pos y, if_pos y]; exact ih _ _ _ (by omega) a v b c
      · rw [if_neg y, if_neg y]
        exact ih _ _ _ (by omega) rfl vk (fun _ => rfl) (fun q => absurd q hn)
    · rw [if_neg z, if_neg (fun q => z (eq.mpr q))]
      exact ih _ _ _ (by omega) a v b c
/-- two who meet -/
def mr (A B : zF1) (h1 h2 : Int32) (P : zF1) : Prop := P 0 = A 0 ∧ P 1 = A 1 ∧ P 2 = A 2 ∧ P 3 = h1 ∧ P 4 = B 0 ∧ P 5 = B 1 ∧ P 6 = B 2 ∧ P 7 = h2
theorem times1 (m : Int32) : timesF 1 m = 1 := by unfold timesF; split <;> rfl
theorem turn_gl {nt : Nat} {th th' A P : zF1} {x hd : Int32} {a b : Nat} (h10 : nt ≤ 10) (h : thE nt th th') (a0 : P a = A 0) (a1 : P (a + 1) = A 1) (a3 : P (a + 3) = hd) (b0 : P b = x) (v0 : 0 ≤ A 0 ∧ A 0 < nI nt) (v1 : 0 ≤ x ∧ x < nI nt) : (gladF th 1 hd (feelF th 1 A) x ↔ trnP th' P a b) ∧ feelF th 1 A 2 = trnm th' P a := by
  have j0 := v_nat h10 v0
  have jx := v_nat h10 v1
  have e0 : feelF th 1 A 0 = A 0 := feelF_0 _ _ _
  have e1 : feelF th 1 A 1 = A 1 + 1 := by unfold feelF; simp +decide only [va_g, if_true, if_false]
  have tM : trnM th' P a ↔ feltF th' (A 0).toNatClampNeg 0 (A 1 + 1) < feltF th' (A 0).toNatClampNeg 1 (A 1 + 1) := by unfold trnM; rw [a0, a1]
  have hm : feelF th 1 A 2 = trnm th' P a := by
    unfold feelF trnm
    rw [va_up_self, Int32.mul_one, felt_cg h j0, felt_cg h j0]
    by_cases z : feltF th' (A 0).toNatClampNeg 0 (A 1 + 1) < feltF th' (A 0).toNatClampNeg 1 (A 1 + 1)
    · rw [if_neg (Int32.not_le.mpr z), if_pos (tM.mpr z)]
    · rw [if_pos (Int32.not_lt.mp z), if_neg (fun y => z (tM.mp y))]
  refine ⟨?_, hm⟩
  have wv : ∀ y : Int32, (0 ≤ y ∧ y < nI nt) → th (4 * y.toNatClampNeg + 1) = wrt th' y := fun y hy => by
    unfold wrt
    rw [if_neg (Int32.not_lt.mpr hy.1)]
    exact h _ (by have := v_nat h10 hy; omega)
  have tr : trnP th' P a b ↔ feltF th' x.toNatClampNeg (trnm th' P a) 0 < feltF th' (A 0).toNatClampNeg (trnm th' P a) (A 1 + 1) ∧ wrt th' (A 0) - wrt th' x ≤ hd := by
    by_cases z : trnM th' P a
    · have e : trnm th' P a = 1 := if_pos z
      unfold trnP
      rw [if_pos z, e, b0, a0, a1, a3]
    · have e : trnm th' P a = 0 := if_neg z
      unfold trnP
      rw [if_neg z, e, b0, a0, a1, a3]
  rw [tr]
  unfold gladF
  rw [e0, e1, hm, times1, Int32.mul_one, wv _ v0, wv _ v1, felt_cg h jx, felt_cg h j0]
theorem turn_A {nt : Nat} {th th' A B P : zF1} {hd h2 : Int32} (h10 : nt ≤ 10) (h : thE nt th th') (m : mr A B hd h2 P) (v0 : 0 ≤ A 0 ∧ A 0 < nI nt) (v1 : 0 ≤ B 0 ∧ B 0 < nI nt) : (turnC th hd A B = 0 ↔ ¬ trnP th' P 0 4) ∧ mr (turnA th hd A B) (turnB th hd A B) hd h2 (trnF th' P 0 4) := by
  obtain ⟨m0, m1, m2, m3, m4, m5, m6, m7⟩ := m
  obtain ⟨g, e⟩ := turn_gl (a := 0) (b := 4) h10 h m0 m1 m3 m4 v0 v1
  have e1 : feelF th 1 A 1 = A 1 + 1 := by unfold feelF; simp +decide only [va_g, if_true, if_false]
  refine ⟨?_, ?_⟩
  · unfold turnC; rw [bI_0, g]
  · unfold turnA turnB trnF
    by_cases z : trnP th' P 0 4
    · rw [if_pos z, if_pos (g.mpr z), if_pos (g.mpr z)]
      unfold trn1
      refine ⟨?_, ?_, ?_, ?_, ?_, ?_, ?_, ?_⟩ <;> simp +decide only [va_g, if_true, if_false] <;> first | assumption | exact e.symm
    · rw [if_neg z, if_neg (fun y => z (g.mp y)), if_neg (fun y => z (g.mp y))]
      unfold trn1
      refine ⟨?_, ?_, ?_, ?_, ?_, ?_, ?_, ?_⟩ <;> simp +decide only [va_g, if_true, if_false] <;> first | assumption | exact e.symm | (rw [feelF_0]; exact m0) | (rw [e1, m1])
theorem turn_B {nt : Nat} {th th' A B P : zF1} {hd h2 : Int32} (h10 : nt ≤ 10) (h : thE nt th th') (m : mr A B hd h2 P) (v0 : 0 ≤ A 0 ∧ A 0 < nI nt) (v1 : 0 ≤ B 0 ∧ B 0 < nI nt) : (turnC th h2 B A = 0 ↔ ¬ trnP th' P 4 0) ∧ mr (turnB th h2 B A) (turnA th h2 B A) hd h2 (trnF th' P 4 0) := by
  obtain ⟨m0, m1, m2, m3, m4, m5, m6, m7⟩ := m
  obtain ⟨g, e⟩ := turn_gl (a := 4) (b := 0) h10 h m4 m5 m7 m0 v1 v0
  have e1 : feelF th 1 B 1 = B 1 + 1 := by unfold feelF; simp +decide only [va_g, if_true, if_false]
  refine ⟨?_, ?_⟩
  · unfold turnC; rw [bI_0, g]
  · unfold turnA turnB trnF
    by_cases z : trnP th' P 4 0
    · rw [if_pos z, if_pos (g.mpr z), if_pos (g.mpr z)]
      unfold trn1
      refine ⟨?_, ?_, ?_, ?_, ?_, ?_, ?_, ?_⟩ <;> simp +decide only [va_g, if_true, if_false] <;> first | assumption | exact e.symm
    · rw [if_neg z, if_neg (fun y => z (g.mp y)), if_neg (fun y => z (g.mp y))]
      unfold trn1
      refine ⟨?_, ?_, ?_, ?_, ?_, ?_, ?_, ?_⟩ <;> simp +decide only [va_g, if_true, if_false] <;> first | assumption | exact e.symm | (rw [feelF_0]; exact m4) | (rw [e1, m5])
theorem tA_v {nt : Nat} {th A B : zF1} {hd : Int32} (v0 : 0 ≤ A 0 ∧ A 0 < nI nt) (v1 : 0 ≤ B 0 ∧ B 0 < nI nt) : (0 ≤ turnA th hd A B 0 ∧ turnA th hd A B 0 < nI nt) ∧ (0 ≤ turnB th hd A B 0 ∧ turnB th hd A B 0 < nI nt) := by
  unfold turnA turnB
  split
  · exact ⟨by simpa +decide only [va_g, if_true, if_false] using v1, by simpa +decide only [va_g, if_true, if_false] using v0⟩
  · rw [feelF_0]; exact ⟨v0, v1⟩
theorem mtL_2 (th : zF1) (r n : Nat) (P : zF1) : mtL th r n P 2 = (n, P, 2) := by
  cases r with
  | zero => rfl
  | succ r => rw [mtL, if_neg (by decide)]
theorem meet_cg {nt : Nat} {th th' : zF1} {hd : Int32} (h10 : nt ≤ 10) (h : thE nt th th') : ∀ (j n : Nat) (A B : zF1) (q : Int32) (P : zF1), (q = 0 ∨ q = 1) → mr A B hd 99 P → (0 ≤ A 0 ∧ A 0 < nI nt) → (0 ≤ B 0 ∧ B 0 < nI nt) → ((mtL th' j n P q).2.2 < 2 ∧ (meetL th hd j (n + 1) (A, B, q)).1 = -4) ∨ (¬ (mtL th' j n P q).2.2 < 2 ∧ (meetL th hd j (n + 1) (A, B, q)).1 = nI (mtL th' j n P q).1 ∧ (mtL th' j n P q).1 ≤ n + j ∧ (meetL th hd j (n + 1) (A, B, q)).2.1 0 = (mtL th' j n P q).2.1 0 ∧ (meetL th hd j (n + 1) (A, B, q)).2.2 0 = (mtL th' j n P q).2.1 4) := by
  intro j
  induction j with
  | zero =>
    intro n A B q P hq m v0 v1
    refine Or.inl ⟨?_, rfl⟩
    show q < 2
    rcases hq with rfl | rfl <;> decide
  | succ j ih =>
    intro n A B q P hq m v0 v1
    have q2 : q < 2 := by rcases hq with rfl | rfl <;> decide
    have q01 : ∀ (z : Prop) [Decidable z], (if z then q + 1 else 0) = 2 ∨ (if z then q + 1 else 0) = 0 ∨ (if z then q + 1 else 0) = 1 := fun z _ => by
      by_cases y : z
      · rw [if_pos y]; rcases hq with rfl | rfl <;> simp
      · rw [if_neg y]; simp
    rw [meetL, mtL, if_pos q2]
    dsimp only
    by_cases z : n % 2 = 0
    · rw [if_pos z, if_pos (show (n + 1) % 2 = 1 by omega)]
      obtain ⟨g, mr2⟩ := turn_A h10 h m v0 v1
      obtain ⟨w0, w1⟩ := tA_v (th := th) (hd := hd) v0 v1
      have eq : mtN (trnP th' P 0 4) q = if turnC th hd A B = 0 then q + 1 else 0 := by
        unfold mtN
        by_cases y : trnP th' P 0 4
        · rw [if_pos y, if_neg (fun c => g.mp c y)]
        · rw [if_neg y, if_pos (g.mpr y)]
      have yy := q01 (turnC th hd A B = 0)
      rw [eq]
      clear eq g
      generalize (if turnC th hd A B = 0 then q + 1 else 0) = q' at yy ⊢
      rcases yy with rfl | y
      · rw [if_pos rfl, mtL_2]
        dsimp only
        exact Or.inr ⟨by decide, rfl, by omega, mr2.1.symm, mr2.2.2.2.2.1.symm⟩
      · rw [if_neg (show ¬ q' = 2 by rcases y with y | y <;> rw [y] <;> decide)]
        have := ih (n + 1) (turnA th hd A B) (turnB th hd A B) _ _ y mr2 w0 w1
        rw [show n + (j + 1) = n + 1 + j by omega]
        exact this
    · rw [if_neg z, if_neg (show ¬ (n + 1) % 2 = 1 by omega)]
      obtain ⟨g, mr2⟩ := turn_B h10 h m v0 v1
      obtain ⟨w0, w1⟩ := tA_v (th := th) (hd := 99) v1 v0
      have eq : mtN (trnP th' P 4 0) q = if turnC th 99 B A = 0 then q + 1 else 0 := by
        unfold mtN
        by_cases y : trnP th' P 4 0
        · rw [if_pos y, if_neg (fun c => g.mp c y)]
        · rw [if_neg y, if_pos (g.mpr y)]
      have yy := q01 (turnC th 99 B A = 0)
      rw [eq]
      clear eq g
      generalize (if turnC th 99 B A = 0 then q + 1 else 0) = q' at yy ⊢
      rcases yy with rfl | y
      · rw [if_pos rfl, mtL_2]
        dsimp only
        exact Or.inr ⟨by decide, rfl, by omega, mr2.1.symm, mr2.2.2.2.2.1.symm⟩
      · rw [if_neg (show ¬ q' = 2 by rcases y with y | y <;> rw [y] <;> decide)]
        have := ih (n + 1) (turnB th 99 B A) (turnA th 99 B A) _ _ y mr2 w1 w0
        rw [show n + (j + 1) = n + 1 + j by omega]
        exact this
end
section
/-! cares by chance: rows of coins, one by one, and forks -/
def hC (rb th pe : zF1) (np : Nat) (c : Nat → Int32) : Nat → Nat → zF1 × Int32 → zF1 × Int32
  | 0, _, s => s
  | k + 1, m, s => hC rb th pe np c k (m + 1) (passF rb th pe np (c m) s)
theorem homeM_C (rb th pe : zF1) (np : Nat) (ts : Int32) : ∀ (k m : Nat) (s : zF1 × Int32), s.1 3 = nI m → m + k ≤ 12 → homeM rb th pe np (-4) ts k s = hC rb th pe np (fun i => coinF ts (nI i)) k m s := by
  intro k
  induction k with
  | zero => intro m s _ _; rfl
  | succ k ih =>
    intro m s h hk
    rw [homeM, hC, passM_F _ _ _ _ _ h (by omega), h]
    exact ih (m + 1) _ (by rw [passF_3, h, nI_1]) (by omega)
theorem hC_cg (rb th pe : zF1) (np : Nat) {c c' : Nat → Int32} : ∀ (k m : Nat) (s : zF1 × Int32), (∀ i, m ≤ i → i < m + k → c i = c' i) → hC rb th pe np c k m s = hC rb th pe np c' k m s := by
  intro k
  induction k with
  | zero => intro m s _; rfl
  | succ k ih =>
    intro m s h
    rw [hC, hC, h m (by omega) (by omega)]
    exact ih (m + 1) _ (fun i a b => h i (by omega) (by omega))
theorem hC_fst (rb th pe : zF1) (np : Nat) (c : Nat → Int32) : ∀ (k m : Nat) (s s' : zF1 × Int32), s.1 = s'.1 → (hC rb th pe np c k m s).1 = (hC rb th pe np c k m s').1 := by
  intro k
  induction k with
  | zero => intro m s s' h; exact h
  | succ k ih => intro m s s' h; exact ih _ _ _ (by rw [passF_fst, passF_fst, h])
theorem coin_sh : ∀ m, m < 12 → ((nI m &&& 31).toBitVec.smod 32).toNat = m := by decide
theorem coin_row {r a i : Nat} (hr : r < 1024) (ha : a ≤ i) (hi : i < 12) : coinF (nI r <<< (nI a &&& 31)) (nI i) = nI (1 + r / 2 ^ (i - a) % 2) := by
  unfold coinF
  have hp : 2 ^ a ≤ 2 ^ 11 := Nat.pow_le_pow_right (by decide) (by omega)
  have hb : r * 2 ^ a < 2 ^ 22 := Nat.lt_of_lt_of_le (Nat.mul_lt_mul_of_pos_right hr (Nat.two_pow_pos a)) (by omega)
  rw [pk_shlN _ a (coin_sh a (by omega)) (by omega), pk_shrN (by omega) _ i (coin_sh i hi)]
  have hq : r * 2 ^ a / 2 ^ i = r / 2 ^ (i - a) := by
    have e : 2 ^ i = 2 ^ a * 2 ^ (i - a) := by rw [← Nat.pow_add, show a + (i - a) = i by omega]
    rw [e, Nat.mul_comm r, Nat.mul_div_mul_left _ _ (Nat.two_pow_pos a)]
  have h31 : r * 2 ^ a / 2 ^ i < 2 ^ 32 := Nat.lt_of_le_of_lt (Nat.div_le_self _ _) (by omega)
  rw [pk_andN h31 1 (by decide), hq, nI_1, Nat.add_comm]
/-- which thing he brings home by a row of coins, the lowest first -/
def wC (rb th pe : zF1) (np n m : Nat) (T : zF1) (r : Nat) : Int32 := (hC rb th pe np (fun i => nI (1 + r / 2 ^ (i - m) % 2)) n m (T, 0)).1 0
theorem wC_s (rb th pe : zF1) (np n m : Nat) (T : zF1) (r : Nat) : wC rb th pe np (n + 1) m T r = wC rb th pe np n (m + 1) (passT rb th pe np (nI (1 + r % 2)) T) (r / 2) := by
  unfold wC
  rw [hC]
  have e : ∀ i, m + 1 ≤ i → i < m + 1 + n → nI (1 + r / 2 ^ (i - m) % 2) = nI (1 + r / 2 / 2 ^ (i - (m + 1)) % 2) := fun i a _ => by
    rw [show i - m = (i - (m + 1)) + 1 by omega, Nat.pow_succ, Nat.mul_comm, ← Nat.div_div_eq_div_mul]
  rw [hC_cg rb th pe np n (m + 1) _ e, Nat.sub_self, Nat.pow_zero, Nat.div_one]
  exact congrFun (hC_fst rb th pe np _ n (m + 1) (passF rb th pe np (nI (1 + r % 2)) (T, 0)) (passT rb th pe np (nI (1 + r % 2)) T, 0) rfl) 0
theorem chN_cg {Q Q' : Nat → Int32} {x : Int32} : ∀ n, (∀ r, r < n → Q r = Q' r) → chN Q x n = chN Q' x n := by
  intro n
  induction n with
  | zero => intro _; rfl
  | succ n ih => intro h; rw [chN, chN, ih (fun r hr => h r (by omega)), h n (by omega)]
theorem chN_2 (Q : Nat → Int32) (x : Int32) : ∀ n, chN Q x (2 * n) = chN (fun i => Q (2 * i)) x n + chN (fun i => Q (2 * i + 1)) x n := by
  intro n
  induction n with
  | zero => rfl
  | succ n ih =>
    rw [show 2 * (n + 1) = 2 * n + 1 + 1 by omega, chN, chN, ih, chN, chN]
    omega
theorem eq2_pass {rb th pe : zF1} {np : Nat} {c : Int32} {T T' : zF1} (h : ∀ i, i ≠ 2 → T i = T' i) : ∀ i, i ≠ 2 → passT rb th pe np c T i = passT rb th pe np c T' i := by
  have h0 := h 0 (by decide)
  by_cases v : 0 ≤ T 0 ∧ T 0 < rb 0
  · have e : feelsF rb th c T = feelsF rb th c T' := by
      unfold feelsF
      rw [if_pos v, if_pos (by rw [← h0]; exact v)]
      unfold feelF
      rw [h0, h 1 (by decide)]
      funext i
      by_cases z : i = 2
      · subst z; rw [va_up_self, va_up_self]
      · rw [va_up_ne _ _ z, va_up_ne _ _ z]
        by_cases y : i = 1
        · subst y; rw [va_up_self, va_up_self]
        · rw [va_up_ne _ _ y, va_up_ne _ _ y]; exact h i z
    intro i _
    unfold passT
    rw [passF_end, passF_end]
    dsimp only
    rw [e]
  · have nop : ∀ (U : zF1), U 0 = T 0 → passT rb th pe np c U = va_up U 3 (U 3 + 1) := by
      intro U hU
      have vU : ¬ (0 ≤ U 0 ∧ U 0 < rb 0) := by rw [hU]; exact v
      have pk : ∀ k, peoF rb th pe c k (U, 0) = (U, 0) := by
        intro k
        induction k with
        | zero => rfl
        | succ k ih => rw [peoF, ih, stepF, if_neg (fun q => vU q.2.1)]
      unfold passT
      rw [passF_end, feelsF, if_neg vU]
      dsimp only
      rw [pk, endM, wellF, if_neg (fun q => vU q.2.1)]
    intro i hi
    rw [nop T rfl, nop T' h0.symm]
    by_cases z : i = 3
    · subst z; rw [va_up_self, va_up_self, h 3 (by decide)]
    · rw [va_up_ne _ _ z, va_up_ne _ _ z]; exact h i hi
theorem eq2_ways {rb th pe : zF1} {np : Nat} {x : Int32} : ∀ (j : Nat) (T T' : zF1), (∀ i, i ≠ 2 → T i = T' i) → waysF rb th pe np x j T = waysF rb th pe np x j T' := by
  intro j
  induction j with
  | zero => intro T T' h; rw [waysF, waysF, h 0 (by decide)]
  | succ j ih =>
    intro T T' h
    rw [waysF, waysF, h 0 (by decide), h 3 (by decide), ih _ _ (eq2_pass (c := 1) h), ih _ _ (eq2_pass (c := 2) h)]
theorem peoB_0 {pe : zF1} {m : Int32} : ∀ {j k : Nat}, peoB pe m j k = 0 → ∀ p, k ≤ p → p < k + j → ¬ pe (2 * p) = m := by
  intro j
  induction j with
  | zero => intro k _ p a b; omega
  | succ j ih =>
    intro k h p a b
    rw [peoB] at h
    by_cases z : pe (2 * k) = m
    · rw [if_pos z] at h; exact absurd h (by decide)
    · rw [if_neg z] at h
      by_cases y : p = k
      · subst y; exact z
      · exact ih h p (by omega) (by omega)
theorem eq2_none {rb th pe : zF1} {np : Nat} {c c' : Int32} {T : zF1} (h : peoB pe (T 3) np 0 = 0) : ∀ i, i ≠ 2 → passT rb th pe np c T i = passT rb th pe np c' T i := by
  have pk : ∀ (U : zF1), U 3 = T 3 → ∀ cc k, k ≤ np → peoF rb th pe cc k (U, 0) = (U, 0) := by
    intro U hU cc k
    induction k with
    | zero => intro _; rfl
    | succ k ih => intro hk; rw [peoF, ih (by omega), stepF, if_neg (fun q => peoB_0 h k (by omega) (by omega) (q.1.trans hU))]
  intro i hi
  unfold passT
  rw [passF_end, passF_end]
  dsimp only
  rw [pk _ (feels_3 rb th c T) c np (Nat.le_refl _), pk _ (feels_3 rb th c' T) c' np (Nat.le_refl _)]
  have fe : ∀ q, q ≠ 2 → feelsF rb th c T q = feelsF rb th c' T q := by
    intro q hq
    unfold feelsF
    split
    · unfold feelF; rw [va_up_ne _ _ hq, va_up_ne _ _ hq]
    · rfl
  unfold endM
  have we : ∀ q, q ≠ 2 → wellF rb th (feelsF rb th c T) q = wellF rb th (feelsF rb th c' T) q := by
    intro q hq
    unfold wellF
    rw [fe 0 (by decide), fe 1 (by decide), fe 3 (by decide)]
    split
    · by_cases z : q = 1
      · subst z; rw [va_up_self, va_up_self]
      · rw [va_up_ne _ _ z, va_up_ne _ _ z]
        by_cases y : q = 0
        · subst y; rw [va_up_self, va_up_self]
        · rw [va_up_ne _ _ y, va_up_ne _ _ y]; exact fe q hq
    · exact fe q hq
  by_cases z : i = 3
  · subst z
    show va_up (wellF rb th (feelsF rb th c T)) 3 (wellF rb th (feelsF rb th c T) 3 + 1) 3 = va_up (wellF rb th (feelsF rb th c' T)) 3 (wellF rb th (feelsF rb th c' T) 3 + 1) 3
    rw [va_up_self, va_up_self, we 3 (by decide)]
  · show va_up (wellF rb th (feelsF rb th c T)) 3 (wellF rb th (feelsF rb th c T) 3 + 1) i = va_up (wellF rb th (feelsF rb th c' T)) 3 (wellF rb th (feelsF rb th c' T) 3 + 1) i
    rw [va_up_ne _ _ z, va_up_ne _ _ z]
    exact we i hi
theorem ways_cnt {rb th pe : zF1} {np : Nat} {x : Int32} : ∀ (n j m : Nat) (T : zF1), n ≤ j → m + n = 12 → T 3 = nI m → waysF rb th pe np x j T = nI (chN (wC rb th pe np n m T) x (2 ^ n)) := by
  intro n
  induction n with
  | zero =>
    intro j m T hj hm h3
    obtain rfl : m = 12 := by omega
    have e : chN (wC rb th pe np 0 12 T) x (2 ^ 0) = if T 0 = x then 1 else 0 := by
      show 0 + (if T 0 = x then 1 else 0) = _
      rw [Nat.zero_add]
    rw [e]
    cases j with
    | zero => rw [waysF]; split <;> rfl
    | succ j => rw [waysF, if_pos (by rw [h3]; decide)]; split <;> rfl
  | succ n ih =>
    intro j m T hj hm h3
    obtain ⟨j, rfl⟩ : ∃ i, j = i + 1 := ⟨j - 1, by omega⟩
    have p3 : ∀ c, passT rb th pe np c T 3 = nI (m + 1) := fun c => by unfold passT; rw [passF_3]; show T 3 + 1 = _; rw [h3, nI_1]
    have i1 := ih j (m + 1) (passT rb th pe np 1 T) (by omega) (by omega) (p3 1)
    have i2 := ih j (m + 1) (passT rb th pe np 2 T) (by omega) (by omega) (p3 2)
    have cnt : chN (wC rb th pe np (n + 1) m T) x (2 ^ (n + 1)) = chN (wC rb th pe np n (m + 1) (passT rb th pe np 1 T)) x (2 ^ n) + chN (wC rb th pe np n (m + 1) (passT rb th pe np 2 T)) x (2 ^ n) := by
      rw [Nat.pow_succ, Nat.mul_comm, chN_2]
      congr 1
      · refine chN_cg _ (fun r _ => ?_)
        show wC rb th pe np (n + 1) m T (2 * r) = _
        rw [wC_s, show 2 * r % 2 = 0 by omega, show 2 * r / 2 = r by omega]
        rfl
      · refine chN_cg _ (fun r _ => ?_)
        show wC rb th pe np (n + 1) m T (2 * r + 1) = _
        rw [wC_s, show (2 * r + 1) % 2 = 1 by omega, show (2 * r + 1) / 2 = r by omega]
        rfl
    rw [cnt, ← nI_add, ← i1, ← i2, waysF, if_neg (by rw [h3]; exact nI_ge (b := 12) (by omega) (by decide))]
    by_cases z : peoB pe (T 3) np 0 = 0
    · rw [if_pos z, ← eq2_ways j _ _ (eq2_none (c := 1) (c' := 2) z)]
      generalize waysF rb th pe np x j (passT rb th pe np 1 T) = W
      rw [show (2 : Int32) = 1 + 1 from by decide, Int32.add_mul, Int32.one_mul]
    · rw [if_neg z]
theorem peoB_cg {pe pe' : zF1} {m : Int32} {np : Nat} (h : peE np pe pe') : ∀ (j k : Nat), k + j ≤ np → peoB pe m j k = peoB pe' m j k := by
  intro j
  induction j with
  | zero => intro k _; rfl
  | succ j ih => intro k hk; rw [peoB, peoB, h (2 * k) (by omega), ih _ (by omega)]
theorem ways_cg {nt np : Nat} {rb rb' th th' pe pe' : zF1} {d x : Int32} (h10 : nt ≤ 10) (hr : rbE nt rb rb') (h : thE nt th th') (hp : peE np pe pe') : ∀ (j : Nat) (T T' : zF1), trx np d s5 T T' → waysF rb th pe np x j T = waysF rb' th' pe' np x j T' := by
  intro j
  induction j with
  | zero => intro T T' t; rw [waysF, waysF, t.1]
  | succ j ih =>
    intro T T' t
    have p : ∀ c, trx np d s5 (passT rb th pe np c T) (passT rb' th' pe' np c T') := fun c => (pass_cg (S := (T, 0)) (S' := (T', 0)) (c := c) h10 hr h hp t rfl).1
    rw [waysF, waysF, t.1, t.2.2.2.1, peoB_cg hp np 0 (by omega), ih _ _ (p 1), ih _ _ (p 2)]
theorem chance_cg {nt np a : Nat} {rb rb' th th' pe pe' T T' : zF1} {d x : Int32} (h10 : nt ≤ 10) (hr : rbE nt rb rb') (h : thE nt th th') (hp : peE np pe pe') (t : trx np d s5 T T') (ha : T' 3 = nI a) (h12 : a ≤ 12) (h2 : ¬ a < 2) : waysF rb th pe np x 10 T = nI (chN (chQ rb' th' pe' np a T') x (2 ^ (12 - a))) := by
  rw [ways_cg h10 hr h hp 10 T T' t, ways_cnt (12 - a) 10 a T' (by omega) (by omega) ha]
  congr 1
  refine chN_cg _ (fun r hr2 => ?_)
  have p2 : 2 ^ (12 - a) ≤ 2 ^ 10 := Nat.pow_le_pow_right (by decide) (by omega)
  unfold wC chQ
  rw [homeM_C _ _ _ _ _ (12 - a) a _ ha (by omega), hC_cg rb' th' pe' np (12 - a) a _ (fun i b1 b2 => coin_row (r := r) (by omega) b1 (by omega))]
  exact congrFun (hC_fst rb' th' pe' np _ (12 - a) a (T', 0) (T', -4) rfl) 0
end
section
/-! what the calls answer and change, the two objects at their places -/
def P7_thing (M : zM) (nt : Nat) (a : Int32) (b : Int32) (c : Int32) (d : Int32) (r : Int32) (M2 : zM) : Prop := (thgBad a b c d ∧ r = -1 ∧ M2 = M) ∨ (¬ thgBad a b c d ∧ nt = 10 ∧ r = -3 ∧ M2 = M) ∨ (¬ thgBad a b c d ∧ nt < 10 ∧ r = nI nt ∧ M2 = zs (za (zs M 1 3 0) 3 (setF (M.1 3) nt a b c d)) 2 0 (nI (nt + 1)))
theorem t7_thing {l : Launch} {w : zE} (J : zJ w) {M : zM} {nt : Nat} {a : Int32} {b : Int32} {c : Int32} {d : Int32} (hnt : M.1 2 0 = nI nt) (h10 : nt ≤ 10) : zCi l w yX7_thing cX7_thing 5 (some .int) 2 [.ref (w.2.2 0), .int a, .int b, .int c, .int d] M (P7_thing M nt a b c d) := c_X7_thing J (o := 0) (by decide) hnt h10
def P7_of (M : zM) (np : Nat) (x : Int32) (k : Int32) (r : Int32) (M2 : zM) : Prop := M2 = M ∧ r = ofS (M.1 2) (M.1 3) (M.1 16) np x k
theorem t7_of {l : Launch} {w : zE} (J : zJ w) {M : zM} {np : Nat} {x : Int32} {k : Int32} (hnt : M.1 2 0 ≤ 10) (hnp : M.1 2 1 = nI np) (hnp9 : np ≤ 8) : zCi l w yX7_of cX7_of 4 (some .int) 1 [.ref (w.2.2 0), .int x, .int k] M (P7_of M np x k) := c_X7_of J (o := 0) (by decide) hnt hnp hnp9
def P7_felt (M : zM) (x : Int32) (n : Int32) (k : Int32) (r : Int32) (M2 : zM) : Prop := M2 = M ∧ r = fltS (M.1 2) (M.1 3) x n k
theorem t7_felt {l : Launch} {w : zE} (J : zJ w) {M : zM} {x : Int32} {n : Int32} {k : Int32} (hnt : M.1 2 0 ≤ 10) : zCi l w yX7_felt cX7_felt 4 (some .int) 1 [.ref (w.2.2 0), .int x, .int n, .int k] M (P7_felt M x n k) := c_X7_felt J (o := 0) (by decide) hnt
def P7_person (M : zM) (np : Nat) (m : Int32) (x : Int32) (g2 : Int32) (r : Int32) (M2 : zM) : Prop := (perBad (M.1 2 0) m x g2 ∧ r = -1 ∧ M2 = M) ∨ (¬ perBad (M.1 2 0) m x g2 ∧ perHad (M.1 16) np x ∧ r = -2 ∧ M2 = M) ∨ (¬ perBad (M.1 2 0) m x g2 ∧ ¬ perHad (M.1 16) np x ∧ np = 8 ∧ r = -3 ∧ M2 = M) ∨ (¬ perBad (M.1 2 0) m x g2 ∧ ¬ perHad (M.1 16) np x ∧ np < 8 ∧ r = nI np ∧ M2 = zs (zs (zs (zs (zs M 1 3 0) 14 (2 * np) m) 14 (2 * np + 1) g2) 16 (5 + np) x) 2 1 (nI (np + 1)))
theorem t7_person {l : Launch} {w : zE} (J : zJ w) {M : zM} {np : Nat} {m : Int32} {x : Int32} {g2 : Int32} (hnp : M.1 2 1 = nI np) (h8 : np ≤ 8) : zCi l w yX7_person cX7_person 4 (some .int) 2 [.ref (w.2.2 0), .int m, .int x, .int g2] M (P7_person M np m x g2) := c_X7_person J (o := 0) (by decide) hnp h8
def P7_told (M : zM) (p : Int32) (k : Int32) (r : Int32) (M2 : zM) : Prop := M2 = M ∧ r = toldS (M.1 2) (M.1 14) (M.1 16) p k
theorem t7_told {l : Launch} {w : zE} (J : zJ w) {M : zM} {p : Int32} {k : Int32} (h8 : M.1 2 1 ≤ 8) : zCi l w yX7_told cX7_told 3 (some .int) 1 [.ref (w.2.2 0), .int p, .int k] M (P7_told M p k) := c_X7_told J (o := 0) (by decide) h8
def P7_move (M : zM) (p : Int32) (m : Int32) (r : Int32) (M2 : zM) : Prop := ((0 ≤ p ∧ p < M.1 2 1) ∧ ¬ (m < 0 ∨ 11 < m) ∧ r = M.1 14 (2 * p.toNatClampNeg) ∧ M2 = zs M 14 (2 * p.toNatClampNeg) m) ∨ (¬ ((0 ≤ p ∧ p < M.1 2 1) ∧ ¬ (m < 0 ∨ 11 < m)) ∧ r = -1 ∧ M2 = M)
theorem t7_move {l : Launch} {w : zE} (J : zJ w) {M : zM} {p : Int32} {m : Int32} (h8 : M.1 2 1 ≤ 8) : zCi l w yX7_move cX7_move 4 (some .int) 1 [.ref (w.2.2 0), .int p, .int m] M (P7_move M p m) := c_X7_move J (o := 0) (by decide) h8
def P7_take (M : zM) (np : Nat) (x : Int32) (r : Int32) (M2 : zM) : Prop := (takBad (M.1 2 0) x ∧ r = -1 ∧ M2 = M) ∨ (¬ takBad (M.1 2 0) x ∧ takHad (M.1 16) np x ∧ r = -2 ∧ M2 = M) ∨ (¬ takBad (M.1 2 0) x ∧ ¬ takHad (M.1 16) np x ∧ r = M.1 16 0 ∧ M2 = zs (zs M 16 0 x) 16 1 0)
theorem t7_take {l : Launch} {w : zE} (J : zJ w) {M : zM} {np : Nat} {x : Int32} (hnp : M.1 2 1 = nI np) (h8 : np ≤ 8) : zCi l w yX7_take cX7_take 3 (some .int) 2 [.ref (w.2.2 0), .int x] M (P7_take M np x) := c_X7_take J (o := 0) (by decide) hnp h8
def P7_count (M : zM) (k : Int32) (r : Int32) (M2 : zM) : Prop := M2 = M ∧ r = cntS (M.1 2) (M.1 16) (M.1 1 3) k
theorem t7_count {l : Launch} {w : zE} (J : zJ w) {M : zM} {k : Int32} : zCi l w yX7_count cX7_count 2 (some .int) 0 [.ref (w.2.2 0), .int k] M (P7_count M k) := c_X7_count J (o := 0) (by decide)
def P7_heed (M : zM) (v : Int32) (r : Int32) (M2 : zM) : Prop := ((v < 0 ∨ 99 < v) ∧ r = -1 ∧ M2 = M) ∨ (¬ (v < 0 ∨ 99 < v) ∧ r = M.1 2 2 ∧ M2 = zs M 2 2 v)
theorem t7_heed {l : Launch} {w : zE} (J : zJ w) {M : zM} {v : Int32} : zCi l w yX7_heed cX7_heed 3 (some .int) 1 [.ref (w.2.2 0), .int v] M (P7_heed M v) := c_X7_heed J (o := 0) (by decide)
def P7_well (M : zM) (v : Int32) (r : Int32) (M2 : zM) : Prop := ((¬ v = -4 ∧ (v < 0 ∨ 11 < v)) ∧ r = -1 ∧ M2 = M) ∨ (¬ (¬ v = -4 ∧ (v < 0 ∨ 11 < v)) ∧ r = M.1 2 3 ∧ M2 = zs M 2 3 v)
theorem t7_well {l : Launch} {w : zE} (J : zJ w) {M : zM} {v : Int32} : zCi l w yX7_well cX7_well 3 (some .int) 1 [.ref (w.2.2 0), .int v] M (P7_well M v) := c_X7_well J (o := 0) (by decide)
def P7_type (M : zM) (len : Nat) (c : Int32) (r : Int32) (M2 : zM) : Prop := ((c < 32 ∨ 126 < c) ∧ r = -1 ∧ M2 = M) ∨ (¬ (c < 32 ∨ 126 < c) ∧ len = 120 ∧ r = -3 ∧ M2 = M) ∨ (¬ (c < 32 ∨ 126 < c) ∧ len < 120 ∧ r = nI (len + 1) ∧ M2 = zs (zs M 70 len c) 69 1 (nI (len + 1)))
theorem t7_type {l : Launch} {w : zE} (J : zJ w) {M : zM} {len : Nat} {c : Int32} (hl : M.1 69 1 = nI len) (h120 : len ≤ 120) : zCi l w yX7_type cX7_type 2 (some .int) 0 [.ref (w.2.2 0), .int c] M (P7_type M len c) := c_X7_type J (o := 0) (by decide) hl h120
def P7_road (M : zM) (len : Nat) (r : Int32) (M2 : zM) : Prop := ((roadF (M.1 70) len (M.1 3) (M.1 14) (tT0 (M.1 16))).1 = 0 ∧ r = -20 - nI (roadF (M.1 70) len (M.1 3) (M.1 14) (tT0 (M.1 16))).2.1 ∧ ztf M M2 ∧ M2.1 69 1 = 0) ∨ (¬ (roadF (M.1 70) len (M.1 3) (M.1 14) (tT0 (M.1 16))).1 = 0 ∧ ∃ (M1 : zM) (S : zRd), S = (roadF (M.1 70) len (M.1 3) (M.1 14) (tT0 (M.1 16))).2.2 ∧ r = nI S.1 ∧ ztf M M1 ∧ M1.1 69 1 = 0 ∧ M2 = zs (za (zrd M1 2 (va_up (va_up (M.1 2) 0 (nI S.1)) 1 (nI S.2.2.1)) S.2.1 S.2.2.2.1) 16 S.2.2.2.2) 1 3 0)
theorem t7_road {l : Launch} {w : zE} (J : zJ w) {M : zM} {len : Nat} (hl : M.1 69 1 = nI len) (h120 : len ≤ 120) (hL : ltOK (M.1 70) len) : zCi l w yX7_road cX7_road 2 (some .int) 7 [.ref (w.2.2 0)] M (P7_road M len) := by
  have h := c_X7_road (l := l) J (M := M) (o := 0) (by decide) rfl hl h120 hL
  simp only [Nat.zero_add, Nat.reduceAdd] at h
  exact h
def P7_go (M : zM) (k : Nat) (np : Nat) (r : Int32) (M2 : zM) : Prop := (12 ≤ M.1 16 3 ∧ r = -2 ∧ M2 = M) ∨ (M.1 16 3 < 12 ∧ ∃ rf, r = (passF (M.1 2) (M.1 3) (M.1 14) np 1 (M.1 16, M.1 17 0)).1 4 - M.1 16 4 ∧ M2 = zt (remF M 1 k) 16 (passF (M.1 2) (M.1 3) (M.1 14) np 1 (M.1 16, M.1 17 0)).1 rf)
theorem t7_go {l : Launch} {w : zE} (J : zJ w) {M : zM} {k : Nat} {np : Nat} (hp : pmF (M.1 18)) (hn : M.1 1 3 = nI k) (h8 : k ≤ 8) (hnt : M.1 2 0 ≤ 10) (hnp : M.1 2 1 = nI np) (hnp9 : np ≤ 8) : zCi l w yX7_go cX7_go 1 (some .int) 4 [.ref (w.2.2 0)] M (P7_go M k np) := c_X7_go J (o := 0) (by decide) hp hn h8 hnt hnp hnp9
def P7_undo (M : zM) (k : Nat) (r : Int32) (M2 : zM) : Prop := (k = 0 ∧ r = -4 ∧ M2 = M) ∨ (∃ j, k = j + 1 ∧ r = nI j ∧ M2 = za (zs M 1 3 (nI j)) 16 (M.1 (19 + 2 * (M.1 18 j).toNatClampNeg)))
theorem t7_undo {l : Launch} {w : zE} (J : zJ w) {M : zM} {k : Nat} (hp : pmF (M.1 18)) (hn : M.1 1 3 = nI k) (h8 : k ≤ 8) : zCi l w yX7_undo cX7_undo 1 (some .int) 3 [.ref (w.2.2 0)] M (P7_undo M k) := c_X7_undo J (o := 0) (by decide) hp hn h8
def P7_again (M : zM) (r : Int32) (M2 : zM) : Prop := r = M.1 16 3 ∧ M2 = zs M 16 3 0
theorem t7_again {l : Launch} {w : zE} (J : zJ w) {M : zM} : zCi l w yX7_again cX7_again 2 (some .int) 0 [.ref (w.2.2 0)] M (P7_again M) := c_X7_again J (o := 0) (by decide)
def P7_glad (M : zM) (x : Int32) (r : Int32) (M2 : zM) : Prop := M2 = M ∧ r = gldS (M.1 2) (M.1 3) (M.1 16) x
theorem t7_glad {l : Launch} {w : zE} (J : zJ w) {M : zM} {x : Int32} (hnt : M.1 2 0 ≤ 10) (hh : M.1 16 0 = -4 ∨ 0 ≤ M.1 16 0 ∧ M.1 16 0 < 10) : zCi l w yX7_glad cX7_glad 2 (some .int) 2 [.ref (w.2.2 0), .int x] M (P7_glad M x) := c_X7_glad J (o := 0) (by decide) hnt hh
def P7_home (M : zM) (np : Nat) (a : Nat) (k : Int32) (r : Int32) (M2 : zM) : Prop := zfr M M2 ∧ r = homS M 1 np a k
theorem t7_home {l : Launch} {w : zE} (J : zJ w) {M : zM} {np : Nat} {a : Nat} {k : Int32} (ok : nowOK M 1 np a) : zCi l w yX7_home cX7_home 3 (some .int) 6 [.ref (w.2.2 0), .int k] M (P7_home M np a k) := c_X7_home J (o := 0) (by decide) rfl ok
def P7_lost (M : zM) (np : Nat) (a : Nat) (r : Int32) (M2 : zM) : Prop := zfr M M2 ∧ r = lostS M 1 np a
theorem t7_lost {l : Launch} {w : zE} (J : zJ w) {M : zM} {np : Nat} {a : Nat} (ok : nowOK M 1 np a) : zCi l w yX7_lost cX7_lost 1 (some .int) 6 [.ref (w.2.2 0)] M (P7_lost M np a) := c_X7_lost J (o := 0) (by decide) rfl ok
def P7_lurk (M : zM) (np : Nat) (a : Nat) (nt : Nat) (x : Int32) (k : Int32) (r : Int32) (M2 : zM) : Prop := zfr M M2 ∧ r = lrkS M 1 np a nt x k (M.1 87 4)
theorem t7_lurk {l : Launch} {w : zE} (J : zJ w) {M : zM} {np : Nat} {a : Nat} {nt : Nat} {x : Int32} {k : Int32} (ok : nowOK M 1 np a) (hnt : M.1 2 0 = nI nt) (h10 : nt ≤ 10) : zCi l w yX7_lurk cX7_lurk 4 (some .int) 6 [.ref (w.2.2 0), .int x, .int k] M (P7_lurk M np a nt x k) := c_X7_lurk J (o := 0) (by decide) rfl ok hnt h10
def P7_stand (M : zM) (np : Nat) (a : Nat) (x : Int32) (k : Int32) (r : Int32) (M2 : zM) : Prop := zfr M M2 ∧ r = if (0 ≤ x ∧ x < M.1 2 1) ∧ ¬ (k < 0 ∨ 1 < k) then (if 12 ≤ M.1 16 3 then -2 else if k = 0 then (stdS M 1 np a x.toNatClampNeg (M.1 87 4)).2 else (stdS M 1 np a x.toNatClampNeg (M.1 87 4)).1) else -1
theorem t7_stand {l : Launch} {w : zE} (J : zJ w) {M : zM} {np : Nat} {a : Nat} {x : Int32} {k : Int32} (ok : nowOK M 1 np a) : zCi l w yX7_stand cX7_stand 4 (some .int) 6 [.ref (w.2.2 0), .int x, .int k] M (P7_stand M np a x k) := c_X7_stand J (o := 0) (by decide) rfl ok
def P7_sister (M : zM) (np : Nat) (a : Nat) (x : Int32) (k : Int32) (r : Int32) (M2 : zM) : Prop := zfr M M2 ∧ r = if (0 ≤ x ∧ x < M.1 2 0) ∧ ¬ (k < 0 ∨ 1 < k) then (if whoF (hmF M 1 np a).1 np x = -4 then (if k = 0 then worthO (M.1 3) (M.1 2 0) x else 0) else -2) else -1
theorem t7_sister {l : Launch} {w : zE} (J : zJ w) {M : zM} {np : Nat} {a : Nat} {x : Int32} {k : Int32} (ok : nowOK M 1 np a) : zCi l w yX7_sister cX7_sister 3 (some .int) 6 [.ref (w.2.2 0), .int x, .int k] M (P7_sister M np a x k) := c_X7_sister J (o := 0) (by decide) rfl ok
def P7_meet (M : zM) (np : Nat) (x : Int32) (k : Int32) (r : Int32) (M2 : zM) : Prop := zfr M M2 ∧ ∃ (U : zF1) (R : Int32 × zF1 × zF1), U 0 = x ∧ U 1 = 0 ∧ U 2 = 0 ∧ R = mtS (M.1 3) (M.1 2 2) (M.1 16) U ∧ r = if (0 ≤ x ∧ x < M.1 2 0) ∧ ¬ (k < 0 ∨ 2 < k) then (if ¬ whoF (M.1 16) np x = -4 ∨ M.1 16 0 = -4 then -2 else if R.1 = -4 ∨ k = 0 then R.1 else if k = 1 then R.2.1 0 else R.2.2 0) else -1
theorem t7_meet {l : Launch} {w : zE} (J : zJ w) {M : zM} {np : Nat} {x : Int32} {k : Int32} (hnt : M.1 2 0 ≤ 10) (hnp : M.1 2 1 = nI np) (h8 : np ≤ 8) (hh : M.1 16 0 = -4 ∨ 0 ≤ M.1 16 0 ∧ M.1 16 0 < 10) : zCi l w yX7_meet cX7_meet 4 (some .int) 4 [.ref (w.2.2 0), .int x, .int k] M (P7_meet M np x k) := c_X7_meet J (o := 0) (by decide) rfl hnt hnp h8 hh
def P7_first (M : zM) (np : Nat) (a : Nat) (nt : Nat) (x : Int32) (r : Int32) (M2 : zM) : Prop := zfr M M2 ∧ r = if 0 ≤ x ∧ x < M.1 2 0 then firstL (fun k => whoF (M.1 16) np (nI k)) (firstQ (M.1 2) (M.1 3) (M.1 14) np a (M.1 16)) x nt 0 0 else -1
theorem t7_first {l : Launch} {w : zE} (J : zJ w) {M : zM} {np : Nat} {a : Nat} {nt : Nat} {x : Int32} (ok : nowOK M 1 np a) (hnt : M.1 2 0 = nI nt) (h10 : nt ≤ 10) : zCi l w yX7_first cX7_first 2 (some .int) 6 [.ref (w.2.2 0), .int x] M (P7_first M np a nt x) := c_X7_first J (o := 0) (by decide) rfl ok hnt h10
def P7_cheated (M : zM) (np : Nat) (a : Nat) (v : Int32) (r : Int32) (M2 : zM) : Prop := zfr M M2 ∧ r = if v < -99 ∨ 99 < v then -1 else (heedL (heedW (M.1 2) (M.1 3) (M.1 14) np a (M.1 16)) v 100 0 (-4, 0)).1
theorem t7_cheated {l : Launch} {w : zE} (J : zJ w) {M : zM} {np : Nat} {a : Nat} {v : Int32} (ok : nowOK M 1 np a) : zCi l w yX7_cheated cX7_cheated 2 (some .int) 6 [.ref (w.2.2 0), .int v] M (P7_cheated M np a v) := c_X7_cheated J (o := 0) (by decide) rfl ok
def P7_chance (M : zM) (np : Nat) (a : Nat) (x : Int32) (k : Int32) (r : Int32) (M2 : zM) : Prop := zfr M M2 ∧ r = if (¬ x = -4 ∧ ¬ (0 ≤ x ∧ x < M.1 2 0)) ∨ (k < 0 ∨ 1 < k) then -1 else if a < 2 then -3 else if k = 0 then (redL (12 - a) (waysF (M.1 2) (M.1 3) (M.1 14) np x 10 (M.1 16))).1 else (redL (12 - a) (waysF (M.1 2) (M.1 3) (M.1 14) np x 10 (M.1 16))).2
theorem t7_chance {l : Launch} {w : zE} (J : zJ w) {M : zM} {np : Nat} {a : Nat} {x : Int32} {k : Int32} (ok : nowOK M 1 np a) : zCi l w yX7_chance cX7_chance 6 (some .int) 26 [.ref (w.2.2 0), .int x, .int k] M (P7_chance M np a x k) := c_X7_chance J (o := 0) (by decide) rfl ok
def P7_image (M : zM) (k : Nat) (r : Int32) (M2 : zM) : Prop := r = 1 ∧ M2 = zs (cpP (wcF M 35 1) 35 1 k) 0 2 1
theorem t7_image {l : Launch} {w : zE} (J : zJ w) {M : zM} {k : Nat} (hp : pmF (M.1 18)) (hp2 : pmF (M.1 52)) (hn : M.1 1 3 = nI k) (h8 : k ≤ 8) : zCi l w yX7_image cX7_image 1 (some .int) 3 [.ref (w.2.2 0)] M (P7_image M k) := c_X7_image J (o := 0) (by decide) rfl hp hp2 hn h8
def P7_restore (M : zM) (k : Nat) (r : Int32) (M2 : zM) : Prop := (M.1 0 2 = 0 ∧ r = -4 ∧ M2 = M) ∨ (¬ M.1 0 2 = 0 ∧ r = 1 ∧ M2 = cpP (wcF M 1 35) 1 35 k)
theorem t7_restore {l : Launch} {w : zE} (J : zJ w) {M : zM} {k : Nat} (hp : pmF (M.1 18)) (hp2 : pmF (M.1 52)) (hn : ¬ M.1 0 2 = 0 → M.1 35 3 = nI k) (h8 : k ≤ 8) : zCi l w yX7_restore cX7_restore 1 (some .int) 3 [.ref (w.2.2 0)] M (P7_restore M k) := c_X7_restore J (o := 0) (by decide) rfl hp hp2 hn h8
def P7_seen (M : zM) (L : Nat) (x : Int32) (ln : Int32) (i : Int32) (n : Int32) (r : Int32) (M2 : zM) : Prop := M2 = M ∧ ((n < 1 ∨ 8 < n) ∧ r = -1 ∨ ¬ (n < 1 ∨ 8 < n) ∧ (rowS M 0 x ln i (2 * n) < 0 ∧ r = rowS M 0 x ln i (2 * n) ∨ ¬ rowS M 0 x ln i (2 * n) < 0 ∧ ∃ a m, i = nI a ∧ n = nI m ∧ a + 2 * m ≤ 16 ∧ (¬ allIn (M.2 (130 + 2 * x.toNatClampNeg + 1)) (M.1 2 0) (2 * m) a ∧ r = -2 ∨ allIn (M.2 (130 + 2 * x.toNatClampNeg + 1)) (M.1 2 0) (2 * m) a ∧ r = seenL (M.1 3) (M.2 (130 + 2 * x.toNatClampNeg + 1)) m a 3)))
theorem t7_seen {l : Launch} {w : zE} (J : zJ w) {M : zM} {L : Nat} {x : Int32} {ln : Int32} {i : Int32} {n : Int32} (hnt : M.1 2 0 ≤ 10) (hL : M.1 (130 + 2 * x.toNatClampNeg) 2 = nI L) (h16 : L ≤ 16) : zCi l w yX7_seen cX7_seen 9 (some .int) 3 [.ref (w.2.2 0), .int x, .int ln, .int i, .int n] M (P7_seen M L x ln i n) := c_X7_seen J (o := 0) (by decide) hnt hL h16
def P7_film (M : zM) (np : Nat) (a : Nat) (L : Nat) (x : Int32) (ln : Int32) (i : Int32) (r : Int32) (M2 : zM) : Prop := rowS M 0 x ln i (nI (12 - a)) < 0 ∧ M2 = M ∧ r = rowS M 0 x ln i (nI (12 - a)) ∨ ¬ rowS M 0 x ln i (nI (12 - a)) < 0 ∧ r = nI (12 - a) ∧ (∀ b, (b < 87 ∨ 129 ≤ b) → M2.1 b = M.1 b) ∧ ∃ q, i = nI q ∧ q + (12 - a) ≤ 16 ∧ M2.2 = va_up M.2 (130 + 2 * x.toNatClampNeg + 1) (filmL (M.1 2) (M.1 3) (M.1 14) np ln (12 - a) q (M.1 16, -4) (M.2 (130 + 2 * x.toNatClampNeg + 1)))
theorem t7_film {l : Launch} {w : zE} (J : zJ w) {M : zM} {np : Nat} {a : Nat} {L : Nat} {x : Int32} {ln : Int32} {i : Int32} (ok : nowOK M 1 np a) (hL : M.1 (130 + 2 * x.toNatClampNeg) 2 = nI L) (h16 : L ≤ 16) : zCi l w yX7_film cX7_film 7 (some .int) 5 [.ref (w.2.2 0), .int x, .int ln, .int i] M (P7_film M np a L x ln i) := c_X7_film J (o := 0) (by decide) rfl ok hL h16
def P7_deal (M : zM) (np : Nat) (L : Nat) (x : Int32) (ln : Int32) (i : Int32) (r : Int32) (M2 : zM) : Prop := rowS M 0 x ln i (nI np) < 0 ∧ M2 = M ∧ r = rowS M 0 x ln i (nI np) ∨ ¬ rowS M 0 x ln i (nI np) < 0 ∧ ∃ a, i = nI a ∧ a + np ≤ 16 ∧ (¬ dealL (M.2 (130 + 2 * x.toNatClampNeg + 1)) (M.1 2 0) np a (if 0 ≤ M.1 16 0 ∧ M.1 16 0 < M.1 2 0 then (1 : Int32) <<< (M.1 16 0 &&& 31) else 0) = true ∧ M2 = M ∧ r = -2 ∨ dealL (M.2 (130 + 2 * x.toNatClampNeg + 1)) (M.1 2 0) np a (if 0 ≤ M.1 16 0 ∧ M.1 16 0 < M.1 2 0 then (1 : Int32) <<< (M.1 16 0 &&& 31) else 0) = true ∧ r = nI np ∧ M2 = za M 16 (dealT (M.1 16) (M.2 (130 + 2 * x.toNatClampNeg + 1)) a np))
theorem t7_deal {l : Launch} {w : zE} (J : zJ w) {M : zM} {np : Nat} {L : Nat} {x : Int32} {ln : Int32} {i : Int32} (hnp : M.1 2 1 = nI np) (h8 : np ≤ 8) (hL : M.1 (130 + 2 * x.toNatClampNeg) 2 = nI L) (h16 : L ≤ 16) : zCi l w yX7_deal cX7_deal 10 (some .int) 3 [.ref (w.2.2 0), .int x, .int ln, .int i] M (P7_deal M np L x ln i) := c_X7_deal J (o := 0) (by decide) rfl hnp h8 hL h16
def P7_sheet (M : zM) (x : Int32) (ln : Int32) (n : Int32) (r : Int32) (M2 : zM) : Prop := (((x < 0 ∨ 3 < x) ∨ (ln < 0 ∨ 3 < ln) ∨ 16 < n) ∧ r = -1 ∧ M2 = M) ∨ (¬ ((x < 0 ∨ 3 < x) ∨ (ln < 0 ∨ 3 < ln) ∨ 16 < n) ∧ ((n < 0 ∧ r = -14 ∧ M2 = M) ∨ (¬ n < 0 ∧ r = n ∧ M2 = zya (zs (zs (zs M (130 + 2 * x.toNatClampNeg) 0 1) (130 + 2 * x.toNatClampNeg) 1 ln) (130 + 2 * x.toNatClampNeg) 2 n) (130 + 2 * x.toNatClampNeg + 1) (fun _ => 0))))
theorem t7_sheet {l : Launch} {w : zE} (J : zJ w) {M : zM} {x : Int32} {ln : Int32} {n : Int32} : zCi l w yX7_sheet cX7_sheet 4 (some .int) 3 [.ref (w.2.2 0), .int x, .int ln, .int n] M (P7_sheet M x ln n) := c_X7_sheet J (o := 0) (by decide)
def P7_drop (M : zM) (x : Int32) (r : Int32) (M2 : zM) : Prop := ((x < 0 ∨ 3 < x) ∧ r = -1 ∧ M2 = M) ∨ (¬ (x < 0 ∨ 3 < x) ∧ ((M.1 (130 + 2 * x.toNatClampNeg) 0 = 0 ∧ r = -11 ∧ M2 = M) ∨ (¬ M.1 (130 + 2 * x.toNatClampNeg) 0 = 0 ∧ r = M.1 (130 + 2 * x.toNatClampNeg) 2 ∧ M2 = zs M (130 + 2 * x.toNatClampNeg) 0 0)))
theorem t7_drop {l : Launch} {w : zE} (J : zJ w) {M : zM} {x : Int32} : zCi l w yX7_drop cX7_drop 2 (some .int) 1 [.ref (w.2.2 0), .int x] M (P7_drop M x) := c_X7_drop J (o := 0) (by decide)
def P7_item (M : zM) (L : Nat) (x : Int32) (ln : Int32) (i : Int32) (v : Int64) (r : Int32) (M2 : zM) : Prop := rowS M 0 x ln i 1 < 0 ∧ M2 = M ∧ r = rowS M 0 x ln i 1 ∨ ¬ rowS M 0 x ln i 1 < 0 ∧ r = 1 ∧ ∃ a, i = nI a ∧ a < 16 ∧ M2 = zy M (130 + 2 * x.toNatClampNeg + 1) a (putF ln v)
theorem t7_item {l : Launch} {w : zE} (J : zJ w) {M : zM} {L : Nat} {x : Int32} {ln : Int32} {i : Int32} {v : Int64} (hL : M.1 (130 + 2 * x.toNatClampNeg) 2 = nI L) (h16 : L ≤ 16) : zCi l w yX7_item cX7_item 7 (some .int) 3 [.ref (w.2.2 0), .int x, .int ln, .int i, .long v] M (P7_item M L x ln i v) := c_X7_item J (o := 0) (by decide) hL h16
def P7_copy (M : zM) (L1 : Nat) (L2 : Nat) (x : Int32) (i : Int32) (y : Int32) (j : Int32) (n : Int32) (r : Int32) (M2 : zM) : Prop := (((x < 0 ∨ 3 < x) ∨ (y < 0 ∨ 3 < y)) ∧ r = -1 ∧ M2 = M) ∨ (¬ ((x < 0 ∨ 3 < x) ∨ (y < 0 ∨ 3 < y)) ∧ (((M.1 (130 + 2 * x.toNatClampNeg) 0 = 0 ∨ M.1 (130 + 2 * y.toNatClampNeg) 0 = 0) ∧ r = -11 ∧ M2 = M) ∨ (¬ (M.1 (130 + 2 * x.toNatClampNeg) 0 = 0 ∨ M.1 (130 + 2 * y.toNatClampNeg) 0 = 0) ∧ ((¬ M.1 (130 + 2 * x.toNatClampNeg) 1 = M.1 (130 + 2 * y.toNatClampNeg) 1 ∧ r = -12 ∧ M2 = M) ∨ (M.1 (130 + 2 * x.toNatClampNeg) 1 = M.1 (130 + 2 * y.toNatClampNeg) 1 ∧ ((¬ ((0 ≤ i ∧ 0 ≤ n ∧ n ≤ M.1 (130 + 2 * x.toNatClampNeg) 2 ∧ i ≤ M.1 (130 + 2 * x.toNatClampNeg) 2 - n) ∧ (0 ≤ j ∧ 0 ≤ n ∧ n ≤ M.1 (130 + 2 * y.toNatClampNeg) 2 ∧ j ≤ M.1 (130 + 2 * y.toNatClampNeg) 2 - n)) ∧ r = -13 ∧ M2 = M) ∨ (((0 ≤ i ∧ 0 ≤ n ∧ n ≤ M.1 (130 + 2 * x.toNatClampNeg) 2 ∧ i ≤ M.1 (130 + 2 * x.toNatClampNeg) 2 - n) ∧ (0 ≤ j ∧ 0 ≤ n ∧ n ≤ M.1 (130 + 2 * y.toNatClampNeg) 2 ∧ j ≤ M.1 (130 + 2 * y.toNatClampNeg) 2 - n)) ∧ r = n ∧ ∃ a b k, i = nI a ∧ j = nI b ∧ n = nI k ∧ a + k ≤ 16 ∧ b + k ≤ 16 ∧ M2 = zya M (130 + 2 * y.toNatClampNeg + 1) (va_cpy (M.2 (130 + 2 * x.toNatClampNeg + 1)) (M.2 (130 + 2 * y.toNatClampNeg + 1)) a b k))))))))
theorem t7_copy {l : Launch} {w : zE} (J : zJ w) {M : zM} {L1 : Nat} {L2 : Nat} {x : Int32} {i : Int32} {y : Int32} {j : Int32} {n : Int32} (hL : M.1 (130 + 2 * x.toNatClampNeg) 2 = nI L1) (h16 : L1 ≤ 16) (hL2 : M.1 (130 + 2 * y.toNatClampNeg) 2 = nI L2) (h162 : L2 ≤ 16) : zCi l w yX7_copy cX7_copy 8 (some .int) 3 [.ref (w.2.2 0), .int x, .int i, .int y, .int j, .int n] M (P7_copy M L1 L2 x i y j n) := c_X7_copy J (o := 0) (by decide) hL h16 hL2 h162
def P8_thing (M : zM) (nt : Nat) (a : Int32) (b : Int32) (c : Int32) (d : Int32) (r : Int32) (M2 : zM) : Prop := (thgBad a b c d ∧ r = -1 ∧ M2 = M) ∨ (¬ thgBad a b c d ∧ nt = 10 ∧ r = -3 ∧ M2 = M) ∨ (¬ thgBad a b c d ∧ nt < 10 ∧ r = nI nt ∧ M2 = zs (zs (za M 139 (setF (M.1 139) nt a b c d)) 138 0 (nI (nt + 1))) 138 20 0)
theorem t8_thing {l : Launch} {w : zE} (J : zJ w) {M : zM} {nt : Nat} {a : Int32} {b : Int32} {c : Int32} {d : Int32} (hnt : M.1 138 0 = nI nt) (h10 : nt ≤ 10) : zCi l w yX8_thing cX8_thing 5 (some .int) 1 [.ref (w.2.2 138), .int a, .int b, .int c, .int d] M (P8_thing M nt a b c d) := c_X8_thing J (o := 138) (by decide) rfl hnt h10
def P8_of (M : zM) (nt : Nat) (np : Nat) (x : Int32) (k : Int32) (r : Int32) (M2 : zM) : Prop := M2 = M ∧ r = ofR (M.1 138) (M.1 139) (M.1 141) np x k
theorem t8_of {l : Launch} {w : zE} (J : zJ w) {M : zM} {nt : Nat} {np : Nat} {x : Int32} {k : Int32} (hnt : M.1 138 0 = nI nt) (h10 : nt ≤ 10) (hnp : M.1 138 1 = nI np) (h8 : np ≤ 8) : zCi l w yX8_of cX8_of 3 (some .int) 2 [.ref (w.2.2 138), .int x, .int k] M (P8_of M nt np x k) := c_X8_of J (o := 138) (by decide) rfl hnt h10 hnp h8
def P8_felt (M : zM) (nt : Nat) (x : Int32) (n : Int32) (k : Int32) (r : Int32) (M2 : zM) : Prop := M2 = M ∧ r = fltS (M.1 138) (M.1 139) x n k
theorem t8_felt {l : Launch} {w : zE} (J : zJ w) {M : zM} {nt : Nat} {x : Int32} {n : Int32} {k : Int32} (hnt : M.1 138 0 = nI nt) (h10 : nt ≤ 10) (kd : kdOK (M.1 139)) : zCi l w yX8_felt cX8_felt 4 (some .int) 2 [.ref (w.2.2 138), .int x, .int n, .int k] M (P8_felt M nt x n k) := c_X8_felt J (o := 138) (by decide) rfl hnt h10 kd
def P8_person (M : zM) (nt : Nat) (np : Nat) (m : Int32) (x : Int32) (g2 : Int32) (r : Int32) (M2 : zM) : Prop := (perBad (M.1 138 0) m x g2 ∧ r = -1 ∧ M2 = M) ∨ (¬ perBad (M.1 138 0) m x g2 ∧ perHad (M.1 141) np x ∧ r = -2 ∧ M2 = M) ∨ (¬ perBad (M.1 138 0) m x g2 ∧ ¬ perHad (M.1 141) np x ∧ np = 8 ∧ r = -3 ∧ M2 = M) ∨ (¬ perBad (M.1 138 0) m x g2 ∧ ¬ perHad (M.1 141) np x ∧ np < 8 ∧ r = nI np ∧ M2 = zs (zs (zs (zs (zs M 140 (2 * np) m) 140 (2 * np + 1) g2) 141 (5 + np) x) 138 1 (nI (np + 1))) 138 20 0)
theorem t8_person {l : Launch} {w : zE} (J : zJ w) {M : zM} {nt : Nat} {np : Nat} {m : Int32} {x : Int32} {g2 : Int32} (hnt : M.1 138 0 = nI nt) (h10 : nt ≤ 10) (hnp : M.1 138 1 = nI np) (h8 : np ≤ 8) : zCi l w yX8_person cX8_person 4 (some .int) 2 [.ref (w.2.2 138), .int m, .int x, .int g2] M (P8_person M nt np m x g2) := c_X8_person J (o := 138) (by decide) rfl hnt h10 hnp h8
def P8_told (M : zM) (np : Nat) (p : Int32) (k : Int32) (r : Int32) (M2 : zM) : Prop := M2 = M ∧ r = toldS (M.1 138) (M.1 140) (M.1 141) p k
theorem t8_told {l : Launch} {w : zE} (J : zJ w) {M : zM} {np : Nat} {p : Int32} {k : Int32} (hnp : M.1 138 1 = nI np) (h8 : np ≤ 8) : zCi l w yX8_told cX8_told 3 (some .int) 2 [.ref (w.2.2 138), .int p, .int k] M (P8_told M np p k) := c_X8_told J (o := 138) (by decide) rfl hnp h8
def P8_move (M : zM) (np : Nat) (p : Int32) (m : Int32) (r : Int32) (M2 : zM) : Prop := ((0 ≤ p ∧ p < M.1 138 1) ∧ ¬ (m < 0 ∨ 11 < m) ∧ r = M.1 140 (2 * p.toNatClampNeg) ∧ M2 = zs M 140 (2 * p.toNatClampNeg) m) ∨ (¬ ((0 ≤ p ∧ p < M.1 138 1) ∧ ¬ (m < 0 ∨ 11 < m)) ∧ r = -1 ∧ M2 = M)
theorem t8_move {l : Launch} {w : zE} (J : zJ w) {M : zM} {np : Nat} {p : Int32} {m : Int32} (hnp : M.1 138 1 = nI np) (h8 : np ≤ 8) : zCi l w yX8_move cX8_move 4 (some .int) 2 [.ref (w.2.2 138), .int p, .int m] M (P8_move M np p m) := c_X8_move J (o := 138) (by decide) rfl hnp h8
def P8_take (M : zM) (nt : Nat) (np : Nat) (x : Int32) (r : Int32) (M2 : zM) : Prop := (takBad (M.1 138 0) x ∧ r = -1 ∧ M2 = M) ∨ (¬ takBad (M.1 138 0) x ∧ takR (M.1 141) np x ∧ r = -2 ∧ M2 = M) ∨ (¬ takBad (M.1 138 0) x ∧ ¬ takR (M.1 141) np x ∧ r = M.1 141 0 ∧ M2 = zs (zs M 141 0 x) 141 1 0)
theorem t8_take {l : Launch} {w : zE} (J : zJ w) {M : zM} {nt : Nat} {np : Nat} {x : Int32} (hnt : M.1 138 0 = nI nt) (h10 : nt ≤ 10) (hnp : M.1 138 1 = nI np) (h8 : np ≤ 8) : zCi l w yX8_take cX8_take 3 (some .int) 2 [.ref (w.2.2 138), .int x] M (P8_take M nt np x) := c_X8_take J (o := 138) (by decide) rfl hnt h10 hnp h8
def P8_count (M : zM) (k : Int32) (r : Int32) (M2 : zM) : Prop := M2 = M ∧ r = cntS (rbM (M.1 138)) (M.1 141) (M.1 138 20) k
theorem t8_count {l : Launch} {w : zE} (J : zJ w) {M : zM} {k : Int32} : zCi l w yX8_count cX8_count 2 (some .int) 0 [.ref (w.2.2 138), .int k] M (P8_count M k) := c_X8_count J (o := 138) (by decide) rfl
def P8_heed (M : zM) (v : Int32) (r : Int32) (M2 : zM) : Prop := ((v < 0 ∨ 99 < v) ∧ r = -1 ∧ M2 = M) ∨ (¬ (v < 0 ∨ 99 < v) ∧ r = M.1 138 5 ∧ M2 = zs M 138 5 v)
theorem t8_heed {l : Launch} {w : zE} (J : zJ w) {M : zM} {v : Int32} : zCi l w yX8_heed cX8_heed 3 (some .int) 1 [.ref (w.2.2 138), .int v] M (P8_heed M v) := c_X8_heed J (o := 138) (by decide)
def P8_well (M : zM) (v : Int32) (r : Int32) (M2 : zM) : Prop := ((¬ v = -4 ∧ (v < 0 ∨ 11 < v)) ∧ r = -1 ∧ M2 = M) ∨ (¬ (¬ v = -4 ∧ (v < 0 ∨ 11 < v)) ∧ r = M.1 138 6 ∧ M2 = zs M 138 6 v)
theorem t8_well {l : Launch} {w : zE} (J : zJ w) {M : zM} {v : Int32} : zCi l w yX8_well cX8_well 3 (some .int) 1 [.ref (w.2.2 138), .int v] M (P8_well M v) := c_X8_well J (o := 138) (by decide)
def P8_type (M : zM) (len : Nat) (c : Int32) (r : Int32) (M2 : zM) : Prop := ((c < 32 ∨ 126 < c) ∧ r = -1 ∧ M2 = M) ∨ (¬ (c < 32 ∨ 126 < c) ∧ len = 120 ∧ r = -3 ∧ M2 = M) ∨ (¬ (c < 32 ∨ 126 < c) ∧ len < 120 ∧ r = nI (len + 1) ∧ M2 = zs (zs M 142 len c) 138 10 (nI (len + 1)))
theorem t8_type {l : Launch} {w : zE} (J : zJ w) {M : zM} {len : Nat} {c : Int32} (hl : M.1 138 10 = nI len) (h120 : len ≤ 120) : zCi l w yX8_type cX8_type 2 (some .int) 1 [.ref (w.2.2 138), .int c] M (P8_type M len c) := c_X8_type J (o := 138) (by decide) rfl hl h120
def P8_road (M : zM) (len : Nat) (r : Int32) (M2 : zM) : Prop := ((roadF (M.1 142) len (M.1 143) (peR (M.1 144)) (TR (M.1 144))).1 = 0 ∧ r = -20 - nI (roadF (M.1 142) len (M.1 143) (peR (M.1 144)) (TR (M.1 144))).2.1 ∧ RF M M2) ∨ (¬ (roadF (M.1 142) len (M.1 143) (peR (M.1 144)) (TR (M.1 144))).1 = 0 ∧ r = nI (roadF (M.1 142) len (M.1 143) (peR (M.1 144)) (TR (M.1 144))).2.2.1 ∧ RD M M2 (roadF (M.1 142) len (M.1 143) (peR (M.1 144)) (TR (M.1 144))).2.2)
theorem t8_road {l : Launch} {w : zE} (J : zJ w) {M : zM} {len : Nat} (hl : M.1 138 10 = nI len) (h120 : len ≤ 120) : zCi l w yX8_road cX8_road 3 (some .int) 3 [.ref (w.2.2 138)] M (P8_road M len) := c_X8_road J hl h120
def P8_go (M : zM) (nt : Nat) (np : Nat) (a : Nat) (u : Nat) (r : Int32) (M2 : zM) : Prop := (a = 12 ∧ r = -2 ∧ M2 = M) ∨ (a < 12 ∧ ∃ rf, r = (passF (rbM (M.1 138)) (M.1 139) (M.1 140) np 1 (M.1 141, M.1 138 18)).1 4 - M.1 141 4 ∧ M2 = zr (zs (zs (za M 145 (notU (M.1 145) (M.1 141) u)) 138 20 (nI (notN u))) 138 7 (-4)) 138 (passF (rbM (M.1 138)) (M.1 139) (M.1 140) np 1 (M.1 141, M.1 138 18)).1 rf)
theorem t8_go {l : Launch} {w : zE} (J : zJ w) {M : zM} {nt : Nat} {np : Nat} {a : Nat} {u : Nat} (ok : rOK M 138 nt np a) (hu : M.1 138 20 = nI u) (hu8 : u ≤ 8) : zCi l w yX8_go cX8_go 2 (some .int) 6 [.ref (w.2.2 138)] M (P8_go M nt np a u) := c_X8_go J (o := 138) (by decide) rfl ok hu hu8
def P8_undo (M : zM) (u : Nat) (r : Int32) (M2 : zM) : Prop := (u = 0 ∧ r = -4 ∧ M2 = M) ∨ (∃ j, u = j + 1 ∧ r = nI j ∧ M2 = za (zs M 138 20 (nI j)) 141 (fun q => M.1 145 (14 * j + q)))
theorem t8_undo {l : Launch} {w : zE} (J : zJ w) {M : zM} {u : Nat} (hu : M.1 138 20 = nI u) (h8 : u ≤ 8) : zCi l w yX8_undo cX8_undo 2 (some .int) 0 [.ref (w.2.2 138)] M (P8_undo M u) := c_X8_undo J (o := 138) (by decide) rfl hu h8
def P8_again (M : zM) (r : Int32) (M2 : zM) : Prop := r = M.1 141 3 ∧ M2 = zs M 141 3 0
theorem t8_again {l : Launch} {w : zE} (J : zJ w) {M : zM} : zCi l w yX8_again cX8_again 2 (some .int) 0 [.ref (w.2.2 138)] M (P8_again M) := c_X8_again J (o := 138) (by decide) rfl
def P8_glad (M : zM) (nt : Nat) (np : Nat) (a : Nat) (x : Int32) (r : Int32) (M2 : zM) : Prop := M2 = M ∧ r = gldS (rbM (M.1 138)) (M.1 139) (M.1 141) x
theorem t8_glad {l : Launch} {w : zE} (J : zJ w) {M : zM} {nt : Nat} {np : Nat} {a : Nat} {x : Int32} (ok : rOK M 138 nt np a) : zCi l w yX8_glad cX8_glad 2 (some .int) 4 [.ref (w.2.2 138), .int x] M (P8_glad M nt np a x) := c_X8_glad J (o := 138) (by decide) rfl ok
def P8_home (M : zM) (nt : Nat) (np : Nat) (a : Nat) (k : Int32) (r : Int32) (M2 : zM) : Prop := zgf 138 M M2 ∧ r = homR M 138 np a k
theorem t8_home {l : Launch} {w : zE} (J : zJ w) {M : zM} {nt : Nat} {np : Nat} {a : Nat} {k : Int32} (ok : rOK M 138 nt np a) : zCi l w yX8_home cX8_home 3 (some .int) 7 [.ref (w.2.2 138), .int k] M (P8_home M nt np a k) := c_X8_home J (o := 138) (by decide) rfl ok
def P8_lost (M : zM) (nt : Nat) (np : Nat) (a : Nat) (r : Int32) (M2 : zM) : Prop := zgf 138 M M2 ∧ r = lostR M 138 np a
theorem t8_lost {l : Launch} {w : zE} (J : zJ w) {M : zM} {nt : Nat} {np : Nat} {a : Nat} (ok : rOK M 138 nt np a) : zCi l w yX8_lost cX8_lost 2 (some .int) 7 [.ref (w.2.2 138)] M (P8_lost M nt np a) := c_X8_lost J (o := 138) (by decide) rfl ok
def P8_lurk (M : zM) (nt : Nat) (np : Nat) (a : Nat) (x : Int32) (k : Int32) (r : Int32) (M2 : zM) : Prop := zgf 138 M M2 ∧ r = if (0 ≤ x ∧ x < M.1 138 0) ∧ ¬ (k < 0 ∨ 1 < k) then (if whoR (M.1 141) x np = -4 then -2 else if k = 0 then (lurW (rbM (M.1 138)) (M.1 139) (M.1 140) np a nt (M.1 141) x).1 else (lurW (rbM (M.1 138)) (M.1 139) (M.1 140) np a nt (M.1 141) x).2) else -1
theorem t8_lurk {l : Launch} {w : zE} (J : zJ w) {M : zM} {nt : Nat} {np : Nat} {a : Nat} {x : Int32} {k : Int32} (ok : rOK M 138 nt np a) : zCi l w yX8_lurk cX8_lurk 9 (some .int) 7 [.ref (w.2.2 138), .int x, .int k] M (P8_lurk M nt np a x k) := c_X8_lurk J (o := 138) (by decide) rfl ok
def P8_stand (M : zM) (nt : Nat) (np : Nat) (a : Nat) (x : Int32) (k : Int32) (r : Int32) (M2 : zM) : Prop := zgf 138 M M2 ∧ r = if (0 ≤ x ∧ x < M.1 138 1) ∧ ¬ (k < 0 ∨ 1 < k) then (if a = 12 then -2 else if k = 0 then (standL (stdW (rbM (M.1 138)) (M.1 139) (M.1 140) np a (M.1 141) x.toNatClampNeg) (12 - a) a (-1, -4)).2 else (standL (stdW (rbM (M.1 138)) (M.1 139) (M.1 140) np a (M.1 141) x.toNatClampNeg) (12 - a) a (-1, -4)).1) else -1
theorem t8_stand {l : Launch} {w : zE} (J : zJ w) {M : zM} {nt : Nat} {np : Nat} {a : Nat} {x : Int32} {k : Int32} (ok : rOK M 138 nt np a) : zCi l w yX8_stand cX8_stand 8 (some .int) 7 [.ref (w.2.2 138), .int x, .int k] M (P8_stand M nt np a x k) := c_X8_stand J (o := 138) (by decide) rfl ok
def P8_sister (M : zM) (nt : Nat) (np : Nat) (a : Nat) (x : Int32) (k : Int32) (r : Int32) (M2 : zM) : Prop := zgf 138 M M2 ∧ r = if (0 ≤ x ∧ x < M.1 138 0) ∧ ¬ (k < 0 ∨ 1 < k) then (if whoR (hmR M 138 np a).1 x np = -4 then (if k = 0 then wrt (M.1 139) x else 0) else -2) else -1
theorem t8_sister {l : Launch} {w : zE} (J : zJ w) {M : zM} {nt : Nat} {np : Nat} {a : Nat} {x : Int32} {k : Int32} (ok : rOK M 138 nt np a) (hW : wOK nt (M.1 139)) (hG : mOK np (M.1 140)) : zCi l w yX8_sister cX8_sister 4 (some .int) 7 [.ref (w.2.2 138), .int x, .int k] M (P8_sister M nt np a x k) := c_X8_sister J (o := 138) (by decide) rfl ok hW hG
def P8_meet (M : zM) (nt : Nat) (np : Nat) (a : Nat) (x : Int32) (k : Int32) (r : Int32) (M2 : zM) : Prop := (¬ ((0 ≤ x ∧ x < M.1 138 0) ∧ ¬ (k < 0 ∨ 2 < k)) ∧ r = -1 ∧ M2 = M) ∨ (((0 ≤ x ∧ x < M.1 138 0) ∧ ¬ (k < 0 ∨ 2 < k)) ∧ (((¬ whoR (M.1 141) x np = -4 ∨ M.1 141 0 = -4) ∧ r = -2 ∧ M2 = M) ∨ (¬ (¬ whoR (M.1 141) x np = -4 ∨ M.1 141 0 = -4) ∧ ∃ R, R = mtL (M.1 139) 200 0 (mtT (M.1 148) (M.1 141 0) (M.1 141 1) (M.1 141 2) (M.1 138 5) x) 0 ∧ M2 = za M 148 R.2.1 ∧ r = if R.2.2 < 2 then -4 else if k = 0 then nI R.1 else if k = 1 then R.2.1 0 else R.2.1 4)))
theorem t8_meet {l : Launch} {w : zE} (J : zJ w) {M : zM} {nt : Nat} {np : Nat} {a : Nat} {x : Int32} {k : Int32} (ok : rOK M 138 nt np a) : zCi l w yX8_meet cX8_meet 6 (some .int) 2 [.ref (w.2.2 138), .int x, .int k] M (P8_meet M nt np a x k) := c_X8_meet J (o := 138) (by decide) rfl ok
def P8_first (M : zM) (nt : Nat) (np : Nat) (a : Nat) (x : Int32) (r : Int32) (M2 : zM) : Prop := zgf 138 M M2 ∧ r = if 0 ≤ x ∧ x < M.1 138 0 then firstL (fun k => whoR (M.1 141) (nI k) np) (firstR (rbM (M.1 138)) (M.1 139) (M.1 140) np a (M.1 141)) x nt 0 0 else -1
theorem t8_first {l : Launch} {w : zE} (J : zJ w) {M : zM} {nt : Nat} {np : Nat} {a : Nat} {x : Int32} (ok : rOK M 138 nt np a) : zCi l w yX8_first cX8_first 4 (some .int) 7 [.ref (w.2.2 138), .int x] M (P8_first M nt np a x) := c_X8_first J (o := 138) (by decide) rfl ok
def P8_cheated (M : zM) (nt : Nat) (np : Nat) (a : Nat) (v : Int32) (r : Int32) (M2 : zM) : Prop := zgf 138 M M2 ∧ r = if v < -99 ∨ 99 < v then -1 else (chtL (chtW (rbM (M.1 138)) (M.1 139) (M.1 140) np a (M.1 141)) v 100 0 (-4, -1000)).1
theorem t8_cheated {l : Launch} {w : zE} (J : zJ w) {M : zM} {nt : Nat} {np : Nat} {a : Nat} {v : Int32} (ok : rOK M 138 nt np a) : zCi l w yX8_cheated cX8_cheated 8 (some .int) 8 [.ref (w.2.2 138), .int v] M (P8_cheated M nt np a v) := c_X8_cheated J (o := 138) (by decide) rfl ok
def P8_chance (M : zM) (nt : Nat) (np : Nat) (a : Nat) (x : Int32) (k : Int32) (r : Int32) (M2 : zM) : Prop := zgf 138 M M2 ∧ r = if (¬ x = -4 ∧ ¬ (0 ≤ x ∧ x < M.1 138 0)) ∨ (k < 0 ∨ 1 < k) then -1 else if a < 2 then -3 else if k = 0 then (redL (12 - a) (nI (chN (chQ (rbM (M.1 138)) (M.1 139) (M.1 140) np a (M.1 141)) x (2 ^ (12 - a))))).1 else (redL (12 - a) (nI (chN (chQ (rbM (M.1 138)) (M.1 139) (M.1 140) np a (M.1 141)) x (2 ^ (12 - a))))).2
theorem t8_chance {l : Launch} {w : zE} (J : zJ w) {M : zM} {nt : Nat} {np : Nat} {a : Nat} {x : Int32} {k : Int32} (ok : rOK M 138 nt np a) : zCi l w yX8_chance cX8_chance 6 (some .int) 7 [.ref (w.2.2 138), .int x, .int k] M (P8_chance M nt np a x k) := c_X8_chance J (o := 138) (by decide) rfl ok
def P8_image (M : zM) (r : Int32) (M2 : zM) : Prop := r = 1 ∧ M2 = zs (za M 149 (imF M 138)) 138 25 1
theorem t8_image {l : Launch} {w : zE} (J : zJ w) {M : zM} : zCi l w yX8_image cX8_image 2 (some .int) 1 [.ref (w.2.2 138)] M (P8_image M) := c_X8_image J (o := 138) (by decide) rfl
def P8_restore (M : zM) (r : Int32) (M2 : zM) : Prop := (M.1 138 25 = 0 ∧ r = -4 ∧ M2 = M) ∨ (¬ M.1 138 25 = 0 ∧ r = 1 ∧ M2 = rsF M 138)
theorem t8_restore {l : Launch} {w : zE} (J : zJ w) {M : zM} : zCi l w yX8_restore cX8_restore 2 (some .int) 1 [.ref (w.2.2 138)] M (P8_restore M) := c_X8_restore J (o := 138) (by decide) rfl
def P8_seen (M : zM) (nt : Nat) (x : Int32) (ln : Int32) (i : Int32) (n : Int32) (r : Int32) (M2 : zM) : Prop := M2 = M ∧ ((((x < 0 ∨ 3 < x) ∨ (ln < 0 ∨ 3 < ln)) ∨ (n < 1 ∨ 8 < n)) ∧ r = -1 ∨ ¬ (((x < 0 ∨ 3 < x) ∨ (ln < 0 ∨ 3 < ln)) ∨ (n < 1 ∨ 8 < n)) ∧ ∃ q, q < 4 ∧ x = nI q ∧ (whyF (M.1 150 q) (M.1 151 q) ln i (2 * n) < 0 ∧ r = whyF (M.1 150 q) (M.1 151 q) ln i (2 * n) ∨ ¬ whyF (M.1 150 q) (M.1 151 q) ln i (2 * n) < 0 ∧ ∃ a m, i = nI a ∧ n = nI m ∧ a + 2 * m ≤ 16 ∧ (¬ allIn (fun k => M.2 152 (16 * q + k)) (M.1 138 0) (2 * m) a ∧ r = -2 ∨ allIn (fun k => M.2 152 (16 * q + k)) (M.1 138 0) (2 * m) a ∧ r = seenL (M.1 139) (fun k => M.2 152 (16 * q + k)) m a 3)))
theorem t8_seen {l : Launch} {w : zE} (J : zJ w) {M : zM} {nt : Nat} {x : Int32} {ln : Int32} {i : Int32} {n : Int32} (hnt : M.1 138 0 = nI nt) (h10 : nt ≤ 10) (kd : kdOK (M.1 139)) (hS : szOK (M.1 151)) : zCi l w yX8_seen cX8_seen 10 (some .int) 2 [.ref (w.2.2 138), .int x, .int ln, .int i, .int n] M (P8_seen M nt x ln i n) := c_X8_seen J (o := 138) (by decide) rfl hnt h10 kd hS
def P8_film (M : zM) (nt : Nat) (np : Nat) (a : Nat) (x : Int32) (ln : Int32) (i : Int32) (r : Int32) (M2 : zM) : Prop := (((x < 0 ∨ 3 < x) ∨ (ln < 0 ∨ 3 < ln)) ∧ r = -1 ∧ M2 = M) ∨ (¬ ((x < 0 ∨ 3 < x) ∨ (ln < 0 ∨ 3 < ln)) ∧ ∃ q, q < 4 ∧ x = nI q ∧ ((whyF (M.1 150 q) (M.1 151 q) ln i (nI (12 - a)) < 0 ∧ r = whyF (M.1 150 q) (M.1 151 q) ln i (nI (12 - a)) ∧ M2 = M) ∨ (¬ whyF (M.1 150 q) (M.1 151 q) ln i (nI (12 - a)) < 0 ∧ r = nI (12 - a) ∧ ∃ p, i = nI p ∧ p + (12 - a) ≤ 16 ∧ zgf 138 M (M2.1, M.2) ∧ M2.2 = va_up M.2 152 (filmL (rbM (M.1 138)) (M.1 139) (M.1 140) np (M.1 150 q) (12 - a) (16 * q + p) (M.1 141, M.1 138 18) (M.2 152)))))
theorem t8_film {l : Launch} {w : zE} (J : zJ w) {M : zM} {nt : Nat} {np : Nat} {a : Nat} {x : Int32} {ln : Int32} {i : Int32} (ok : rOK M 138 nt np a) (hS : szOK (M.1 151)) : zCi l w yX8_film cX8_film 7 (some .int) 7 [.ref (w.2.2 138), .int x, .int ln, .int i] M (P8_film M nt np a x ln i) := c_X8_film J (o := 138) (by decide) rfl ok hS
def P8_deal (M : zM) (np : Nat) (x : Int32) (ln : Int32) (i : Int32) (r : Int32) (M2 : zM) : Prop := (((x < 0 ∨ 3 < x) ∨ (ln < 0 ∨ 3 < ln)) ∧ r = -1 ∧ M2 = M) ∨ (¬ ((x < 0 ∨ 3 < x) ∨ (ln < 0 ∨ 3 < ln)) ∧ ∃ q, q < 4 ∧ x = nI q ∧ ((whyF (M.1 150 q) (M.1 151 q) ln i (nI np) < 0 ∧ r = whyF (M.1 150 q) (M.1 151 q) ln i (nI np) ∧ M2 = M) ∨ (¬ whyF (M.1 150 q) (M.1 151 q) ln i (nI np) < 0 ∧ ∃ a, i = nI a ∧ a + np ≤ 16 ∧ ((dlR (fun k => M.2 152 (16 * q + k)) (M.1 138 0) np a (dlD (M.1 141 0)) = false ∧ r = -2 ∧ M2 = M) ∨ (dlR (fun k => M.2 152 (16 * q + k)) (M.1 138 0) np a (dlD (M.1 141 0)) = true ∧ r = nI np ∧ M2 = za M 141 (dealT (M.1 141) (fun k => M.2 152 (16 * q + k)) a np))))))
theorem t8_deal {l : Launch} {w : zE} (J : zJ w) {M : zM} {np : Nat} {x : Int32} {ln : Int32} {i : Int32} (hnp : M.1 138 1 = nI np) (h8 : np ≤ 8) (hS : szOK (M.1 151)) : zCi l w yX8_deal cX8_deal 9 (some .int) 2 [.ref (w.2.2 138), .int x, .int ln, .int i] M (P8_deal M np x ln i) := c_X8_deal J (o := 138) (by decide) rfl hnp h8 hS
def P8_sheet (M : zM) (x : Int32) (ln : Int32) (n : Int32) (r : Int32) (M2 : zM) : Prop := (((x < 0 ∨ 3 < x) ∨ (ln < 0 ∨ 3 < ln) ∨ 16 < n) ∧ r = -1 ∧ M2 = M) ∨ (¬ ((x < 0 ∨ 3 < x) ∨ (ln < 0 ∨ 3 < ln) ∨ 16 < n) ∧ ((n < 0 ∧ r = -14 ∧ M2 = M) ∨ ∃ j, j < 4 ∧ x = nI j ∧ ¬ n < 0 ∧ r = n ∧ M2 = zya (zs (zs M 150 j ln) 151 j n) 152 (zeL (M.2 152) (16 * j) 16)))
theorem t8_sheet {l : Launch} {w : zE} (J : zJ w) {M : zM} {x : Int32} {ln : Int32} {n : Int32} : zCi l w yX8_sheet cX8_sheet 5 (some .int) 2 [.ref (w.2.2 138), .int x, .int ln, .int n] M (P8_sheet M x ln n) := c_X8_sheet J (o := 138) (by decide) rfl
def P8_drop (M : zM) (x : Int32) (r : Int32) (M2 : zM) : Prop := ((x < 0 ∨ 3 < x) ∧ r = -1 ∧ M2 = M) ∨ ∃ j, j < 4 ∧ x = nI j ∧ ((M.1 150 j < 0 ∧ r = -11 ∧ M2 = M) ∨ (¬ M.1 150 j < 0 ∧ r = M.1 151 j ∧ M2 = zs M 150 j (-1)))
theorem t8_drop {l : Launch} {w : zE} (J : zJ w) {M : zM} {x : Int32} : zCi l w yX8_drop cX8_drop 2 (some .int) 2 [.ref (w.2.2 138), .int x] M (P8_drop M x) := c_X8_drop J (o := 138) (by decide) rfl
def P8_item (M : zM) (x : Int32) (ln : Int32) (i : Int32) (v : Int64) (r : Int32) (M2 : zM) : Prop := (((x < 0 ∨ 3 < x) ∨ (ln < 0 ∨ 3 < ln)) ∧ r = -1 ∧ M2 = M) ∨ (¬ ((x < 0 ∨ 3 < x) ∨ (ln < 0 ∨ 3 < ln)) ∧ ∃ j, j < 4 ∧ x = nI j ∧ ((whyF (M.1 150 j) (M.1 151 j) ln i 1 < 0 ∧ r = whyF (M.1 150 j) (M.1 151 j) ln i 1 ∧ M2 = M) ∨ (¬ whyF (M.1 150 j) (M.1 151 j) ln i 1 < 0 ∧ r = 1 ∧ ∃ a, i = nI a ∧ a < 16 ∧ M2 = zy M 152 (16 * j + a) (putF (M.1 150 j) v))))
theorem t8_item {l : Launch} {w : zE} (J : zJ w) {M : zM} {x : Int32} {ln : Int32} {i : Int32} {v : Int64} (hS : szOK (M.1 151)) : zCi l w yX8_item cX8_item 7 (some .int) 2 [.ref (w.2.2 138), .int x, .int ln, .int i, .long v] M (P8_item M x ln i v) := c_X8_item J (o := 138) (by decide) rfl hS
def P8_copy (M : zM) (x : Int32) (i : Int32) (y : Int32) (j : Int32) (n : Int32) (r : Int32) (M2 : zM) : Prop := (((x < 0 ∨ 3 < x) ∨ (y < 0 ∨ 3 < y)) ∧ r = -1 ∧ M2 = M) ∨ (¬ ((x < 0 ∨ 3 < x) ∨ (y < 0 ∨ 3 < y)) ∧ ∃ q p, q < 4 ∧ p < 4 ∧ x = nI q ∧ y = nI p ∧ (((M.1 150 q < 0 ∨ M.1 150 p < 0) ∧ r = -11 ∧ M2 = M) ∨ (¬ (M.1 150 q < 0 ∨ M.1 150 p < 0) ∧ ((¬ M.1 150 q = M.1 150 p ∧ r = -12 ∧ M2 = M) ∨ (M.1 150 q = M.1 150 p ∧ (((n < 0 ∨ whyF (M.1 150 q) (M.1 151 q) (M.1 150 q) i n < 0 ∨ whyF (M.1 150 p) (M.1 151 p) (M.1 150 p) j n < 0) ∧ r = -13 ∧ M2 = M) ∨ (¬ (n < 0 ∨ whyF (M.1 150 q) (M.1 151 q) (M.1 150 q) i n < 0 ∨ whyF (M.1 150 p) (M.1 151 p) (M.1 150 p) j n < 0) ∧ r = n ∧ ∃ a b m, i = nI a ∧ j = nI b ∧ n = nI m ∧ a + m ≤ 16 ∧ b + m ≤ 16 ∧ M2 = zya (zya M 153 (mvL (M.2 152) (16 * q + a) (M.2 153) 0 m)) 152 (mvL (mvL (M.2 152) (16 * q + a) (M.2 153) 0 m) 0 (M.2 152) (16 * p + b) m))))))))
theorem t8_copy {l : Launch} {w : zE} (J : zJ w) {M : zM} {x : Int32} {i : Int32} {y : Int32} {j : Int32} {n : Int32} (hS : szOK (M.1 151)) : zCi l w yX8_copy cX8_copy 7 (some .int) 2 [.ref (w.2.2 138), .int x, .int i, .int y, .int j, .int n] M (P8_copy M x i y j n) := c_X8_copy J (o := 138) (by decide) rfl hS
end
section
/-! class and reference say the same: SX A B: the class's cells of A, the reference's of B -/
def rowT (U : zF1) (j : Nat) : zF1 := fun q => U (14 * j + q)
def tOK (nt np : Nat) (T : zF1) : Prop := tv9 nt T ∧ uq np T ∧ nz T ∧ ∃ b, b ≤ 12 ∧ T 3 = nI b
def WR (A : zM) (n : Nat) (R0 R1 R5 R6 R20 : Int32) (th pe T U : zF1) (nt np a u : Nat) : Prop :=
  (nt ≤ 10 ∧ np ≤ 8 ∧ a ≤ 12 ∧ u ≤ 8)
  ∧ (A.1 (n + 1) 0 = nI nt ∧ A.1 (n + 1) 1 = nI np ∧ A.1 (n + 1) 2 = R5 ∧ A.1 (n + 1) 3 = R6 ∧ A.1 n 3 = nI u)
  ∧ (R0 = nI nt ∧ R1 = nI np ∧ R20 = nI u)
  ∧ (thE nt (A.1 (n + 2)) th ∧ peE np (A.1 (n + 13)) pe)
  ∧ (∃ d, trx np d s5 (A.1 (n + 15)) T)
  ∧ pmF (A.1 (n + 17))
  ∧ (∀ j, j < u → ∃ d, trx np d s5 (A.1 (n + 18 + 2 * (A.1 (n + 17) j).toNatClampNeg)) (rowT U j))
  ∧ (kdOK th ∧ wOK nt th ∧ mOK np pe)
  ∧ (tOK nt np T ∧ T 3 = nI a)
  ∧ (∀ j, j < u → tOK nt np (rowT U j))
def WN (A B : zM) (nt np a u : Nat) : Prop := WR A 1 (B.1 138 0) (B.1 138 1) (B.1 138 5) (B.1 138 6) (B.1 138 20) (B.1 139) (B.1 140) (B.1 141) (B.1 145) nt np a u
def WK (A B : zM) (nt np a u : Nat) : Prop := WR A 35 (B.1 149 0) (B.1 149 1) (B.1 149 2) (B.1 149 3) (B.1 149 4) (fun q => B.1 149 (5 + q)) (fun q => B.1 149 (45 + q)) (fun q => B.1 149 (61 + q)) (fun q => B.1 149 (75 + q)) nt np a u
def KR (A B : zM) : Prop := pmF (A.1 52) ∧ A.1 0 2 = B.1 138 25 ∧ (¬ A.1 0 2 = 0 → ∃ nt np a u, WK A B nt np a u)
def TP (A B : zM) (len : Nat) : Prop := A.1 69 1 = nI len ∧ B.1 138 10 = nI len ∧ len ≤ 120 ∧ A.1 70 = B.1 142 ∧ ltOK (A.1 70) len
def SH1 (A B : zM) (q : Nat) : Prop := (A.1 (130 + 2 * q) 0 = 0 ∧ B.1 150 q = -1 ∨ A.1 (130 + 2 * q) 0 = 1 ∧ ∃ l, l < 4 ∧ A.1 (130 + 2 * q) 1 = nI l ∧ B.1 150 q = nI l) ∧ (∃ L, L ≤ 16 ∧ A.1 (130 + 2 * q) 2 = nI L ∧ B.1 151 q = nI L) ∧ ∀ i, i < 16 → A.2 (130 + 2 * q + 1) i = B.2 152 (16 * q + i)
def SH (A B : zM) : Prop := ∀ q, q < 4 → SH1 A B q
def SX (A B : zM) (nt np a u len : Nat) : Prop := WN A B nt np a u ∧ B.1 138 8 = 0 ∧ KR A B ∧ TP A B len ∧ SH A B
def Sim (M : zM) : Prop := ∃ nt np a u len, SX M M nt np a u len
theorem SX.sim {M : zM} {nt np a u len : Nat} (h : SX M M nt np a u len) : Sim M := ⟨nt, np, a, u, len, h⟩
theorem pm_n {f : zF1} (h : pmF f) {k : Nat} (hk : k < 8) : (f k).toNatClampNeg < 8 := by
  obtain ⟨j, h1, h2⟩ := h.1 k hk
  rw [h2, nI_clamp (by omega)]
  exact h1
theorem WR.A {A A' : zM} {n : Nat} {R0 R1 R5 R6 R20 : Int32} {th pe T U : zF1} {nt np a u : Nat} (h : WR A n R0 R1 R5 R6 R20 th pe T U nt np a u) (e : ∀ b, n ≤ b → b < n + 34 → A'.1 b = A.1 b) : WR A' n R0 R1 R5 R6 R20 th pe T U nt np a u := by
  obtain ⟨h1, h2, h3, h4, h5, h6, h7, h8, h9, h10⟩ := h
  have e17 := e (n + 17) (by omega) (by omega)
  refine ⟨h1, ?_, h3, ?_, ?_, ?_, fun j hj => ?_, h8, h9, h10⟩
  · rw [e (n + 1) (by omega) (by omega), e n (by omega) (by omega)]; exact h2
  · rw [e (n + 2) (by omega) (by omega), e (n + 13) (by omega) (by omega)]; exact h4
  · rw [e (n + 15) (by omega) (by omega)]; exact h5
  · rw [e17]; exact h6
  · have := pm_n h6 (k := j) (by omega)
    rw [e17, e _ (by omega) (by omega)]
    exact h7 j hj
theorem SX.world {M M3 : zM} {nt np a u nt' np' a' u' len : Nat} (S : SX M M nt np a u len) (eA : ∀ b, (b = 0 ∨ 35 ≤ b) → b < 138 → (b < 87 ∨ 129 ≤ b) → M3.1 b = M.1 b) (eB : ∀ b, (b = 142 ∨ b = 149 ∨ b = 150 ∨ b = 151) → M3.1 b = M.1 b) (e8 : ∀ k, (k = 10 ∨ k = 25) → M3.1 138 k = M.1 138 k) (e88 : M3.1 138 8 = 0) (e2 : M3.2 = M.2) (W : WN M3 M3 nt' np' a' u') : SX M3 M3 nt' np' a' u' len := by
  obtain ⟨w, ts, ⟨k1, k2, k3⟩, ⟨t1, t2, t3, t4, t5⟩, sh⟩ := S
  refine ⟨W, e88, ⟨?_, ?_, fun hz => ?_⟩, ⟨?_, ?_, t3, ?_, ?_⟩, fun q hq => ?_⟩
  · rw [eA 52 (by omega) (by omega) (by omega)]; exact k1
  · rw [eA 0 (by omega) (by omega) (by omega), e8 25 (by omega)]; exact k2
  · rw [eA 0 (by omega) (by omega) (by omega)] at hz
    obtain ⟨a1, a2, a3, a4, K⟩ := k3 hz
    refine ⟨a1, a2, a3, a4, ?_⟩
    unfold WK
    rw [eB 149 (by omega)]
    exact WR.A K (fun b h1 h2 => eA b (by omega) (by omega) (by omega))
  · rw [eA 69 (by omega) (by omega) (by omega)]; exact t1
  · rw [e8 10 (by omega)]; exact t2
  · rw [eA 70 (by omega) (by omega) (by omega), eB 142 (by omega)]; exact t4
  · rw [eA 70 (by omega) (by omega) (by omega)]; exact t5
  · unfold SH1
    rw [eA (130 + 2 * q) (by omega) (by omega) (by omega), eB 150 (by omega), eB 151 (by omega), e2]
    exact sh q hq
theorem SX.sheets {M M3 : zM} {nt np a u len : Nat} (S : SX M M nt np a u len) (eA : ∀ b, b < 87 → M3.1 b = M.1 b) (eB : ∀ b, (b = 139 ∨ b = 140 ∨ b = 141 ∨ b = 142 ∨ b = 145 ∨ b = 149) → M3.1 b = M.1 b) (e8 : ∀ k, k ≠ 7 → k ≠ 8 → k ≠ 18 → M3.1 138 k = M.1 138 k) (e88 : M3.1 138 8 = 0) (H : SH M3 M3) : SX M3 M3 nt np a u len := by
  obtain ⟨w, ts, ⟨k1, k2, k3⟩, ⟨t1, t2, t3, t4, t5⟩, sh⟩ := S
  refine ⟨?_, e88, ⟨?_, ?_, fun hz => ?_⟩, ⟨?_, ?_, t3, ?_, ?_⟩, H⟩
  · unfold WN
    rw [e8 0 (by omega) (by omega) (by omega), e8 1 (by omega) (by omega) (by omega), e8 5 (by omega) (by omega) (by omega), e8 6 (by omega) (by omega) (by omega), e8 20 (by omega) (by omega) (by omega), eB 139 (by omega), eB 140 (by omega), eB 141 (by omega), eB 145 (by omega)]
    exact WR.A w (fun b h1 h2 => eA b (by omega))
  · rw [eA 52 (by omega)]; exact k1
  · rw [eA 0 (by omega), e8 25 (by omega) (by omega) (by omega)]; exact k2
  · rw [eA 0 (by omega)] at hz
    obtain ⟨a1, a2, a3, a4, K⟩ := k3 hz
    refine ⟨a1, a2, a3, a4, ?_⟩
    unfold WK
    rw [eB 149 (by omega)]
    exact WR.A K (fun b h1 h2 => eA b (by omega))
  · rw [eA 69 (by omega)]; exact t1
  · rw [e8 10 (by omega) (by omega) (by omega)]; exact t2
  · rw [eA 70 (by omega), eB 142 (by omega)]; exact t4
  · rw [eA 70 (by omega)]; exact t5
/-- the reference's part hangs on its own cells alone -/
theorem SX.B {A B B' : zM} {nt np a u len : Nat} (S : SX A B nt np a u len) (e : ∀ b, 138 ≤ b → B'.1 b = B.1 b) (e2 : B'.2 152 = B.2 152) : SX A B' nt np a u len := by
  obtain ⟨w, ts, ⟨k1, k2, k3⟩, ⟨t1, t2, t3, t4, t5⟩, sh⟩ := S
  refine ⟨?_, by rw [e 138 (by omega)]; exact ts, ⟨k1, by rw [e 138 (by omega)]; exact k2, fun hz => ?_⟩, ⟨t1, by rw [e 138 (by omega)]; exact t2, t3, by rw [e 142 (by omega)]; exact t4, t5⟩, fun q hq => ?_⟩
  · unfold WN
    rw [e 138 (by omega), e 139 (by omega), e 140 (by omega), e 141 (by omega), e 145 (by omega)]
    exact w
  · obtain ⟨a1, a2, a3, a4, K⟩ := k3 hz
    refine ⟨a1, a2, a3, a4, ?_⟩
    unfold WK
    rw [e 149 (by omega)]
    exact K
  · unfold SH1
    rw [e 150 (by omega), e 151 (by omega), e2]
    exact sh q hq
theorem SX.rok {A B : zM} {nt np a u len : Nat} (S : SX A B nt np a u len) : rOK B 138 nt np a := by
  obtain ⟨⟨⟨b1, b2, b3, b4⟩, _, ⟨r1, r2, r3⟩, _, _, _, _, ⟨kd, _, _⟩, ⟨tk, ta⟩, _⟩, ts, _⟩ := S
  exact ⟨r1, b1, r2, b2, kd, tk.1, ta, b3, ts⟩
theorem SX.nok {A B : zM} {nt np a u len : Nat} (S : SX A B nt np a u len) : nowOK A 1 np a := by
  obtain ⟨⟨⟨b1, b2, b3, b4⟩, ⟨c1, c2, c3, c4, c5⟩, _, _, ⟨d, t⟩, _, _, _, ⟨tk, ta⟩, _⟩, _⟩ := S
  refine ⟨?_, c2, b2, ?_, b3⟩
  · show A.1 (1 + 1) 0 ≤ 10
    rw [c1]
    exact nI_le (b := 10) b1 (by decide)
  · exact t.2.2.2.1.trans ta
theorem SX.nt10 {A B : zM} {nt np a u len : Nat} (S : SX A B nt np a u len) : A.1 2 0 ≤ 10 := S.nok.1
theorem SX.rb {A B : zM} {nt np a u len : Nat} (S : SX A B nt np a u len) : rbE nt (A.1 2) (rbM (B.1 138)) := by
  obtain ⟨⟨_, ⟨c1, c2, c3, c4, c5⟩, ⟨r1, r2, r3⟩, _⟩, _⟩ := S
  exact ⟨c1, r1, c3, c4⟩
theorem SX.th {A B : zM} {nt np a u len : Nat} (S : SX A B nt np a u len) : thE nt (A.1 3) (B.1 139) := S.1.2.2.2.1.1
theorem SX.pe {A B : zM} {nt np a u len : Nat} (S : SX A B nt np a u len) : peE np (A.1 14) (B.1 140) := S.1.2.2.2.1.2
theorem SX.tr {A B : zM} {nt np a u len : Nat} (S : SX A B nt np a u len) : ∃ d, trx np d s5 (A.1 16) (B.1 141) := S.1.2.2.2.2.1
theorem SX.tk {A B : zM} {nt np a u len : Nat} (S : SX A B nt np a u len) : tOK nt np (B.1 141) := S.1.2.2.2.2.2.2.2.2.1.1
theorem SX.ta {A B : zM} {nt np a u len : Nat} (S : SX A B nt np a u len) : B.1 141 3 = nI a := S.1.2.2.2.2.2.2.2.2.1.2
theorem SX.kd {A B : zM} {nt np a u len : Nat} (S : SX A B nt np a u len) : kdOK (B.1 139) ∧ wOK nt (B.1 139) ∧ mOK np (B.1 140) := S.1.2.2.2.2.2.2.2.1
theorem SX.bd {A B : zM} {nt np a u len : Nat} (S : SX A B nt np a u len) : nt ≤ 10 ∧ np ≤ 8 ∧ a ≤ 12 ∧ u ≤ 8 := S.1.1
theorem SX.cf {A B : zM} {nt np a u len : Nat} (S : SX A B nt np a u len) : A.1 2 0 = nI nt ∧ A.1 2 1 = nI np ∧ A.1 2 2 = B.1 138 5 ∧ A.1 2 3 = B.1 138 6 ∧ A.1 1 3 = nI u := S.1.2.1
theorem SX.rf {A B : zM} {nt np a u len : Nat} (S : SX A B nt np a u len) : B.1 138 0 = nI nt ∧ B.1 138 1 = nI np ∧ B.1 138 20 = nI u := S.1.2.2.1
theorem SX.pm {A B : zM} {nt np a u len : Nat} (S : SX A B nt np a u len) : pmF (A.1 18) := S.1.2.2.2.2.2.1
theorem SX.sz {A B : zM} {nt np a u len : Nat} (S : SX A B nt np a u len) : szOK (B.1 151) := fun q hq => by
  obtain ⟨_, ⟨L, h1, h2, h3⟩, _⟩ := S.2.2.2.2 q hq
  exact ⟨L, h1, h3⟩
theorem SX.vx {A B : zM} {nt np a u len : Nat} (S : SX A B nt np a u len) : A.1 16 0 = -4 ∨ 0 ≤ A.1 16 0 ∧ A.1 16 0 < 10 := by
  obtain ⟨d, t⟩ := S.tr
  rw [t.1]
  have b := S.bd.1
  rcases S.tk.1.1 with h | ⟨j, hj, h⟩
  · exact Or.inl h
  · rw [h]; exact Or.inr ⟨nI_pos' (by omega), nI_lt (b := 10) (by omega) (by decide)⟩
/-- what is foretold changes nothing that shows -/
theorem SX.fore {M M2 M3 : zM} {nt np a u len : Nat} (S : SX M M nt np a u len) (f : zfr M M2) (g : zgf 138 M2 M3) : SX M3 M3 nt np a u len := by
  obtain ⟨f1, f2⟩ := f
  obtain ⟨g1, g2, g3, g4⟩ := g
  have e : ∀ b, b ≠ 138 → b ≠ 146 → b ≠ 147 → b ≠ 148 → (b < 87 ∨ 129 ≤ b) → M3.1 b = M.1 b := fun b h1 h2 h3 h4 h5 => (g2 b h1 h2 h3 h4).trans (f2 b h5)
  have e2 : M3.2 = M.2 := g1.trans f1
  refine S.sheets (fun b hb => e b (by omega) (by omega) (by omega) (by omega) (by omega)) (fun b hb => e b (by omega) (by omega) (by omega) (by omega) (by omega)) (fun k h1 h2 h3 => (g3 k h1 h2 h3).trans (by rw [f2 138 (by omega)])) g4 (fun q hq => ?_)
  unfold SH1
  rw [e (130 + 2 * q) (by omega) (by omega) (by omega) (by omega) (by omega), e 150 (by omega) (by omega) (by omega) (by omega) (by omega), e 151 (by omega) (by omega) (by omega) (by omega) (by omega), e2]
  exact S.2.2.2.2 q hq
theorem SX.zfr {M M2 : zM} {nt np a u len : Nat} (S : SX M M nt np a u len) (f : zfr M M2) : SX M M2 nt np a u len := S.B (fun b hb => f.2 b (by omega)) (by rw [f.1])
end
section
/-! what is told and foretold is alike -/
theorem sub_sh (x y d : Int32) : (x + d) - (y + d) = x - y := by grind
theorem SX.hm {A B : zM} {nt np a u len : Nat} {d : Int32} (S : SX A B nt np a u len) (t : trx np d s5 (A.1 16) (B.1 141)) : trx np d s5 (hmF A 1 np a).1 (hmR B 138 np a).1 ∧ (hmF A 1 np a).2 = (hmR B 138 np a).2 := home_cg S.bd.1 S.rb S.th S.pe (12 - a) (A.1 16, -4) (B.1 141, -4) t rfl
theorem a_home {A B : zM} {nt np a u len : Nat} {k : Int32} (S : SX A B nt np a u len) : homR B 138 np a k = homS A 1 np a k := by
  obtain ⟨d, t⟩ := S.tr
  obtain ⟨h, e⟩ := S.hm t
  unfold homR homS
  rw [h.1, h.2.2.2.2.1, e, show A.1 (1 + 15) 4 = B.1 141 4 + d from t.2.2.2.2.1, sub_sh]
theorem hmR_vx {A B : zM} {nt np a u len : Nat} (S : SX A B nt np a u len) : tv9 nt (hmR B 138 np a).1 := hmR_tv S.rok
theorem a_lost {A B : zM} {nt np a u len : Nat} (S : SX A B nt np a u len) : lostR B 138 np a = lostS A 1 np a := by
  obtain ⟨d, t⟩ := S.tr
  obtain ⟨h, e⟩ := S.hm t
  unfold lostR lostS
  rw [h.1, show A.1 (1 + 15) 0 = B.1 141 0 from t.1, show A.1 (1 + 1) 0 = nI nt from S.cf.1, worth_cg S.bd.1 S.th S.tk.1.1, worth_cg S.bd.1 S.th (hmR_vx S).1]
theorem wait_QQ {A B : zM} {nt np a u len : Nat} (S : SX A B nt np a u len) (k : Nat) : waitQ (A.1 2) (A.1 3) (A.1 14) np a (A.1 16) k = lurQ (rbM (B.1 138)) (B.1 139) (B.1 140) np a (B.1 141) k := by
  obtain ⟨d, t0, t1, t2, t3, t4, t5⟩ := S.tr
  have h8 := S.bd.2.1
  funext m
  unfold waitQ lurQ
  have hr : rbE nt (va_up (A.1 2) 1 (nI (np + 1))) (rbM (B.1 138)) := S.rb
  have hp : peE np (va_up (va_up (A.1 14) (2 * np) (nI m)) (2 * np + 1) 0) (B.1 140) := fun q hq => by rw [va_up_ne _ _ (by omega), va_up_ne _ _ (by omega)]; exact S.pe q hq
  have tt : trx (np + 1) d (s13 np) (va_up (A.1 16) (5 + np) (nI k)) (va_up (B.1 141) 13 (nI k)) := by
    refine ⟨?_, ?_, ?_, ?_, ?_, fun p hp => ?_⟩
    · rw [va_up_ne _ _ (by omega), va_up_ne _ _ (by omega), t0]
    · rw [va_up_ne _ _ (by omega), va_up_ne _ _ (by omega), t1]
    · rw [va_up_ne _ _ (by omega), va_up_ne _ _ (by omega), t2]
    · rw [va_up_ne _ _ (by omega), va_up_ne _ _ (by omega), t3]
    · rw [va_up_ne _ _ (by omega), va_up_ne _ _ (by omega), t4]
    · by_cases z : p < np
      · rw [show s13 np p = 5 + p from if_pos z, va_up_ne _ _ (by omega), va_up_ne _ _ (by omega)]
        exact t5 p z
      · obtain rfl : p = np := by omega
        rw [show s13 p p = 13 from if_neg z, va_up_self, va_up_self]
  have h := homeM_cg (d := d) S.bd.1 h8 hr S.th hp (mo := nI m) (by rw [va_up_ne _ _ (by omega), va_up_self]) (va_up_self _ _ _) (12 - a) (va_up (A.1 16) (5 + np) (nI k), -4) (va_up (B.1 141) 13 (nI k), -4) tt rfl
  have := h.2.2.2.2.2 np (by omega)
  rw [show s13 np np = 13 from if_neg (by omega)] at this
  exact this
theorem a_lurk {A B : zM} {nt np a u len : Nat} {x k m0 : Int32} (S : SX A B nt np a u len) : (if (0 ≤ x ∧ x < B.1 138 0) ∧ ¬ (k < 0 ∨ 1 < k) then (if whoR (B.1 141) x np = -4 then -2 else if k = 0 then (lurW (rbM (B.1 138)) (B.1 139) (B.1 140) np a nt (B.1 141) x).1 else (lurW (rbM (B.1 138)) (B.1 139) (B.1 140) np a nt (B.1 141) x).2) else -1) = lrkS A 1 np a nt x k m0 := by
  obtain ⟨d, t⟩ := S.tr
  have eS : (fun k => waitS (waitQ (A.1 2) (A.1 3) (A.1 14) np a (A.1 16) k) x (12 - a) a) = (fun k => waitS (lurQ (rbM (B.1 138)) (B.1 139) (B.1 140) np a (B.1 141) k) x (12 - a) a) := funext fun k => by rw [wait_QQ S]
  have hw : ∀ y, vx nt y → worthO (A.1 3) (nI nt) y = wrt (B.1 139) y := fun y hy => worth_cg S.bd.1 S.th hy
  have hV : ∀ k, k < nt → ((fun k => whoF (A.1 16) np (nI k)) k = -4 ↔ (fun k => whoR (B.1 141) (nI k) np) k = -4) := fun k _ => who_cg S.bd.2.1 t
  have W := wait_cg (S := fun k => waitS (lurQ (rbM (B.1 138)) (B.1 139) (B.1 140) np a (B.1 141) k) x (12 - a) a) hw hV S.bd.1 nt 0 (-4, m0) (-4, -4) (by omega) rfl (Or.inl rfl) (fun z => absurd rfl z) (fun _ => rfl)
  have e1 : wtS A 1 np a nt x m0 = waitL (worthO (A.1 3) (nI nt)) (fun k => whoF (A.1 16) np (nI k)) (fun k => waitS (lurQ (rbM (B.1 138)) (B.1 139) (B.1 140) np a (B.1 141) k) x (12 - a) a) nt 0 (-4, m0) := by rw [← eS, ← S.cf.1]; rfl
  unfold lrkS
  rw [e1, show A.1 (1 + 1) 0 = nI nt from S.cf.1, S.rf.1]
  unfold lurW
  generalize waitL (worthO (A.1 3) (nI nt)) (fun k => whoF (A.1 16) np (nI k)) (fun k => waitS (lurQ (rbM (B.1 138)) (B.1 139) (B.1 140) np a (B.1 141) k) x (12 - a) a) nt 0 (-4, m0) = C at W
  generalize waitL (wrt (B.1 139)) (fun k => whoR (B.1 141) (nI k) np) (fun k => waitS (lurQ (rbM (B.1 138)) (B.1 139) (B.1 140) np a (B.1 141) k) x (12 - a) a) nt 0 (-4, -4) = R at W
  obtain ⟨w1, w2, w3⟩ := W
  by_cases hb : (0 ≤ x ∧ x < nI nt) ∧ ¬ (k < 0 ∨ 1 < k)
  · rw [if_pos hb, if_pos hb]
    by_cases hw2 : whoR (B.1 141) x np = -4
    · rw [if_pos hw2, if_pos ((who_cg S.bd.2.1 t).mpr hw2)]
    · rw [if_neg hw2, if_neg (fun z => hw2 ((who_cg S.bd.2.1 t).mp z))]
      by_cases z : C.1 = -4
      · rw [if_pos z]
        have z' : R.1 = -4 := w1.symm.trans z
        rw [z', w3 z']
        split <;> rfl
      · rw [if_neg z, w1, w2 z]
  · rw [if_neg hb, if_neg hb]
theorem wrt_ge {nt : Nat} {th : zF1} {x : Int32} (h10 : nt ≤ 10) (hW : wOK nt th) (v : vx nt x) : ∃ z, z ≤ 99 ∧ wrt th x = nI z := by
  rcases v with rfl | ⟨j, hj, rfl⟩
  · exact ⟨0, by omega, rfl⟩
  · obtain ⟨z, h1, h2⟩ := hW j hj
    exact ⟨z, h1, by rw [wrt_n _ (by omega), h2]⟩
theorem stand_W {A B : zM} {nt np a u len p : Nat} (S : SX A B nt np a u len) (hp : p < np) (k : Nat) : standW (A.1 2) (A.1 3) (A.1 14) np a (A.1 16) p k = stdW (rbM (B.1 138)) (B.1 139) (B.1 140) np a (B.1 141) p k ∧ -1 < stdW (rbM (B.1 138)) (B.1 139) (B.1 140) np a (B.1 141) p k := by
  obtain ⟨d, t⟩ := S.tr
  have hpe : peE np (va_up (A.1 14) (2 * p) (nI k)) (va_up (B.1 140) (2 * p) (nI k)) := fun q hq => by
    by_cases z : q = 2 * p
    · subst z; rw [va_up_self, va_up_self]
    · rw [va_up_ne _ _ z, va_up_ne _ _ z]; exact S.pe q hq
  have h := (home_cg S.bd.1 S.rb S.th hpe (12 - a) (A.1 16, -4) (B.1 141, -4) t rfl).1
  have tv : tv9 nt (homeF (rbM (B.1 138)) (B.1 139) (va_up (B.1 140) (2 * p) (nI k)) np (12 - a) (B.1 141, -4)).1 := hm_tv _ _ _ (by have := S.bd.2.1; omega) (a := a) S.ta (by have := S.bd.2.2.1; omega) S.tk.1
  have v := tv.2.1 p (by have := S.bd.2.1; omega)
  unfold standW stdW
  rw [h.2.2.2.2.2 p hp, S.cf.1]
  obtain ⟨z, z1, z2⟩ := wrt_ge S.bd.1 S.kd.2.1 v
  refine ⟨worth_cg S.bd.1 S.th v, ?_⟩
  rw [z2]
  exact Int32.lt_of_lt_of_le (by decide : (-1 : Int32) < 0) (nI_pos' (by omega))
theorem a_stand {A B : zM} {nt np a u len : Nat} {x k m0 : Int32} (S : SX A B nt np a u len) : (if (0 ≤ x ∧ x < B.1 138 1) ∧ ¬ (k < 0 ∨ 1 < k) then (if a = 12 then -2 else if k = 0 then (standL (stdW (rbM (B.1 138)) (B.1 139) (B.1 140) np a (B.1 141) x.toNatClampNeg) (12 - a) a (-1, -4)).2 else (standL (stdW (rbM (B.1 138)) (B.1 139) (B.1 140) np a (B.1 141) x.toNatClampNeg) (12 - a) a (-1, -4)).1) else -1) = (if (0 ≤ x ∧ x < A.1 2 1) ∧ ¬ (k < 0 ∨ 1 < k) then (if 12 ≤ A.1 16 3 then -2 else if k = 0 then (stdS A 1 np a x.toNatClampNeg m0).2 else (stdS A 1 np a x.toNatClampNeg m0).1) else -1) := by
  obtain ⟨d, t⟩ := S.tr
  have h12 := S.bd.2.2.1
  have h8 := S.bd.2.1
  rw [S.rf.2.1, S.cf.2.1]
  by_cases hb : (0 ≤ x ∧ x < nI np) ∧ ¬ (k < 0 ∨ 1 < k)
  · rw [if_pos hb, if_pos hb]
    have hp : x.toNatClampNeg < np := by
      obtain ⟨j, hj, rfl⟩ := n_in hb.1 (by omega)
      rw [nI_clamp (by omega)]; exact hj
    have e3 : A.1 16 3 = nI a := t.2.2.2.1.trans S.ta
    by_cases z : a = 12
    · rw [if_pos z, if_pos (show 12 ≤ A.1 16 3 by rw [e3, z]; decide)]
    · rw [if_neg z, if_neg (show ¬ 12 ≤ A.1 16 3 by rw [e3]; exact nI_ge (b := 12) (by omega) (by decide))]
      have e : stdS A 1 np a x.toNatClampNeg m0 = standL (stdW (rbM (B.1 138)) (B.1 139) (B.1 140) np a (B.1 141) x.toNatClampNeg) (12 - a) a (-1, -4) := by
        show standL (standW (A.1 2) (A.1 3) (A.1 14) np a (A.1 16) x.toNatClampNeg) (12 - a) a (-1, m0) = _
        rw [standL_cg (fun k => (stand_W S hp k).1), show 12 - a = (11 - a) + 1 by omega]
        exact standL_1 (fun k => (stand_W S hp k).2) _ _ _ _
      rw [e]
  · rw [if_neg hb, if_neg hb]
theorem a_sister {A B : zM} {nt np a u len : Nat} {x k : Int32} (S : SX A B nt np a u len) : (if (0 ≤ x ∧ x < B.1 138 0) ∧ ¬ (k < 0 ∨ 1 < k) then (if whoR (hmR B 138 np a).1 x np = -4 then (if k = 0 then wrt (B.1 139) x else 0) else -2) else -1) = (if (0 ≤ x ∧ x < A.1 2 0) ∧ ¬ (k < 0 ∨ 1 < k) then (if whoF (hmF A 1 np a).1 np x = -4 then (if k = 0 then worthO (A.1 3) (A.1 2 0) x else 0) else -2) else -1) := by
  obtain ⟨d, t⟩ := S.tr
  obtain ⟨h, e⟩ := S.hm t
  rw [S.rf.1, S.cf.1]
  by_cases hb : (0 ≤ x ∧ x < nI nt) ∧ ¬ (k < 0 ∨ 1 < k)
  · rw [if_pos hb, if_pos hb]
    have hv : vx nt x := by
      obtain ⟨j, hj, rfl⟩ := n_in hb.1 (by have := S.bd.1; omega)
      exact Or.inr ⟨j, hj, rfl⟩
    rw [worth_cg S.bd.1 S.th hv]
    by_cases z : whoR (hmR B 138 np a).1 x np = -4
    · rw [if_pos z, if_pos ((who_cg S.bd.2.1 h).mpr z)]
    · rw [if_neg z, if_neg (fun y => z ((who_cg S.bd.2.1 h).mp y))]
  · rw [if_neg hb, if_neg hb]
theorem a_first {A B : zM} {nt np a u len : Nat} {x : Int32} (S : SX A B nt np a u len) : (if 0 ≤ x ∧ x < B.1 138 0 then firstL (fun k => whoR (B.1 141) (nI k) np) (firstR (rbM (B.1 138)) (B.1 139) (B.1 140) np a (B.1 141)) x nt 0 0 else -1) = (if 0 ≤ x ∧ x < A.1 2 0 then firstL (fun k => whoF (A.1 16) np (nI k)) (firstQ (A.1 2) (A.1 3) (A.1 14) np a (A.1 16)) x nt 0 0 else -1) := by
  obtain ⟨d, t⟩ := S.tr
  obtain ⟨t0, t1, t2, t3, t4, t5⟩ := id t
  rw [S.rf.1, S.cf.1]
  by_cases hb : 0 ≤ x ∧ x < nI nt
  · rw [if_pos hb, if_pos hb]
    refine (firstL_cg (nt := nt) (fun k hk => ⟨who_cg S.bd.2.1 t, ?_⟩) nt 0 0 (by omega)).symm
    unfold firstQ firstR
    have e1 : A.1 16 1 = if B.1 141 0 = -4 then 0 else B.1 141 1 := by
      by_cases z : B.1 141 0 = -4
      · rw [if_pos z, t1]; exact S.tk.2.2.1 z
      · rw [if_neg z, t1]
    have tt : trx np d s5 (va_up (A.1 16) 0 (nI k)) (va_up (va_up (B.1 141) 0 (nI k)) 1 (if B.1 141 0 = -4 then 0 else B.1 141 1)) := by
      refine ⟨?_, ?_, ?_, ?_, ?_, fun p hp => ?_⟩
      · simp +decide only [va_g, if_true, if_false]
      · rw [va_up_ne _ _ (by decide), va_up_self, e1]
      · simp +decide only [va_g, if_false, t2]
      · simp +decide only [va_g, if_false, t3]
      · simp +decide only [va_g, if_false, t4]
      · show va_up _ _ _ (5 + p) = va_up _ _ _ (5 + p)
        rw [va_up_ne _ _ (by omega), va_up_ne _ _ (by omega), va_up_ne _ _ (by omega)]
        exact t5 p hp
    exact (home_cg S.bd.1 S.rb S.th S.pe (12 - a) (va_up (A.1 16) 0 (nI k), -4) (va_up (va_up (B.1 141) 0 (nI k)) 1 (if B.1 141 0 = -4 then 0 else B.1 141 1), -4) tt rfl).1.1
  · rw [if_neg hb, if_neg hb]
theorem a_cheated {A B : zM} {nt np a u len : Nat} {v : Int32} (S : SX A B nt np a u len) : (if v < -99 ∨ 99 < v then -1 else (chtL (chtW (rbM (B.1 138)) (B.1 139) (B.1 140) np a (B.1 141)) v 100 0 (-4, -1000)).1) = (if v < -99 ∨ 99 < v then -1 else (heedL (heedW (A.1 2) (A.1 3) (A.1 14) np a (A.1 16)) v 100 0 (-4, 0)).1) := by
  obtain ⟨d, t⟩ := S.tr
  have eW : ∀ h, heedW (A.1 2) (A.1 3) (A.1 14) np a (A.1 16) h = chtW (rbM (B.1 138)) (B.1 139) (B.1 140) np a (B.1 141) h ∧ -1000 < chtW (rbM (B.1 138)) (B.1 139) (B.1 140) np a (B.1 141) h := fun h => by
    have hr : rbE nt (va_up (A.1 2) 2 (nI h)) (va_up (rbM (B.1 138)) 2 (nI h)) := ⟨S.rb.1, S.rb.2.1, rfl, S.rb.2.2.2⟩
    have hh := (home_cg S.bd.1 hr S.th S.pe (12 - a) (A.1 16, -4) (B.1 141, -4) t rfl).1
    have tv : tv9 nt (homeF (va_up (rbM (B.1 138)) 2 (nI h)) (B.1 139) (B.1 140) np (12 - a) (B.1 141, -4)).1 := hm_tv _ _ _ (by have := S.bd.2.1; omega) (a := a) S.ta (by have := S.bd.2.2.1; omega) S.tk.1
    unfold heedW chtW
    rw [hh.1, t.1, S.cf.1, worth_cg S.bd.1 S.th S.tk.1.1, worth_cg S.bd.1 S.th tv.1]
    refine ⟨rfl, ?_⟩
    obtain ⟨z1, y1, e1⟩ := wrt_ge S.bd.1 S.kd.2.1 S.tk.1.1
    obtain ⟨z2, y2, e2⟩ := wrt_ge S.bd.1 S.kd.2.1 tv.1
    rw [e1, e2, Int32.lt_iff_toInt_lt, pk_sub_toInt (by omega) (by omega), show (-1000 : Int32).toInt = -1000 by decide]
    omega
  have eF : heedW (A.1 2) (A.1 3) (A.1 14) np a (A.1 16) = chtW (rbM (B.1 138)) (B.1 139) (B.1 140) np a (B.1 141) := funext fun h => (eW h).1
  rw [eF, cht_cg (fun h _ => (eW h).2) 100 0 (-4, 0) (-4, -1000) (by omega) rfl (Or.inl ⟨rfl, rfl⟩)]
theorem a_chance {A B : zM} {nt np a u len : Nat} {x k : Int32} (S : SX A B nt np a u len) : (if (¬ x = -4 ∧ ¬ (0 ≤ x ∧ x < B.1 138 0)) ∨ (k < 0 ∨ 1 < k) then -1 else if a < 2 then -3 else if k = 0 then (redL (12 - a) (nI (chN (chQ (rbM (B.1 138)) (B.1 139) (B.1 140) np a (B.1 141)) x (2 ^ (12 - a))))).1 else (redL (12 - a) (nI (chN (chQ (rbM (B.1 138)) (B.1 139) (B.1 140) np a (B.1 141)) x (2 ^ (12 - a))))).2) = (if (¬ x = -4 ∧ ¬ (0 ≤ x ∧ x < A.1 2 0)) ∨ (k < 0 ∨ 1 < k) then -1 else if a < 2 then -3 else if k = 0 then (redL (12 - a) (waysF (A.1 2) (A.1 3) (A.1 14) np x 10 (A.1 16))).1 else (redL (12 - a) (waysF (A.1 2) (A.1 3) (A.1 14) np x 10 (A.1 16))).2) := by
  obtain ⟨d, t⟩ := S.tr
  rw [S.rf.1, S.cf.1]
  by_cases z : a < 2
  · rw [if_pos z, if_pos z]
  · rw [if_neg z, if_neg z, chance_cg S.bd.1 S.rb S.th S.pe t S.ta S.bd.2.2.1 z]
theorem a_of {A B : zM} {nt np a u len : Nat} {x k : Int32} (S : SX A B nt np a u len) : ofR (B.1 138) (B.1 139) (B.1 141) np x k = ofS (A.1 2) (A.1 3) (A.1 16) np x k := by
  obtain ⟨d, t⟩ := S.tr
  unfold ofR ofS
  rw [S.rf.1, S.cf.1]
  by_cases hb : 0 ≤ x ∧ x < nI nt
  · have hj := v_nat S.bd.1 hb
    have hx : ¬ x = -4 := fun z => by rw [z] at hb; exact absurd hb.1 (by decide)
    rw [if_pos hb, if_pos hb, S.th (4 * x.toNatClampNeg) (by omega), S.th (4 * x.toNatClampNeg + 1) (by omega), S.th (4 * x.toNatClampNeg + 2) (by omega), S.th (4 * x.toNatClampNeg + 3) (by omega), who_eq S.bd.2.1 t S.tk.2.1 hx]
  · rw [if_neg hb, if_neg hb]
theorem a_felt {A B : zM} {nt np a u len : Nat} {x n k : Int32} (S : SX A B nt np a u len) : fltS (B.1 138) (B.1 139) x n k = fltS (A.1 2) (A.1 3) x n k := by
  unfold fltS
  rw [S.rf.1, S.cf.1]
  by_cases hb : (0 ≤ x ∧ x < nI nt) ∧ ¬ (n < 0 ∨ 99 < n) ∧ ¬ (k < 0 ∨ 1 < k)
  · rw [if_pos hb, if_pos hb, felt_cg S.th (v_nat S.bd.1 hb.1)]
  · rw [if_neg hb, if_neg hb]
theorem a_told {A B : zM} {nt np a u len : Nat} {p k : Int32} (S : SX A B nt np a u len) : toldS (B.1 138) (B.1 140) (B.1 141) p k = toldS (A.1 2) (A.1 14) (A.1 16) p k := by
  obtain ⟨d, t⟩ := S.tr
  unfold toldS
  rw [S.rf.2.1, S.cf.2.1]
  by_cases hb : 0 ≤ p ∧ p < nI np
  · have hj : p.toNatClampNeg < np := by
      obtain ⟨j, hj, rfl⟩ := n_in hb (by have := S.bd.2.1; omega)
      rw [nI_clamp (by have := S.bd.2.1; omega)]; exact hj
    rw [if_pos hb, if_pos hb, S.pe (2 * p.toNatClampNeg) (by omega), S.pe (2 * p.toNatClampNeg + 1) (by omega), t.2.2.2.2.2 _ hj]
    rfl
  · rw [if_neg hb, if_neg hb]
theorem a_count {A B : zM} {nt np a u len : Nat} {k : Int32} (S : SX A B nt np a u len) (h8 : ¬ k = 8) : cntS (rbM (B.1 138)) (B.1 141) (B.1 138 20) k = cntS (A.1 2) (A.1 16) (A.1 1 3) k := by
  obtain ⟨d, t0, t1, t2, t3, t4, t5⟩ := S.tr
  obtain ⟨c1, c2, c3, c4, c5⟩ := S.cf
  obtain ⟨r1, r2, r3⟩ := S.rf
  unfold cntS
  rw [show rbM (B.1 138) 0 = B.1 138 0 from rfl, show rbM (B.1 138) 1 = B.1 138 1 from rfl, show rbM (B.1 138) 2 = B.1 138 5 from rfl, show rbM (B.1 138) 3 = B.1 138 6 from rfl, r1, r2, r3, ← c3, ← c4, c1, c2, c5, t0, t1, t2, t3, if_neg h8, if_neg h8]
theorem a_glad {A B : zM} {nt np a u len : Nat} {x : Int32} (S : SX A B nt np a u len) : gldS (rbM (B.1 138)) (B.1 139) (B.1 141) x = gldS (A.1 2) (A.1 3) (A.1 16) x := by
  obtain ⟨d, t0, t1, t2, t3, t4, t5⟩ := S.tr
  unfold gldS
  rw [S.rb.2.1, S.rb.1, S.rb.2.2.1]
  by_cases hb : 0 ≤ x ∧ x < nI nt
  · rw [if_pos hb, if_pos hb]
    by_cases z : B.1 141 0 = -4 ∨ B.1 141 0 = x
    · rw [if_pos z, if_pos (show A.1 16 0 = -4 ∨ A.1 16 0 = x by rw [t0]; exact z)]
    · rw [if_neg z, if_neg (show ¬ (A.1 16 0 = -4 ∨ A.1 16 0 = x) by rw [t0]; exact z)]
      refine bI_cg (glad_cg S.bd.1 S.th t0 t1 t2 ?_ hb).symm
      rcases S.tk.1.1 with y | ⟨j, hj, y⟩
      · exact absurd (Or.inl y) z
      · rw [y]; exact ⟨nI_pos' (by have := S.bd.1; omega), nI_lt hj (by have := S.bd.1; omega)⟩
  · rw [if_neg hb, if_neg hb]
end
section
/-! calls that change nothing that shows, in pairs -/
def Q7_of (M : zM) (x : Int32) (k : Int32) (r : Int32) (M2 : zM) : Prop := ∃ nt np ah u len, SX M M nt np ah u len ∧ P7_of M np x k r M2
theorem q7_of {l : Launch} {w : zE} (J : zJ w) {M : zM} {x : Int32} {k : Int32} (S : Sim M) : zCi l w yX7_of cX7_of 4 (some .int) 1 [.ref (w.2.2 0), .int x, .int k] M (Q7_of M x k) := by
  obtain ⟨nt, np, ah, u, len, S⟩ := S
  exact zCi_post (fun r M2 h => ⟨nt, np, ah, u, len, S, h⟩) (t7_of J S.nt10 S.cf.2.1 S.bd.2.1)
theorem q8_of {l : Launch} {w : zE} (J : zJ w) {M M2 : zM} {x : Int32} {k : Int32} {r : Int32} (h : Q7_of M x k r M2) : zCi l w yX8_of cX8_of 3 (some .int) 2 [.ref (w.2.2 138), .int x, .int k] M2 (fun r' M3 => Sim M3 ∧ r' = r) := by
  obtain ⟨nt, np, ah, u, len, S, h⟩ := h
  obtain ⟨rfl, rfl⟩ := h
  refine zCi_post (fun r' M3 q => ?_) (t8_of J S.rf.1 S.bd.1 S.rf.2.1 S.bd.2.1)
  obtain ⟨rfl, rfl⟩ := q
  exact ⟨S.sim, a_of S⟩
def Q7_felt (M : zM) (x : Int32) (n : Int32) (k : Int32) (r : Int32) (M2 : zM) : Prop := ∃ nt np ah u len, SX M M nt np ah u len ∧ P7_felt M x n k r M2
theorem q7_felt {l : Launch} {w : zE} (J : zJ w) {M : zM} {x : Int32} {n : Int32} {k : Int32} (S : Sim M) : zCi l w yX7_felt cX7_felt 4 (some .int) 1 [.ref (w.2.2 0), .int x, .int n, .int k] M (Q7_felt M x n k) := by
  obtain ⟨nt, np, ah, u, len, S⟩ := S
  exact zCi_post (fun r M2 h => ⟨nt, np, ah, u, len, S, h⟩) (t7_felt J S.nt10)
theorem q8_felt {l : Launch} {w : zE} (J : zJ w) {M M2 : zM} {x : Int32} {n : Int32} {k : Int32} {r : Int32} (h : Q7_felt M x n k r M2) : zCi l w yX8_felt cX8_felt 4 (some .int) 2 [.ref (w.2.2 138), .int x, .int n, .int k] M2 (fun r' M3 => Sim M3 ∧ r' = r) := by
  obtain ⟨nt, np, ah, u, len, S, h⟩ := h
  obtain ⟨rfl, rfl⟩ := h
  refine zCi_post (fun r' M3 q => ?_) (t8_felt J S.rf.1 S.bd.1 S.kd.1)
  obtain ⟨rfl, rfl⟩ := q
  exact ⟨S.sim, a_felt S⟩
def Q7_told (M : zM) (p : Int32) (k : Int32) (r : Int32) (M2 : zM) : Prop := ∃ nt np ah u len, SX M M nt np ah u len ∧ P7_told M p k r M2
theorem q7_told {l : Launch} {w : zE} (J : zJ w) {M : zM} {p : Int32} {k : Int32} (S : Sim M) : zCi l w yX7_told cX7_told 3 (some .int) 1 [.ref (w.2.2 0), .int p, .int k] M (Q7_told M p k) := by
  obtain ⟨nt, np, ah, u, len, S⟩ := S
  exact zCi_post (fun r M2 h => ⟨nt, np, ah, u, len, S, h⟩) (t7_told J (by rw [S.cf.2.1]; exact nI_le (b := 8) S.bd.2.1 (by decide)))
theorem q8_told {l : Launch} {w : zE} (J : zJ w) {M M2 : zM} {p : Int32} {k : Int32} {r : Int32} (h : Q7_told M p k r M2) : zCi l w yX8_told cX8_told 3 (some .int) 2 [.ref (w.2.2 138), .int p, .int k] M2 (fun r' M3 => Sim M3 ∧ r' = r) := by
  obtain ⟨nt, np, ah, u, len, S, h⟩ := h
  obtain ⟨rfl, rfl⟩ := h
  refine zCi_post (fun r' M3 q => ?_) (t8_told J S.rf.2.1 S.bd.2.1)
  obtain ⟨rfl, rfl⟩ := q
  exact ⟨S.sim, a_told S⟩
def Q7_count (M : zM) (k : Int32) (r : Int32) (M2 : zM) : Prop := ∃ nt np ah u len, SX M M nt np ah u len ∧ P7_count M k r M2
theorem q7_count {l : Launch} {w : zE} (J : zJ w) {M : zM} {k : Int32} (S : Sim M) : zCi l w yX7_count cX7_count 2 (some .int) 0 [.ref (w.2.2 0), .int k] M (Q7_count M k) := by
  obtain ⟨nt, np, ah, u, len, S⟩ := S
  exact zCi_post (fun r M2 h => ⟨nt, np, ah, u, len, S, h⟩) (t7_count J)
theorem q8_count {l : Launch} {w : zE} (J : zJ w) {M M2 : zM} {k : Int32} {r : Int32} (h : Q7_count M k r M2) : zCi l w yX8_count cX8_count 2 (some .int) 0 [.ref (w.2.2 138), .int k] M2 (fun r' M3 => Sim M3 ∧ (¬ k = 8 → r' = r)) := by
  obtain ⟨nt, np, ah, u, len, S, h⟩ := h
  obtain ⟨rfl, rfl⟩ := h
  refine zCi_post (fun r' M3 q => ?_) (t8_count J )
  obtain ⟨rfl, rfl⟩ := q
  exact ⟨S.sim, fun h8 => a_count S h8⟩
def Q7_glad (M : zM) (x : Int32) (r : Int32) (M2 : zM) : Prop := ∃ nt np ah u len, SX M M nt np ah u len ∧ P7_glad M x r M2
theorem q7_glad {l : Launch} {w : zE} (J : zJ w) {M : zM} {x : Int32} (S : Sim M) : zCi l w yX7_glad cX7_glad 2 (some .int) 2 [.ref (w.2.2 0), .int x] M (Q7_glad M x) := by
  obtain ⟨nt, np, ah, u, len, S⟩ := S
  exact zCi_post (fun r M2 h => ⟨nt, np, ah, u, len, S, h⟩) (t7_glad J S.nt10 S.vx)
theorem q8_glad {l : Launch} {w : zE} (J : zJ w) {M M2 : zM} {x : Int32} {r : Int32} (h : Q7_glad M x r M2) : zCi l w yX8_glad cX8_glad 2 (some .int) 4 [.ref (w.2.2 138), .int x] M2 (fun r' M3 => Sim M3 ∧ r' = r) := by
  obtain ⟨nt, np, ah, u, len, S, h⟩ := h
  obtain ⟨rfl, rfl⟩ := h
  refine zCi_post (fun r' M3 q => ?_) (t8_glad J S.rok)
  obtain ⟨rfl, rfl⟩ := q
  exact ⟨S.sim, a_glad S⟩
def Q7_home (M : zM) (k : Int32) (r : Int32) (M2 : zM) : Prop := ∃ nt np ah u len, SX M M nt np ah u len ∧ P7_home M np ah k r M2
theorem q7_home {l : Launch} {w : zE} (J : zJ w) {M : zM} {k : Int32} (S : Sim M) : zCi l w yX7_home cX7_home 3 (some .int) 6 [.ref (w.2.2 0), .int k] M (Q7_home M k) := by
  obtain ⟨nt, np, ah, u, len, S⟩ := S
  exact zCi_post (fun r M2 h => ⟨nt, np, ah, u, len, S, h⟩) (t7_home J S.nok)
theorem q8_home {l : Launch} {w : zE} (J : zJ w) {M M2 : zM} {k : Int32} {r : Int32} (h : Q7_home M k r M2) : zCi l w yX8_home cX8_home 3 (some .int) 7 [.ref (w.2.2 138), .int k] M2 (fun r' M3 => Sim M3 ∧ r' = r) := by
  obtain ⟨nt, np, ah, u, len, S, h⟩ := h
  obtain ⟨f, rfl⟩ := h
  have S2 := S.zfr f
  refine zCi_post (fun r' M3 q => ?_) (t8_home J S2.rok)
  obtain ⟨g, rfl⟩ := q
  exact ⟨(S.fore f g).sim, a_home S2⟩
def Q7_lost (M : zM) (r : Int32) (M2 : zM) : Prop := ∃ nt np ah u len, SX M M nt np ah u len ∧ P7_lost M np ah r M2
theorem q7_lost {l : Launch} {w : zE} (J : zJ w) {M : zM} (S : Sim M) : zCi l w yX7_lost cX7_lost 1 (some .int) 6 [.ref (w.2.2 0)] M (Q7_lost M) := by
  obtain ⟨nt, np, ah, u, len, S⟩ := S
  exact zCi_post (fun r M2 h => ⟨nt, np, ah, u, len, S, h⟩) (t7_lost J S.nok)
theorem q8_lost {l : Launch} {w : zE} (J : zJ w) {M M2 : zM} {r : Int32} (h : Q7_lost M r M2) : zCi l w yX8_lost cX8_lost 2 (some .int) 7 [.ref (w.2.2 138)] M2 (fun r' M3 => Sim M3 ∧ r' = r) := by
  obtain ⟨nt, np, ah, u, len, S, h⟩ := h
  obtain ⟨f, rfl⟩ := h
  have S2 := S.zfr f
  refine zCi_post (fun r' M3 q => ?_) (t8_lost J S2.rok)
  obtain ⟨g, rfl⟩ := q
  exact ⟨(S.fore f g).sim, a_lost S2⟩
def Q7_lurk (M : zM) (x : Int32) (k : Int32) (r : Int32) (M2 : zM) : Prop := ∃ nt np ah u len, SX M M nt np ah u len ∧ P7_lurk M np ah nt x k r M2
theorem q7_lurk {l : Launch} {w : zE} (J : zJ w) {M : zM} {x : Int32} {k : Int32} (S : Sim M) : zCi l w yX7_lurk cX7_lurk 4 (some .int) 6 [.ref (w.2.2 0), .int x, .int k] M (Q7_lurk M x k) := by
  obtain ⟨nt, np, ah, u, len, S⟩ := S
  exact zCi_post (fun r M2 h => ⟨nt, np, ah, u, len, S, h⟩) (t7_lurk J S.nok S.cf.1 S.bd.1)
theorem q8_lurk {l : Launch} {w : zE} (J : zJ w) {M M2 : zM} {x : Int32} {k : Int32} {r : Int32} (h : Q7_lurk M x k r M2) : zCi l w yX8_lurk cX8_lurk 9 (some .int) 7 [.ref (w.2.2 138), .int x, .int k] M2 (fun r' M3 => Sim M3 ∧ r' = r) := by
  obtain ⟨nt, np, ah, u, len, S, h⟩ := h
  obtain ⟨f, rfl⟩ := h
  have S2 := S.zfr f
  refine zCi_post (fun r' M3 q => ?_) (t8_lurk J S2.rok)
  obtain ⟨g, rfl⟩ := q
  exact ⟨(S.fore f g).sim, a_lurk S2⟩
def Q7_stand (M : zM) (x : Int32) (k : Int32) (r : Int32) (M2 : zM) : Prop := ∃ nt np ah u len, SX M M nt np ah u len ∧ P7_stand M np ah x k r M2
theorem q7_stand {l : Launch} {w : zE} (J : zJ w) {M : zM} {x : Int32} {k : Int32} (S : Sim M) : zCi l w yX7_stand cX7_stand 4 (some .int) 6 [.ref (w.2.2 0), .int x, .int k] M (Q7_stand M x k) := by
  obtain ⟨nt, np, ah, u, len, S⟩ := S
  exact zCi_post (fun r M2 h => ⟨nt, np, ah, u, len, S, h⟩) (t7_stand J S.nok)
theorem q8_stand {l : Launch} {w : zE} (J : zJ w) {M M2 : zM} {x : Int32} {k : Int32} {r : Int32} (h : Q7_stand M x k r M2) : zCi l w yX8_stand cX8_stand 8 (some .int) 7 [.ref (w.2.2 138), .int x, .int k] M2 (fun r' M3 => Sim M3 ∧ r' = r) := by
  obtain ⟨nt, np, ah, u, len, S, h⟩ := h
  obtain ⟨f, rfl⟩ := h
  have S2 := S.zfr f
  refine zCi_post (fun r' M3 q => ?_) (t8_stand J S2.rok)
  obtain ⟨g, rfl⟩ := q
  exact ⟨(S.fore f g).sim, a_stand S2⟩
def Q7_sister (M : zM) (x : Int32) (k : Int32) (r : Int32) (M2 : zM) : Prop := ∃ nt np ah u len, SX M M nt np ah u len ∧ P7_sister M np ah x k r M2
theorem q7_sister {l : Launch} {w : zE} (J : zJ w) {M : zM} {x : Int32} {k : Int32} (S : Sim M) : zCi l w yX7_sister cX7_sister 3 (some .int) 6 [.ref (w.2.2 0), .int x, .int k] M (Q7_sister M x k) := by
  obtain ⟨nt, np, ah, u, len, S⟩ := S
  exact zCi_post (fun r M2 h => ⟨nt, np, ah, u, len, S, h⟩) (t7_sister J S.nok)
theorem q8_sister {l : Launch} {w : zE} (J : zJ w) {M M2 : zM} {x : Int32} {k : Int32} {r : Int32} (h : Q7_sister M x k r M2) : zCi l w yX8_sister cX8_sister 4 (some .int) 7 [.ref (w.2.2 138), .int x, .int k] M2 (fun r' M3 => Sim M3 ∧ r' = r) := by
  obtain ⟨nt, np, ah, u, len, S, h⟩ := h
  obtain ⟨f, rfl⟩ := h
  have S2 := S.zfr f
  refine zCi_post (fun r' M3 q => ?_) (t8_sister J S2.rok S2.kd.2.1 S2.kd.2.2)
  obtain ⟨g, rfl⟩ := q
  exact ⟨(S.fore f g).sim, a_sister S2⟩
def Q7_first (M : zM) (x : Int32) (r : Int32) (M2 : zM) : Prop := ∃ nt np ah u len, SX M M nt np ah u len ∧ P7_first M np ah nt x r M2
theorem q7_first {l : Launch} {w : zE} (J : zJ w) {M : zM} {x : Int32} (S : Sim M) : zCi l w yX7_first cX7_first 2 (some .int) 6 [.ref (w.2.2 0), .int x] M (Q7_first M x) := by
  obtain ⟨nt, np, ah, u, len, S⟩ := S
  exact zCi_post (fun r M2 h => ⟨nt, np, ah, u, len, S, h⟩) (t7_first J S.nok S.cf.1 S.bd.1)
theorem q8_first {l : Launch} {w : zE} (J : zJ w) {M M2 : zM} {x : Int32} {r : Int32} (h : Q7_first M x r M2) : zCi l w yX8_first cX8_first 4 (some .int) 7 [.ref (w.2.2 138), .int x] M2 (fun r' M3 => Sim M3 ∧ r' = r) := by
  obtain ⟨nt, np, ah, u, len, S, h⟩ := h
  obtain ⟨f, rfl⟩ := h
  have S2 := S.zfr f
  refine zCi_post (fun r' M3 q => ?_) (t8_first J S2.rok)
  obtain ⟨g, rfl⟩ := q
  exact ⟨(S.fore f g).sim, a_first S2⟩
def Q7_cheated (M : zM) (v : Int32) (r : Int32) (M2 : zM) : Prop := ∃ nt np ah u len, SX M M nt np ah u len ∧ P7_cheated M np ah v r M2
theorem q7_cheated {l : Launch} {w : zE} (J : zJ w) {M : zM} {v : Int32} (S : Sim M) : zCi l w yX7_cheated cX7_cheated 2 (some .int) 6 [.ref (w.2.2 0), .int v] M (Q7_cheated M v) := by
  obtain ⟨nt, np, ah, u, len, S⟩ := S
  exact zCi_post (fun r M2 h => ⟨nt, np, ah, u, len, S, h⟩) (t7_cheated J S.nok)
theorem q8_cheated {l : Launch} {w : zE} (J : zJ w) {M M2 : zM} {v : Int32} {r : Int32} (h : Q7_cheated M v r M2) : zCi l w yX8_cheated cX8_cheated 8 (some .int) 8 [.ref (w.2.2 138), .int v] M2 (fun r' M3 => Sim M3 ∧ r' = r) := by
  obtain ⟨nt, np, ah, u, len, S, h⟩ := h
  obtain ⟨f, rfl⟩ := h
  have S2 := S.zfr f
  refine zCi_post (fun r' M3 q => ?_) (t8_cheated J S2.rok)
  obtain ⟨g, rfl⟩ := q
  exact ⟨(S.fore f g).sim, a_cheated S2⟩
def Q7_chance (M : zM) (x : Int32) (k : Int32) (r : Int32) (M2 : zM) : Prop := ∃ nt np ah u len, SX M M nt np ah u len ∧ P7_chance M np ah x k r M2
theorem q7_chance {l : Launch} {w : zE} (J : zJ w) {M : zM} {x : Int32} {k : Int32} (S : Sim M) : zCi l w yX7_chance cX7_chance 6 (some .int) 26 [.ref (w.2.2 0), .int x, .int k] M (Q7_chance M x k) := by
  obtain ⟨nt, np, ah, u, len, S⟩ := S
  exact zCi_post (fun r M2 h => ⟨nt, np, ah, u, len, S, h⟩) (t7_chance J S.nok)
theorem q8_chance {l : Launch} {w : zE} (J : zJ w) {M M2 : zM} {x : Int32} {k : Int32} {r : Int32} (h : Q7_chance M x k r M2) : zCi l w yX8_chance cX8_chance 6 (some .int) 7 [.ref (w.2.2 138), .int x, .int k] M2 (fun r' M3 => Sim M3 ∧ r' = r) := by
  obtain ⟨nt, np, ah, u, len, S, h⟩ := h
  obtain ⟨f, rfl⟩ := h
  have S2 := S.zfr f
  refine zCi_post (fun r' M3 q => ?_) (t8_chance J S2.rok)
  obtain ⟨g, rfl⟩ := q
  exact ⟨(S.fore f g).sim, a_chance S2⟩
def Q7_meet (M : zM) (x : Int32) (k : Int32) (r : Int32) (M2 : zM) : Prop := ∃ nt np ah u len, SX M M nt np ah u len ∧ P7_meet M np x k r M2
theorem q7_meet {l : Launch} {w : zE} (J : zJ w) {M : zM} {x : Int32} {k : Int32} (S : Sim M) : zCi l w yX7_meet cX7_meet 4 (some .int) 4 [.ref (w.2.2 0), .int x, .int k] M (Q7_meet M x k) := by
  obtain ⟨nt, np, ah, u, len, S⟩ := S
  exact zCi_post (fun r M2 h => ⟨nt, np, ah, u, len, S, h⟩) (t7_meet J S.nt10 S.cf.2.1 S.bd.2.1 S.vx)
theorem q8_meet {l : Launch} {w : zE} (J : zJ w) {M M2 : zM} {x : Int32} {k : Int32} {r : Int32} (h : Q7_meet M x k r M2) : zCi l w yX8_meet cX8_meet 6 (some .int) 2 [.ref (w.2.2 138), .int x, .int k] M2 (fun r' M3 => Sim M3 ∧ r' = r) := by
  obtain ⟨nt, np, ah, u, len, S, h⟩ := h
  obtain ⟨f, U, R, u0, u1, u2, hR, rfl⟩ := h
  have S2 := S.zfr f
  obtain ⟨d, t⟩ := S2.tr
  have zg : zgf 138 M2 M2 := zgf.rf S2.2.1
  refine zCi_post (fun r' M3 q => ?_) (t8_meet J S2.rok)
  unfold P8_meet at q
  rw [S2.rf.1] at q
  rw [S.cf.1]
  rcases q with ⟨b, rfl, rfl⟩ | ⟨b, q⟩
  · exact ⟨(S.fore f zg).sim, by rw [if_neg b]⟩
  rw [if_pos b]
  rcases q with ⟨c, rfl, rfl⟩ | ⟨c, R', hR', rfl, rfl⟩
  · refine ⟨(S.fore f zg).sim, ?_⟩
    rw [if_pos]
    rcases c with c | c
    · exact Or.inl (fun z => c ((who_cg S.bd.2.1 t).mp z))
    · exact Or.inr (t.1.trans c)
  have zg2 : zgf 138 M2 (za M2 148 R'.2.1) := ⟨rfl, fun b h1 h2 h3 h4 => za_off M2 (b := 148) h4, fun k h1 h2 h3 => congrFun (za_off M2 (b := 148) (c := 138) (by decide)) k, (congrFun (za_off M2 (b := 148) (c := 138) (by decide)) 8).trans S2.2.1⟩
  refine ⟨(S.fore f zg2).sim, ?_⟩
  have c1 : ¬ (¬ whoF (M.1 16) np x = -4 ∨ M.1 16 0 = -4) := fun z => c (z.elim (fun z => Or.inl (fun y => z ((who_cg S.bd.2.1 t).mpr y))) (fun z => Or.inr (t.1.symm.trans z)))
  rw [if_neg c1]
  have v0 : 0 ≤ M.1 16 0 ∧ M.1 16 0 < nI nt := by
    rw [t.1]
    rcases S2.tk.1.1 with y | ⟨j, hj, y⟩
    · exact absurd (Or.inr y) c
    · rw [y]; exact ⟨nI_pos' (by have := S.bd.1; omega), nI_lt hj (by have := S.bd.1; omega)⟩
  have m : mr (M.1 16) U (M.1 2 2) 99 (mtT (M2.1 148) (M2.1 141 0) (M2.1 141 1) (M2.1 141 2) (M2.1 138 5) x) := by
    unfold mtT
    refine ⟨?_, ?_, ?_, ?_, ?_, ?_, ?_, ?_⟩ <;> simp +decide only [va_g, if_true, if_false]
    · exact t.1.symm
    · exact t.2.1.symm
    · exact t.2.2.1.symm
    · exact S2.cf.2.2.1.symm
    · exact u0.symm
    · exact u1.symm
    · exact u2.symm
  have Z := meet_cg S.bd.1 S2.th 200 0 (M.1 16) U 0 _ (Or.inl rfl) m v0 (by rw [u0]; exact b.1)
  rw [← hR'] at Z
  have hR2 : R = meetL (M.1 3) (M.1 2 2) 200 (0 + 1) (M.1 16, U, 0) := hR
  rw [← hR2] at Z
  rcases Z with ⟨z1, z2⟩ | ⟨z1, z2, z3, z4, z5⟩
  · rw [if_pos z1, if_pos (Or.inl z2), z2]
  · rw [if_neg z1]
    have hn : ¬ R.1 = -4 := by rw [z2]; exact (by decide +kernel : ∀ h, h < 201 → ¬ nI h = -4) _ (by omega)
    by_cases k0 : k = 0
    · rw [if_pos k0, if_pos (Or.inr k0), z2]
    · rw [if_neg k0, if_neg (show ¬ (R.1 = -4 ∨ k = 0) from fun y => y.elim hn k0), z4, z5]
end
section
/-! what calls that change the world need -/
theorem za_g (M : zM) (b : Nat) (f : zF1) (b' o' : Nat) : (za M b f).1 b' o' = if b' = b then f o' else M.1 b' o' := by
  by_cases h : b' = b
  · subst h; rw [za_at, if_pos rfl]
  · rw [za_off _ h, if_neg h]
theorem WN.past {M M3 : zM} {nt np a u : Nat} (W : WN M M nt np a u) (e18 : M3.1 18 = M.1 18) (e19 : ∀ k, k < 8 → M3.1 (19 + 2 * k) = M.1 (19 + 2 * k)) (e145 : M3.1 145 = M.1 145) : (∀ j, j < u → ∃ d, trx np d s5 (M3.1 (19 + 2 * (M3.1 18 j).toNatClampNeg)) (rowT (M3.1 145) j)) ∧ (∀ j, j < u → tOK nt np (rowT (M3.1 145) j)) ∧ pmF (M3.1 18) := by
  obtain ⟨⟨b1, b2, b3, b4⟩, _, _, _, _, pm, ps, _, _, pk⟩ := W
  rw [e18, e145]
  refine ⟨fun j hj => ?_, pk, pm⟩
  rw [e19 _ (pm_n pm (by omega))]
  exact ps j hj
theorem WN.mk {M : zM} {nt np a u : Nat} (b : nt ≤ 10 ∧ np ≤ 8 ∧ a ≤ 12 ∧ u ≤ 8) (c : M.1 2 0 = nI nt ∧ M.1 2 1 = nI np ∧ M.1 2 2 = M.1 138 5 ∧ M.1 2 3 = M.1 138 6 ∧ M.1 1 3 = nI u) (r : M.1 138 0 = nI nt ∧ M.1 138 1 = nI np ∧ M.1 138 20 = nI u) (h : thE nt (M.1 3) (M.1 139) ∧ peE np (M.1 14) (M.1 140)) (t : ∃ d, trx np d s5 (M.1 16) (M.1 141)) (p : (∀ j, j < u → ∃ d, trx np d s5 (M.1 (19 + 2 * (M.1 18 j).toNatClampNeg)) (rowT (M.1 145) j)) ∧ (∀ j, j < u → tOK nt np (rowT (M.1 145) j)) ∧ pmF (M.1 18)) (k : kdOK (M.1 139) ∧ wOK nt (M.1 139) ∧ mOK np (M.1 140)) (tk : tOK nt np (M.1 141) ∧ M.1 141 3 = nI a) : WN M M nt np a u := ⟨b, c, r, h, t, p.2.2, p.1, k, tk, p.2.1⟩
theorem setF_cg {nt : Nat} {f g : zF1} (h : thE nt f g) (a b c d : Int32) : thE (nt + 1) (setF f nt a b c d) (setF g nt a b c d) := by
  intro q hq
  unfold setF
  simp only [va_g]
  by_cases z : q < 4 * nt
  · rw [if_neg (by omega), if_neg (by omega), if_neg (by omega), if_neg (by omega), if_neg (by omega), if_neg (by omega), if_neg (by omega), if_neg (by omega)]
    exact h q z
  · by_cases z3 : q = 4 * nt + 3
    · rw [if_pos z3, if_pos z3]
    rw [if_neg z3, if_neg z3]
    by_cases z2 : q = 4 * nt + 2
    · rw [if_pos z2, if_pos z2]
    rw [if_neg z2, if_neg z2]
    by_cases z1 : q = 4 * nt + 1
    · rw [if_pos z1, if_pos z1]
    rw [if_neg z1, if_neg z1, if_pos (by omega), if_pos (by omega)]
theorem setF_at (f : zF1) (nt : Nat) (a b c d : Int32) : setF f nt a b c d (4 * nt) = a ∧ setF f nt a b c d (4 * nt + 1) = b := by
  unfold setF
  refine ⟨?_, ?_⟩
  · rw [va_up_ne _ _ (by omega), va_up_ne _ _ (by omega), va_up_ne _ _ (by omega), va_up_self]
  · rw [va_up_ne _ _ (by omega), va_up_ne _ _ (by omega), va_up_self]
theorem setF_off (f : zF1) (nt : Nat) (a b c d : Int32) {q : Nat} (h : q < 4 * nt ∨ 4 * nt + 3 < q) : setF f nt a b c d q = f q := by
  unfold setF
  rw [va_up_ne _ _ (by omega), va_up_ne _ _ (by omega), va_up_ne _ _ (by omega), va_up_ne _ _ (by omega)]
theorem in_n {x : Int32} {n : Nat} (M : Int32) (hM : M.toInt = n) (h : ¬ (x < 0 ∨ M < x)) : ∃ j, j ≤ n ∧ x = nI j := nI_of2 hM (fun z => h (Or.inl z)) (Int32.not_lt.mp fun z => h (Or.inr z))
theorem vx_up {nt : Nat} {x : Int32} (h : vx nt x) : vx (nt + 1) x := by
  rcases h with h | ⟨j, hj, h⟩
  · exact Or.inl h
  · exact Or.inr ⟨j, by omega, h⟩
theorem whoFF_cg {np : Nat} {d x : Int32} {T T' : zF1} (h8 : np ≤ 8) (t : trx np d s5 T T') : whoF T np x = -4 ↔ whoF T' np x = -4 := by rw [who_cg h8 t, whoR_none h8]
theorem tOK.upT {nt np : Nat} {T : zF1} (h : tOK nt np T) : tOK (nt + 1) np T := by
  obtain ⟨⟨h1, h2, h3⟩, h4⟩ := h
  exact ⟨⟨vx_up h1, fun p hp => vx_up (h2 p hp), h3⟩, h4⟩
theorem tOK.take {nt np : Nat} {T : zF1} {x : Int32} (h : tOK nt np T) (hx : vx nt x) (hn : ∀ p, p < np → T (5 + p) = x → x = -4) : tOK nt np (va_up (va_up T 0 x) 1 0) := by
  obtain ⟨h1, h2, h3, b, h4, h5⟩ := h
  refine ⟨tv9_up1 (tv9_up0 h1 hx) 1 _ (Or.inl rfl), ⟨fun p hp z => ?_, fun p q hp hq z y => ?_⟩, fun _ => va_up_self _ _ _, b, h4, ?_⟩
  · rw [va_up_ne _ _ (by omega), va_up_ne _ _ (by omega)] at z
    simp +decide only [va_g, if_true, if_false] at z ⊢
    exact hn p hp z
  · rw [va_up_ne _ _ (by omega), va_up_ne _ _ (by omega), va_up_ne _ _ (by omega), va_up_ne _ _ (by omega)] at z
    rw [va_up_ne _ _ (by omega), va_up_ne _ _ (by omega)] at y
    exact h2.2 p q hp hq z y
  · rw [va_up_ne _ _ (by decide), va_up_ne _ _ (by decide)]; exact h5
theorem tOK.person {nt np : Nat} {T : zF1} {x : Int32} (h : tOK nt np T) (h8 : np < 8) (hx : vx nt x) (hn : x = -4 ∨ (¬ T 0 = x ∧ ∀ p, p < np → ¬ T (5 + p) = x)) : tOK nt (np + 1) (va_up T (5 + np) x) := by
  obtain ⟨h1, h2, h3, b, h4, h5⟩ := h
  refine ⟨tv9_up5 h1 np hx, ⟨fun p hp z => ?_, fun p q hp hq z y => ?_⟩, fun z => ?_, b, h4, ?_⟩
  · rw [va_up_ne _ _ (show 0 ≠ 5 + np by omega)] at z ⊢
    by_cases e : p = np
    · subst e
      rw [va_up_self] at z
      rcases hn with hn | hn
      · exact z.symm.trans hn
      · exact absurd z.symm hn.1
    · rw [va_up_ne _ _ (by omega)] at z
      exact h2.1 p (by omega) z
  · by_cases e : p = np
    · by_cases e2 : q = np
      · omega
      · subst e
        rw [va_up_self, va_up_ne _ _ (by omega)] at z
        rw [va_up_self] at y
        exact absurd z.symm ((hn.resolve_left y).2 q (by omega))
    · by_cases e2 : q = np
      · subst e2
        rw [va_up_self, va_up_ne _ _ (by omega)] at z
        rw [va_up_ne _ _ (by omega)] at y
        rcases hn with hn | hn
        · exact absurd (z.trans hn) y
        · exact absurd z (hn.2 p (by omega))
      · rw [va_up_ne _ _ (by omega), va_up_ne _ _ (by omega)] at z
        rw [va_up_ne _ _ (by omega)] at y
        exact h2.2 p q (by omega) (by omega) z y
  · rw [va_up_ne _ _ (by omega)] at z ⊢; exact h3 z
  · rw [va_up_ne _ _ (by omega)]; exact h5
theorem trx_take {np : Nat} {d x : Int32} {T T' : zF1} (t : trx np d s5 T T') : trx np d s5 (va_up (va_up T 0 x) 1 0) (va_up (va_up T' 0 x) 1 0) := by
  obtain ⟨t0, t1, t2, t3, t4, t5⟩ := t
  refine ⟨?_, ?_, ?_, ?_, ?_, fun p hp => ?_⟩
  · simp +decide only [va_g, if_true, if_false]
  · simp +decide only [va_g, if_true]
  · simp +decide only [va_g, if_false, t2]
  · simp +decide only [va_g, if_false, t3]
  · simp +decide only [va_g, if_false, t4]
  · unfold s5
    rw [va_up_ne _ _ (by omega), va_up_ne _ _ (by omega), va_up_ne _ _ (by omega), va_up_ne _ _ (by omega)]
    exact t5 p hp
theorem zs_fn (M : zM) (b o : Nat) (v : Int32) : (zs M b o v).1 b = va_up (M.1 b) o v := zs_at M b o v
theorem trx_ext {np : Nat} {d : Int32} {T T' T2 : zF1} (h8 : np ≤ 8) (t : trx np d s5 T T') (e : ∀ q, q < 14 → T2 q = T' q) : trx np d s5 T T2 := by
  obtain ⟨t0, t1, t2, t3, t4, t5⟩ := t
  refine ⟨by rw [e 0 (by omega)]; exact t0, by rw [e 1 (by omega)]; exact t1, by rw [e 2 (by omega)]; exact t2, by rw [e 3 (by omega)]; exact t3, by rw [e 4 (by omega)]; exact t4, fun p hp => ?_⟩
  rw [e (s5 p) (by unfold s5; omega)]
  exact t5 p hp
theorem tOK_ext {nt np : Nat} {T' T2 : zF1} (h8 : np ≤ 8) (t : tOK nt np T') (e : ∀ q, q < 14 → T2 q = T' q) : tOK nt np T2 := by
  obtain ⟨⟨v0, v5, v2⟩, ⟨u1, u2⟩, z, b, h4, h5⟩ := t
  have e5 : ∀ p, p < 9 → T2 (5 + p) = T' (5 + p) := fun p hp => e _ (by omega)
  refine ⟨⟨by rw [e 0 (by omega)]; exact v0, fun p hp => by rw [e5 p hp]; exact v5 p hp, by rw [e 2 (by omega)]; exact v2⟩, uq_eq ⟨u1, u2⟩ (e 0 (by omega)) (fun p hp => e5 p (by omega)), fun h => ?_, b, h4, by rw [e 3 (by omega)]; exact h5⟩
  rw [e 0 (by omega)] at h
  rw [e 1 (by omega)]
  exact z h
/-- a milestone leaves what is known of the latest ones alike -/
theorem go_past {M : zM} {nt np a u : Nat} (W : WN M M nt np a u) (T1 : zF1) (rf : Int32) : (zt (remF M 1 u) 16 T1 rf).1 16 = T1 ∧ (zt (remF M 1 u) 16 T1 rf).1 1 3 = nI (notN u) ∧ (∀ b, b ≠ 1 → b ≠ 16 → b ≠ 17 → b ≠ 18 → (∀ k, k < 8 → b ≠ 19 + 2 * k) → (zt (remF M 1 u) 16 T1 rf).1 b = M.1 b) ∧ (zt (remF M 1 u) 16 T1 rf).2 = M.2 ∧ pmF ((zt (remF M 1 u) 16 T1 rf).1 18) ∧ (∀ j, j < notN u → ∃ d, trx np d s5 ((zt (remF M 1 u) 16 T1 rf).1 (19 + 2 * ((zt (remF M 1 u) 16 T1 rf).1 18 j).toNatClampNeg)) (rowT (notU (M.1 145) (M.1 141) u) j)) ∧ (∀ j, j < notN u → tOK nt np (rowT (notU (M.1 145) (M.1 141) u) j)) := by
  obtain ⟨⟨b1, b2, b3, b4⟩, ⟨_, _, _, _, c5⟩, _, _, tr, pm, ps, _, ⟨tk, _⟩, pk⟩ := W
  have tr : ∃ d, trx np d s5 (M.1 16) (M.1 141) := tr
  have pm : pmF (M.1 18) := pm
  have ps : ∀ j, j < u → ∃ d, trx np d s5 (M.1 (19 + 2 * (M.1 18 j).toNatClampNeg)) (rowT (M.1 145) j) := ps
  by_cases h8 : u < 8
  · have ef : remF M 1 u = zs (za M (19 + 2 * (M.1 18 u).toNatClampNeg) (M.1 16)) 1 3 (nI (u + 1)) := by unfold remF; rw [if_pos h8]
    have eN : notN u = u + 1 := if_neg (by omega)
    have eU : notU (M.1 145) (M.1 141) u = rowU (M.1 145) (M.1 141) u 14 := if_neg (by omega)
    have ku := pm_n pm h8
    have e18 : (zt (remF M 1 u) 16 T1 rf).1 18 = M.1 18 := by rw [zt_off (by omega) (by omega), ef, zs_off _ (by omega), za_off _ (by omega)]
    have r1 : ∀ j, j < u → ∀ q, q < 14 → rowT (rowU (M.1 145) (M.1 141) u 14) j q = rowT (M.1 145) j q := fun j hj q hq => by
      unfold rowT rowU
      rw [if_neg (by omega)]
    have r2 : ∀ q, q < 14 → rowT (rowU (M.1 145) (M.1 141) u 14) u q = M.1 141 q := fun q hq => by
      unfold rowT rowU
      rw [if_pos (by omega), show 14 * u + q - 14 * u = q by omega]
    refine ⟨zt_t _ _ _ _, ?_, fun b h1 h2 h3 h4 h5 => ?_, ?_, by rw [e18]; exact pm, fun j hj => ?_, fun j hj => ?_⟩
    · rw [zt_off (by omega) (by omega), ef, zs_at, va_up_self, eN]
    · rw [zt_off (by omega) (by omega), ef, zs_off _ h1, za_off _ (h5 _ ku)]
    · rw [zt_2, ef]; rfl
    · rw [e18, eU]
      have kj := pm_n pm (k := j) (by omega)
      by_cases z : j = u
      · subst z
        obtain ⟨d, t⟩ := tr
        refine ⟨d, trx_ext b2 ?_ r2⟩
        rw [zt_off (by omega) (by omega), ef, zs_off _ (by omega), za_at]
        exact t
      · obtain ⟨d, t⟩ := ps j (by omega)
        refine ⟨d, trx_ext b2 ?_ (r1 j (by omega))⟩
        rw [zt_off (by omega) (by omega), ef, zs_off _ (by omega), za_off _ (fun y => z (pm.inj (by omega) h8 (by omega)))]
        exact t
    · rw [eU]
      by_cases z : j = u
      · subst z; exact tOK_ext b2 tk r2
      · exact tOK_ext b2 (pk j (by omega)) (r1 j (by omega))
  · obtain rfl : u = 8 := by omega
    have ef : remF M 1 8 = zs (za (za M 18 (rotF (M.1 18))) (19 + 2 * (M.1 18 0).toNatClampNeg) (M.1 16)) 1 3 8 := rfl
    have eN : notN 8 = 8 := rfl
    have eU : notU (M.1 145) (M.1 141) 8 = rowU (shfF (M.1 145) 98) (M.1 141) 7 14 := rfl
    have k0 := pm_n pm (k := 0) (by omega)
    have e18 : (zt (remF M 1 8) 16 T1 rf).1 18 = rotF (M.1 18) := by rw [zt_off (by omega) (by omega), ef, zs_off _ (by omega), za_off _ (by omega), za_at]
    have r1 : ∀ j, j < 7 → ∀ q, q < 14 → rowT (rowU (shfF (M.1 145) 98) (M.1 141) 7 14) j q = rowT (M.1 145) (j + 1) q := fun j hj q hq => by
      unfold rowT rowU shfF
      rw [if_neg (by omega), if_pos (by omega), show 14 * j + q + 14 = 14 * (j + 1) + q by omega]
    have r2 : ∀ q, q < 14 → rowT (rowU (shfF (M.1 145) 98) (M.1 141) 7 14) 7 q = M.1 141 q := fun q hq => by
      unfold rowT rowU
      rw [if_pos (by omega), show 14 * 7 + q - 14 * 7 = q by omega]
    refine ⟨zt_t _ _ _ _, ?_, fun b h1 h2 h3 h4 h5 => ?_, ?_, by rw [e18]; exact rotF_pm pm, fun j hj => ?_, fun j hj => ?_⟩
    · rw [zt_off (by omega) (by omega), ef, zs_at, va_up_self, eN]; rfl
    · rw [zt_off (by omega) (by omega), ef, zs_off _ h1, za_off _ (h5 _ k0), za_off _ h4]
    · rw [zt_2, ef]; rfl
    · rw [e18, eU]
      rw [eN] at hj
      by_cases z : j = 7
      · subst z
        obtain ⟨d, t⟩ := tr
        refine ⟨d, trx_ext b2 ?_ r2⟩
        rw [show rotF (M.1 18) 7 = M.1 18 0 from rfl, zt_off (by omega) (by omega), ef, zs_off _ (by omega), za_at]
        exact t
      · obtain ⟨d, t⟩ := ps (j + 1) (by omega)
        have kj := pm_n pm (k := j + 1) (by omega)
        refine ⟨d, trx_ext b2 ?_ (r1 j (by omega))⟩
        rw [show rotF (M.1 18) j = M.1 18 (j + 1) from if_pos (by omega), zt_off (by omega) (by omega), ef, zs_off _ (by omega), za_off _ (fun y => by have := pm.inj (a := j + 1) (b := 0) (by omega) (by omega) (by omega); omega), za_off _ (by omega)]
        exact t
    · rw [eN] at hj
      rw [eU]
      by_cases z : j = 7
      · subst z; exact tOK_ext b2 tk r2
      · exact tOK_ext b2 (pk (j + 1) (by omega)) (r1 j (by omega))
end
