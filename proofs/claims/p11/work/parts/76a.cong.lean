/-! the document's words hang only on what is there -/
def thE (nt : Nat) (th th' : zF1) : Prop := ∀ q, q < 4 * nt → th q = th' q
def peE (np : Nat) (pe pe' : zF1) : Prop := ∀ q, q < 2 * np → pe q = pe' q
def rbE (nt : Nat) (rb rb' : zF1) : Prop := rb 0 = nI nt ∧ rb' 0 = nI nt ∧ rb 2 = rb' 2 ∧ rb 3 = rb' 3
/-- two trips alike, but for a shift of the changes; s: where the other one keeps what people have -/
def trx (np : Nat) (d : Int32) (s : Nat → Nat) (T T' : zF1) : Prop := T 0 = T' 0 ∧ T 1 = T' 1 ∧ T 2 = T' 2 ∧ T 3 = T' 3 ∧ T 4 = T' 4 + d ∧ ∀ p, p < np → T (5 + p) = T' (s p)
def s5 (p : Nat) : Nat := 5 + p
def s13 (np p : Nat) : Nat := if p < np then 5 + p else 13
def sOK (np : Nat) (s : Nat → Nat) : Prop := (∀ p, p < np → 5 ≤ s p) ∧ ∀ p q, p < np → q < np → s p = s q → p = q
theorem s5_ok (np : Nat) : sOK np s5 := ⟨fun p _ => by unfold s5; omega, fun p q _ _ h => by unfold s5 at h; omega⟩
theorem s13_ok {np : Nat} (h : np ≤ 8) : sOK (np + 1) (s13 np) := ⟨fun p _ => by unfold s13; split <;> omega, fun p q h1 h2 h => by unfold s13 at h; split at h <;> split at h <;> omega⟩
theorem felt_cg {nt : Nat} {th th' : zF1} (h : thE nt th th') {j : Nat} (hj : j < nt) (m n : Int32) : feltF th j m n = feltF th' j m n := by
  unfold feltF
  rw [h (4 * j) (by omega), h (4 * j + 2) (by omega), h (4 * j + 3) (by omega)]
theorem v_nat {nt : Nat} {x : Int32} (h10 : nt ≤ 10) (h : 0 ≤ x ∧ x < nI nt) : x.toNatClampNeg < nt := by
  obtain ⟨j, h1, rfl⟩ := n_in h (by omega)
  rw [nI_clamp (by omega)]
  exact h1
theorem glad_cg {nt : Nat} {th th' T T' : zF1} {c hd x : Int32} (h10 : nt ≤ 10) (h : thE nt th th') (t0 : T 0 = T' 0) (t1 : T 1 = T' 1) (t2 : T 2 = T' 2) (v0 : 0 ≤ T' 0 ∧ T' 0 < nI nt) (vx : 0 ≤ x ∧ x < nI nt) : gladF th c hd T x ↔ gladF th' c hd T' x := by
  have j0 := v_nat h10 v0
  have jx := v_nat h10 vx
  unfold gladF
  rw [t0, t1, t2, felt_cg h jx, felt_cg h j0, h (4 * (T' 0).toNatClampNeg + 1) (by omega), h (4 * x.toNatClampNeg + 1) (by omega)]
theorem will_cg {nt : Nat} {th th' T T' : zF1} {mg x : Int32} (h10 : nt ≤ 10) (h : thE nt th th') (t0 : T 0 = T' 0) (v0 : 0 ≤ T' 0 ∧ T' 0 < nI nt) (vx : 0 ≤ x ∧ x < nI nt) : willF th mg T x ↔ willF th' mg T' x := by
  have j0 := v_nat h10 v0
  have jx := v_nat h10 vx
  unfold willF
  rw [t0, h (4 * (T' 0).toNatClampNeg + 1) (by omega), h (4 * x.toNatClampNeg + 1) (by omega)]
theorem shift4 (x d : Int32) : x + d + 1 = x + 1 + d := by rw [Int32.add_assoc, Int32.add_comm d 1, Int32.add_assoc]
theorem off_cg {nt np p : Nat} {th th' T T' : zF1} {mg hd c d rf : Int32} {s : Nat → Nat} (h10 : nt ≤ 10) (h : thE nt th th') (ok : sOK np s) (hp : p < np) (t : trx np d s T T') (v0 : 0 ≤ T' 0 ∧ T' 0 < nI nt) (vx : 0 ≤ T' (s p) ∧ T' (s p) < nI nt) : trx np d s (offT th mg hd c (5 + p) T) (offT th' mg hd c (s p) T') ∧ offR th mg hd c (5 + p) T rf = offR th' mg hd c (s p) T' rf := by
  obtain ⟨t0, t1, t2, t3, t4, t5⟩ := id t
  have e := t5 p hp
  have s1 := ok.1 p hp
  unfold offT offR
  rw [e]
  by_cases g : gladF th' c hd T' (T' (s p))
  · have g' := (glad_cg (c := c) (hd := hd) h10 h t0 t1 t2 v0 vx).mpr g
    by_cases wl : willF th' mg T' (T' (s p))
    · have w' := (will_cg (mg := mg) h10 h t0 v0 vx).mpr wl
      rw [if_pos g, if_pos g', if_pos wl, if_pos w', if_pos g, if_pos g', if_pos wl, if_pos w']
      refine ⟨⟨?_, ?_, ?_, ?_, ?_, fun q hq => ?_⟩, rfl⟩
      · simp +decide only [va_g, if_true, if_false]
      · simp +decide only [va_g, if_true, if_false]
      · rw [va_up_ne _ _ (by decide), va_up_ne _ _ (by decide), va_up_ne _ _ (by decide), va_up_ne _ _ (by omega), va_up_ne _ _ (by decide), va_up_ne _ _ (by decide), va_up_ne _ _ (by decide), va_up_ne _ _ (by omega), t2]
      · rw [va_up_ne _ _ (by decide), va_up_ne _ _ (by decide), va_up_ne _ _ (by decide), va_up_ne _ _ (by omega), va_up_ne _ _ (by decide), va_up_ne _ _ (by decide), va_up_ne _ _ (by decide), va_up_ne _ _ (by omega), t3]
      · rw [va_up_self, va_up_self, t4, shift4]
      · have s2 := ok.1 q hq
        rw [va_up_ne _ _ (by omega), va_up_ne _ _ (by omega), va_up_ne _ _ (by omega), va_up_ne _ _ (show s q ≠ 4 by omega), va_up_ne _ _ (show s q ≠ 1 by omega), va_up_ne _ _ (show s q ≠ 0 by omega)]
        by_cases z : q = p
        · subst z; rw [va_up_self, va_up_self, t0]
        · rw [va_up_ne _ _ (by omega), va_up_ne _ _ (fun y => z (ok.2 q p hq hp y))]
          exact t5 q hq
    · have w' := fun y => wl ((will_cg (mg := mg) h10 h t0 v0 vx).mp y)
      rw [if_pos g, if_pos g', if_neg wl, if_neg w', if_pos g, if_pos g', if_neg wl, if_neg w', t3]
      exact ⟨t, rfl⟩
  · have g' := fun y => g ((glad_cg (c := c) (hd := hd) h10 h t0 t1 t2 v0 vx).mp y)
    rw [if_neg g, if_neg g', if_neg g, if_neg g']
    exact ⟨t, rfl⟩
theorem step_cg {nt np p : Nat} {rb rb' th th' pe pe' : zF1} {c d : Int32} {s : Nat → Nat} {S S' : zF1 × Int32} (h10 : nt ≤ 10) (hr : rbE nt rb rb') (h : thE nt th th') (ok : sOK np s) (hp : p < np) (sp : s p = 5 + p) (e0 : pe (2 * p) = pe' (2 * p)) (e1 : pe (2 * p + 1) = pe' (2 * p + 1)) (t : trx np d s S.1 S'.1) (e : S.2 = S'.2) : trx np d s (stepF rb th pe c p S).1 (stepF rb' th' pe' c p S').1 ∧ (stepF rb th pe c p S).2 = (stepF rb' th' pe' c p S').2 := by
  obtain ⟨r0, r0', r2, r3⟩ := hr
  obtain ⟨t0, t1, t2, t3, t4, t5⟩ := id t
  have e5 := t5 p hp
  rw [sp] at e5
  unfold stepF
  rw [r0, r0', r2, t0, t3, e0, e1, e5, e]
  by_cases z : pe' (2 * p) = S'.1 3 ∧ (0 ≤ S'.1 0 ∧ S'.1 0 < nI nt) ∧ (0 ≤ S'.1 (5 + p) ∧ S'.1 (5 + p) < nI nt)
  · rw [if_pos z, if_pos z]
    have := off_cg (mg := pe' (2 * p + 1)) (hd := rb' 2) (c := c) (rf := S'.2) h10 h ok hp t z.2.1 (by rw [sp]; exact z.2.2)
    rw [sp] at this
    exact this
  · rw [if_neg z, if_neg z]
    exact ⟨t, e⟩
theorem peo_cg {nt np : Nat} {rb rb' th th' pe pe' : zF1} {c d : Int32} {s : Nat → Nat} {S S' : zF1 × Int32} (h10 : nt ≤ 10) (hr : rbE nt rb rb') (h : thE nt th th') (ok : sOK np s) (t : trx np d s S.1 S'.1) (e : S.2 = S'.2) : ∀ k, k ≤ np → (∀ p, p < k → s p = 5 + p) → (∀ q, q < 2 * k → pe q = pe' q) → trx np d s (peoF rb th pe c k S).1 (peoF rb' th' pe' c k S').1 ∧ (peoF rb th pe c k S).2 = (peoF rb' th' pe' c k S').2 := by
  intro k
  induction k with
  | zero => intro _ _ _; exact ⟨t, e⟩
  | succ k ih =>
    intro hk hs hpe
    obtain ⟨i1, i2⟩ := ih (by omega) (fun p hp => hs p (by omega)) (fun q hq => hpe q (by omega))
    exact step_cg h10 hr h ok (by omega) (hs k (by omega)) (hpe _ (by omega)) (hpe _ (by omega)) i1 i2
theorem well_cg {nt np : Nat} {rb rb' th th' T T' : zF1} {d : Int32} {s : Nat → Nat} (h10 : nt ≤ 10) (hr : rbE nt rb rb') (h : thE nt th th') (ok : sOK np s) (t : trx np d s T T') : trx np d s (wellF rb th T) (wellF rb' th' T') := by
  obtain ⟨r0, r0', r2, r3⟩ := hr
  obtain ⟨t0, t1, t2, t3, t4, t5⟩ := id t
  unfold wellF
  rw [r0, r0', r3, t0, t1, t3]
  by_cases v : 0 ≤ T' 0 ∧ T' 0 < nI nt
  · rw [felt_cg h (v_nat h10 v)]
    by_cases z : rb' 3 = T' 3 ∧ (0 ≤ T' 0 ∧ T' 0 < nI nt) ∧ 10 ≤ feltF th' (T' 0).toNatClampNeg 0 (T' 1)
    · rw [if_pos z, if_pos z]
      refine ⟨?_, ?_, ?_, ?_, ?_, fun q hq => ?_⟩
      · simp +decide only [va_g, if_true, if_false]
      · simp +decide only [va_g, if_true]
      · simp +decide only [va_g, if_false, t2]
      · simp +decide only [va_g, if_false, t3]
      · simp +decide only [va_g, if_false, t4]
      · have s2 := ok.1 q hq
        rw [va_up_ne _ _ (by omega), va_up_ne _ _ (by omega), va_up_ne _ _ (by omega), va_up_ne _ _ (by omega)]
        exact t5 q hq
    · rw [if_neg z, if_neg z]; exact t
  · rw [if_neg (fun z => v z.2.1), if_neg (fun z => v z.2.1)]; exact t
theorem feels_cg {nt np : Nat} {rb rb' th th' T T' : zF1} {c d : Int32} {s : Nat → Nat} (h10 : nt ≤ 10) (hr : rbE nt rb rb') (h : thE nt th th') (ok : sOK np s) (t : trx np d s T T') : trx np d s (feelsF rb th c T) (feelsF rb' th' c T') := by
  obtain ⟨r0, r0', r2, r3⟩ := hr
  obtain ⟨t0, t1, t2, t3, t4, t5⟩ := id t
  unfold feelsF
  rw [r0, r0', t0]
  by_cases v : 0 ≤ T' 0 ∧ T' 0 < nI nt
  · rw [if_pos v, if_pos v]
    unfold feelF
    rw [t0, t1, felt_cg h (v_nat h10 v), felt_cg h (v_nat h10 v)]
    refine ⟨?_, ?_, ?_, ?_, ?_, fun q hq => ?_⟩
    · simp +decide only [va_g, if_false, t0]
    · simp +decide only [va_g, if_true, if_false]
    · simp +decide only [va_g, if_true]
    · simp +decide only [va_g, if_false, t3]
    · simp +decide only [va_g, if_false, t4]
    · have s2 := ok.1 q hq
      rw [va_up_ne _ _ (by omega), va_up_ne _ _ (by omega), va_up_ne _ _ (by omega), va_up_ne _ _ (by omega)]
      exact t5 q hq
  · rw [if_neg v, if_neg v]; exact t
theorem end_cg {nt np : Nat} {rb rb' th th' : zF1} {d : Int32} {s : Nat → Nat} {S S' : zF1 × Int32} (h10 : nt ≤ 10) (hr : rbE nt rb rb') (h : thE nt th th') (ok : sOK np s) (t : trx np d s S.1 S'.1) (e : S.2 = S'.2) : trx np d s (endM rb th S).1 (endM rb' th' S').1 ∧ (endM rb th S).2 = (endM rb' th' S').2 := by
  have w := well_cg h10 hr h ok t
  obtain ⟨t0, t1, t2, t3, t4, t5⟩ := w
  unfold endM
  refine ⟨⟨?_, ?_, ?_, ?_, ?_, fun q hq => ?_⟩, e⟩
  · simp +decide only [va_g, if_false, t0]
  · simp +decide only [va_g, if_false, t1]
  · simp +decide only [va_g, if_false, t2]
  · simp +decide only [va_g, if_true, t3]
  · simp +decide only [va_g, if_false, t4]
  · have s2 := ok.1 q hq
    show va_up _ 3 _ (5 + q) = va_up _ 3 _ (s q)
    rw [va_up_ne _ _ (by omega), va_up_ne _ _ (by omega)]
    exact t5 q hq
theorem passF_end (rb th pe : zF1) (np : Nat) (c : Int32) (S : zF1 × Int32) : passF rb th pe np c S = endM rb th (peoF rb th pe c np (feelsF rb th c S.1, S.2)) := rfl
theorem pass_cg {nt np : Nat} {rb rb' th th' pe pe' : zF1} {c d : Int32} {S S' : zF1 × Int32} (h10 : nt ≤ 10) (hr : rbE nt rb rb') (h : thE nt th th') (hp : peE np pe pe') (t : trx np d s5 S.1 S'.1) (e : S.2 = S'.2) : trx np d s5 (passF rb th pe np c S).1 (passF rb' th' pe' np c S').1 ∧ (passF rb th pe np c S).2 = (passF rb' th' pe' np c S').2 := by
  rw [passF_end, passF_end]
  have ok := s5_ok np
  obtain ⟨a, b⟩ := peo_cg (S := (feelsF rb th c S.1, S.2)) (S' := (feelsF rb' th' c S'.1, S'.2)) (c := c) h10 hr h ok (feels_cg h10 hr h ok t) e np (Nat.le_refl _) (fun p _ => rfl) hp
  exact end_cg h10 hr h ok a b
theorem home_cg {nt np : Nat} {rb rb' th th' pe pe' : zF1} {d : Int32} (h10 : nt ≤ 10) (hr : rbE nt rb rb') (h : thE nt th th') (hp : peE np pe pe') : ∀ (k : Nat) (S S' : zF1 × Int32), trx np d s5 S.1 S'.1 → S.2 = S'.2 → trx np d s5 (homeF rb th pe np k S).1 (homeF rb' th' pe' np k S').1 ∧ (homeF rb th pe np k S).2 = (homeF rb' th' pe' np k S').2 := by
  intro k
  induction k with
  | zero => intro S S' t e; exact ⟨t, e⟩
  | succ k ih =>
    intro S S' t e
    obtain ⟨a, b⟩ := pass_cg (c := 1) h10 hr h hp t e
    exact ih _ _ a b
/-- one more person: behind all others here, aside there -/
theorem passM_cg {nt np : Nat} {rb rb' th th' pe pe' : zF1} {c d mo : Int32} {S S' : zF1 × Int32} (h10 : nt ≤ 10) (h8 : np ≤ 8) (hr : rbE nt rb rb') (h : thE nt th th') (hp : peE np pe pe') (m0 : pe (2 * np) = mo) (m1 : pe (2 * np + 1) = 0) (t : trx (np + 1) d (s13 np) S.1 S'.1) (e : S.2 = S'.2) : trx (np + 1) d (s13 np) (passF rb th pe (np + 1) c S).1 (passM rb' th' pe' np mo c S').1 ∧ (passF rb th pe (np + 1) c S).2 = (passM rb' th' pe' np mo c S').2 := by
  rw [passF_end, passM]
  have ok := s13_ok h8
  have sn : s13 np np = 13 := if_neg (by omega)
  obtain ⟨a, b⟩ := peo_cg (S := (feelsF rb th c S.1, S.2)) (S' := (feelsF rb' th' c S'.1, S'.2)) (c := c) h10 hr h ok (feels_cg h10 hr h ok t) e np (by omega) (fun p hp => if_pos hp) hp
  rw [peoF]
  generalize peoF rb th pe c np (feelsF rb th c S.1, S.2) = A at a b
  generalize peoF rb' th' pe' c np (feelsF rb' th' c S'.1, S'.2) = B at a b
  have key : trx (np + 1) d (s13 np) (stepF rb th pe c np A).1 (moreF rb' th' mo c B).1 ∧ (stepF rb th pe c np A).2 = (moreF rb' th' mo c B).2 := by
    obtain ⟨r0, r0', r2, r3⟩ := hr
    obtain ⟨t0, t1, t2, t3, t4, t5⟩ := id a
    have e5 := t5 np (by omega)
    rw [sn] at e5
    unfold stepF moreF
    rw [r0, r0', r2, t0, t3, m0, m1, e5, b]
    by_cases z : mo = B.1 3 ∧ (0 ≤ B.1 0 ∧ B.1 0 < nI nt) ∧ (0 ≤ B.1 13 ∧ B.1 13 < nI nt)
    · rw [if_pos z, if_pos z]
      have := off_cg (mg := 0) (hd := rb' 2) (c := c) (rf := B.2) (p := np) h10 h ok (by omega) a z.2.1 (by rw [sn]; exact z.2.2)
      rw [sn] at this
      exact this
    · rw [if_neg z, if_neg z]
      exact ⟨a, b⟩
  exact end_cg h10 hr h ok key.1 key.2
theorem homeM_cg {nt np : Nat} {rb rb' th th' pe pe' : zF1} {d mo : Int32} (h10 : nt ≤ 10) (h8 : np ≤ 8) (hr : rbE nt rb rb') (h : thE nt th th') (hp : peE np pe pe') (m0 : pe (2 * np) = mo) (m1 : pe (2 * np + 1) = 0) : ∀ (k : Nat) (S S' : zF1 × Int32), trx (np + 1) d (s13 np) S.1 S'.1 → S.2 = S'.2 → trx (np + 1) d (s13 np) (homeF rb th pe (np + 1) k S).1 (homeM rb' th' pe' np mo 0 k S').1 := by
  intro k
  induction k with
  | zero => intro S S' t e; exact t
  | succ k ih =>
    intro S S' t e
    obtain ⟨a, b⟩ := passM_cg (c := 1) h10 h8 hr h hp m0 m1 t e
    rw [homeM, coin_0]
    exact ih _ _ a b
theorem worth_cg {nt : Nat} {th th' : zF1} {x : Int32} (h10 : nt ≤ 10) (h : thE nt th th') (v : vx nt x) : worthO th (nI nt) x = wrt th' x := by
  unfold worthO wrt
  rcases v with rfl | ⟨j, hj, rfl⟩
  · rfl
  · rw [if_pos ⟨nI_pos' (by omega), nI_lt hj (by omega)⟩, if_neg (nI_pos (by omega)), nI_clamp (by omega)]
    exact h _ (by omega)
theorem who_cg {np : Nat} {d x : Int32} {T T' : zF1} (h8 : np ≤ 8) (t : trx np d s5 T T') : whoF T np x = -4 ↔ whoR T' x np = -4 := by
  obtain ⟨t0, t1, t2, t3, t4, t5⟩ := t
  rw [whoF_none h8, whoR_none' h8, t0]
  constructor
  · rintro ⟨a, b⟩; exact ⟨a, fun p hp z => b p hp ((t5 p hp).trans z)⟩
  · rintro ⟨a, b⟩; exact ⟨a, fun p hp z => b p hp ((t5 p hp).symm.trans z)⟩
/-- no thing is had by two -/
def uq (np : Nat) (T : zF1) : Prop := (∀ p, p < np → T (5 + p) = T 0 → T 0 = -4) ∧ ∀ p q, p < np → q < np → T (5 + p) = T (5 + q) → ¬ T (5 + p) = -4 → p = q
theorem whoR_at {T : zF1} {x : Int32} : ∀ {np : Nat}, (∀ p, p < np → ¬ T (5 + p) = x) → whoR T x np = if T 0 = x then 8 else -4 := by
  intro np
  induction np with
  | zero => intro _; rfl
  | succ np ih => intro h; rw [whoR, if_neg (h np (by omega))]; exact ih (fun p hp => h p (by omega))
theorem whoR_p {T : zF1} {x : Int32} {p : Nat} (hx : T (5 + p) = x) : ∀ {np : Nat}, p < np → (∀ q, p < q → q < np → ¬ T (5 + q) = x) → whoR T x np = nI p := by
  intro np
  induction np with
  | zero => intro h; omega
  | succ np ih =>
    intro h1 h2
    rw [whoR]
    by_cases z : p = np
    · subst z; rw [if_pos hx]
    · rw [if_neg (h2 np (by omega) (by omega))]
      exact ih (by omega) (fun q a b => h2 q a (by omega))
theorem whoL_p {T : zF1} {x : Int32} {p : Nat} (hx : T (5 + p) = x) : ∀ {j k : Nat}, k ≤ p → p < k + j → (∀ q, k ≤ q → q < p → ¬ T (5 + q) = x) → whoL T x j k = nI p := by
  intro j
  induction j with
  | zero => intro k a b; omega
  | succ j ih =>
    intro k a b h
    rw [whoL]
    by_cases z : k = p
    · subst z; rw [if_pos hx]
    · rw [if_neg (h k (by omega) (by omega))]
      exact ih (by omega) (by omega) (fun q c e => h q (by omega) e)
theorem who_eq {np : Nat} {d x : Int32} {T T' : zF1} (h8 : np ≤ 8) (t : trx np d s5 T T') (u : uq np T') (hx : ¬ x = -4) : whoF T np x = whoR T' x np := by
  obtain ⟨t0, t1, t2, t3, t4, t5⟩ := id t
  by_cases z : ∃ p, p < np ∧ T' (5 + p) = x
  · obtain ⟨p, hp, e⟩ := z
    have n0 : ¬ T' 0 = x := fun y => by
      have := u.1 p hp (e.trans y.symm)
      exact hx (y.symm.trans this)
    have un : ∀ q, q < np → T' (5 + q) = x → q = p := fun q hq y => u.2 q p hq hp (y.trans e.symm) (by rw [y]; exact hx)
    rw [whoR_p e hp (fun q a b y => by have := un q b y; omega)]
    unfold whoF
    rw [if_neg (by rw [t0]; exact n0)]
    exact whoL_p ((t5 p hp).trans e) (Nat.zero_le _) (by omega) (fun q a b y => by have := un q (by omega) ((t5 q (by omega)).symm.trans y); omega)
  · have zz : ∀ p, p < np → ¬ T' (5 + p) = x := fun p hp y => z ⟨p, hp, y⟩
    rw [whoR_at zz]
    unfold whoF
    rw [t0]
    by_cases y : T' 0 = x
    · rw [if_pos y, if_pos y]
    · rw [if_neg y, if_neg y]
      exact (whoL_none (by omega)).mpr (fun p _ hp q => zz p (by omega) ((t5 p (by omega)).symm.trans q))
