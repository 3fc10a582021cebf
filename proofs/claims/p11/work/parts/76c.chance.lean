/-! cares by chance: rows of coins, one by one, and forks -/
def hC (rb th pe : zF1) (np : Nat) (c : Nat → Int32) : Nat → Nat → zF1 × Int32 → zF1 × Int32
  | 0, _, s => s
  | k + 1, m, s => hC rb th pe np c k (m + 1) (passF rb th pe np (c m) s)
theorem homeM_C (rb th pe : zF1) (np : Nat) (ts : Int32) : ∀ (k m : Nat) (s : zF1 × Int32), s.1 3 = nI m → m + k ≤ 12 → homeM rb th pe np (-4) ts k s = hC rb th pe np (fun i => coinF ts (nI i)) k m s := by
  intro k
  induction k with
  | zero => intro m s _ _; rfl
  | succ k ih =>
    intro m s h hk
    rw [homeM, hC, passM_F _ _ _ _ _ h (by omega), h]
    exact ih (m + 1) _ (by rw [passF_3, h, nI_1]) (by omega)
theorem hC_cg (rb th pe : zF1) (np : Nat) {c c' : Nat → Int32} : ∀ (k m : Nat) (s : zF1 × Int32), (∀ i, m ≤ i → i < m + k → c i = c' i) → hC rb th pe np c k m s = hC rb th pe np c' k m s := by
  intro k
  induction k with
  | zero => intro m s _; rfl
  | succ k ih =>
    intro m s h
    rw [hC, hC, h m (by omega) (by omega)]
    exact ih (m + 1) _ (fun i a b => h i (by omega) (by omega))
theorem hC_fst (rb th pe : zF1) (np : Nat) (c : Nat → Int32) : ∀ (k m : Nat) (s s' : zF1 × Int32), s.1 = s'.1 → (hC rb th pe np c k m s).1 = (hC rb th pe np c k m s').1 := by
  intro k
  induction k with
  | zero => intro m s s' h; exact h
  | succ k ih => intro m s s' h; exact ih _ _ _ (by rw [passF_fst, passF_fst, h])
theorem coin_sh : ∀ m, m < 12 → ((nI m &&& 31).toBitVec.smod 32).toNat = m := by decide
theorem coin_row {r a i : Nat} (hr : r < 1024) (ha : a ≤ i) (hi : i < 12) : coinF (nI r <<< (nI a &&& 31)) (nI i) = nI (1 + r / 2 ^ (i - a) % 2) := by
  unfold coinF
  have hp : 2 ^ a ≤ 2 ^ 11 := Nat.pow_le_pow_right (by decide) (by omega)
  have hb : r * 2 ^ a < 2 ^ 22 := Nat.lt_of_lt_of_le (Nat.mul_lt_mul_of_pos_right hr (Nat.two_pow_pos a)) (by omega)
  rw [pk_shlN _ a (coin_sh a (by omega)) (by omega), pk_shrN (by omega) _ i (coin_sh i hi)]
  have hq : r * 2 ^ a / 2 ^ i = r / 2 ^ (i - a) := by
    have e : 2 ^ i = 2 ^ a * 2 ^ (i - a) := by rw [← Nat.pow_add, show a + (i - a) = i by omega]
    rw [e, Nat.mul_comm r, Nat.mul_div_mul_left _ _ (Nat.two_pow_pos a)]
  have h31 : r * 2 ^ a / 2 ^ i < 2 ^ 32 := Nat.lt_of_le_of_lt (Nat.div_le_self _ _) (by omega)
  rw [pk_andN h31 1 (by decide), hq, nI_1, Nat.add_comm]
/-- which thing he brings home by a row of coins, the lowest first -/
def wC (rb th pe : zF1) (np n m : Nat) (T : zF1) (r : Nat) : Int32 := (hC rb th pe np (fun i => nI (1 + r / 2 ^ (i - m) % 2)) n m (T, 0)).1 0
theorem wC_s (rb th pe : zF1) (np n m : Nat) (T : zF1) (r : Nat) : wC rb th pe np (n + 1) m T r = wC rb th pe np n (m + 1) (passT rb th pe np (nI (1 + r % 2)) T) (r / 2) := by
  unfold wC
  rw [hC]
  have e : ∀ i, m + 1 ≤ i → i < m + 1 + n → nI (1 + r / 2 ^ (i - m) % 2) = nI (1 + r / 2 / 2 ^ (i - (m + 1)) % 2) := fun i a _ => by
    rw [show i - m = (i - (m + 1)) + 1 by omega, Nat.pow_succ, Nat.mul_comm, ← Nat.div_div_eq_div_mul]
  rw [hC_cg rb th pe np n (m + 1) _ e, Nat.sub_self, Nat.pow_zero, Nat.div_one]
  exact congrFun (hC_fst rb th pe np _ n (m + 1) (passF rb th pe np (nI (1 + r % 2)) (T, 0)) (passT rb th pe np (nI (1 + r % 2)) T, 0) rfl) 0
theorem chN_cg {Q Q' : Nat → Int32} {x : Int32} : ∀ n, (∀ r, r < n → Q r = Q' r) → chN Q x n = chN Q' x n := by
  intro n
  induction n with
  | zero => intro _; rfl
  | succ n ih => intro h; rw [chN, chN, ih (fun r hr => h r (by omega)), h n (by omega)]
theorem chN_2 (Q : Nat → Int32) (x : Int32) : ∀ n, chN Q x (2 * n) = chN (fun i => Q (2 * i)) x n + chN (fun i => Q (2 * i + 1)) x n := by
  intro n
  induction n with
  | zero => rfl
  | succ n ih =>
    rw [show 2 * (n + 1) = 2 * n + 1 + 1 by omega, chN, chN, ih, chN, chN]
    omega
theorem eq2_pass {rb th pe : zF1} {np : Nat} {c : Int32} {T T' : zF1} (h : ∀ i, i ≠ 2 → T i = T' i) : ∀ i, i ≠ 2 → passT rb th pe np c T i = passT rb th pe np c T' i := by
  have h0 := h 0 (by decide)
  by_cases v : 0 ≤ T 0 ∧ T 0 < rb 0
  · have e : feelsF rb th c T = feelsF rb th c T' := by
      unfold feelsF
      rw [if_pos v, if_pos (by rw [← h0]; exact v)]
      unfold feelF
      rw [h0, h 1 (by decide)]
      funext i
      by_cases z : i = 2
      · subst z; rw [va_up_self, va_up_self]
      · rw [va_up_ne _ _ z, va_up_ne _ _ z]
        by_cases y : i = 1
        · subst y; rw [va_up_self, va_up_self]
        · rw [va_up_ne _ _ y, va_up_ne _ _ y]; exact h i z
    intro i _
    unfold passT
    rw [passF_end, passF_end]
    dsimp only
    rw [e]
  · have nop : ∀ (U : zF1), U 0 = T 0 → passT rb th pe np c U = va_up U 3 (U 3 + 1) := by
      intro U hU
      have vU : ¬ (0 ≤ U 0 ∧ U 0 < rb 0) := by rw [hU]; exact v
      have pk : ∀ k, peoF rb th pe c k (U, 0) = (U, 0) := by
        intro k
        induction k with
        | zero => rfl
        | succ k ih => rw [peoF, ih, stepF, if_neg (fun q => vU q.2.1)]
      unfold passT
      rw [passF_end, feelsF, if_neg vU]
      dsimp only
      rw [pk, endM, wellF, if_neg (fun q => vU q.2.1)]
    intro i hi
    rw [nop T rfl, nop T' h0.symm]
    by_cases z : i = 3
    · subst z; rw [va_up_self, va_up_self, h 3 (by decide)]
    · rw [va_up_ne _ _ z, va_up_ne _ _ z]; exact h i hi
theorem eq2_ways {rb th pe : zF1} {np : Nat} {x : Int32} : ∀ (j : Nat) (T T' : zF1), (∀ i, i ≠ 2 → T i = T' i) → waysF rb th pe np x j T = waysF rb th pe np x j T' := by
  intro j
  induction j with
  | zero => intro T T' h; rw [waysF, waysF, h 0 (by decide)]
  | succ j ih =>
    intro T T' h
    rw [waysF, waysF, h 0 (by decide), h 3 (by decide), ih _ _ (eq2_pass (c := 1) h), ih _ _ (eq2_pass (c := 2) h)]
theorem peoB_0 {pe : zF1} {m : Int32} : ∀ {j k : Nat}, peoB pe m j k = 0 → ∀ p, k ≤ p → p < k + j → ¬ pe (2 * p) = m := by
  intro j
  induction j with
  | zero => intro k _ p a b; omega
  | succ j ih =>
    intro k h p a b
    rw [peoB] at h
    by_cases z : pe (2 * k) = m
    · rw [if_pos z] at h; exact absurd h (by decide)
    · rw [if_neg z] at h
      by_cases y : p = k
      · subst y; exact z
      · exact ih h p (by omega) (by omega)
theorem eq2_none {rb th pe : zF1} {np : Nat} {c c' : Int32} {T : zF1} (h : peoB pe (T 3) np 0 = 0) : ∀ i, i ≠ 2 → passT rb th pe np c T i = passT rb th pe np c' T i := by
  have pk : ∀ (U : zF1), U 3 = T 3 → ∀ cc k, k ≤ np → peoF rb th pe cc k (U, 0) = (U, 0) := by
    intro U hU cc k
    induction k with
    | zero => intro _; rfl
    | succ k ih => intro hk; rw [peoF, ih (by omega), stepF, if_neg (fun q => peoB_0 h k (by omega) (by omega) (q.1.trans hU))]
  intro i hi
  unfold passT
  rw [passF_end, passF_end]
  dsimp only
  rw [pk _ (feels_3 rb th c T) c np (Nat.le_refl _), pk _ (feels_3 rb th c' T) c' np (Nat.le_refl _)]
  have fe : ∀ q, q ≠ 2 → feelsF rb th c T q = feelsF rb th c' T q := by
    intro q hq
    unfold feelsF
    split
    · unfold feelF; rw [va_up_ne _ _ hq, va_up_ne _ _ hq]
    · rfl
  unfold endM
  have we : ∀ q, q ≠ 2 → wellF rb th (feelsF rb th c T) q = wellF rb th (feelsF rb th c' T) q := by
    intro q hq
    unfold wellF
    rw [fe 0 (by decide), fe 1 (by decide), fe 3 (by decide)]
    split
    · by_cases z : q = 1
      · subst z; rw [va_up_self, va_up_self]
      · rw [va_up_ne _ _ z, va_up_ne _ _ z]
        by_cases y : q = 0
        · subst y; rw [va_up_self, va_up_self]
        · rw [va_up_ne _ _ y, va_up_ne _ _ y]; exact fe q hq
    · exact fe q hq
  by_cases z : i = 3
  · subst z
    show va_up (wellF rb th (feelsF rb th c T)) 3 (wellF rb th (feelsF rb th c T) 3 + 1) 3 = va_up (wellF rb th (feelsF rb th c' T)) 3 (wellF rb th (feelsF rb th c' T) 3 + 1) 3
    rw [va_up_self, va_up_self, we 3 (by decide)]
  · show va_up (wellF rb th (feelsF rb th c T)) 3 (wellF rb th (feelsF rb th c T) 3 + 1) i = va_up (wellF rb th (feelsF rb th c' T)) 3 (wellF rb th (feelsF rb th c' T) 3 + 1) i
    rw [va_up_ne _ _ z, va_up_ne _ _ z]
    exact we i hi
theorem ways_cnt {rb th pe : zF1} {np : Nat} {x : Int32} : ∀ (n j m : Nat) (T : zF1), n ≤ j → m + n = 12 → T 3 = nI m → waysF rb th pe np x j T = nI (chN (wC rb th pe np n m T) x (2 ^ n)) := by
  intro n
  induction n with
  | zero =>
    intro j m T hj hm h3
    obtain rfl : m = 12 := by omega
    have e : chN (wC rb th pe np 0 12 T) x (2 ^ 0) = if T 0 = x then 1 else 0 := by
      show 0 + (if T 0 = x then 1 else 0) = _
      rw [Nat.zero_add]
    rw [e]
    cases j with
    | zero => rw [waysF]; split <;> rfl
    | succ j => rw [waysF, if_pos (by rw [h3]; decide)]; split <;> rfl
  | succ n ih =>
    intro j m T hj hm h3
    obtain ⟨j, rfl⟩ : ∃ i, j = i + 1 := ⟨j - 1, by omega⟩
    have p3 : ∀ c, passT rb th pe np c T 3 = nI (m + 1) := fun c => by unfold passT; rw [passF_3]; show T 3 + 1 = _; rw [h3, nI_1]
    have i1 := ih j (m + 1) (passT rb th pe np 1 T) (by omega) (by omega) (p3 1)
    have i2 := ih j (m + 1) (passT rb th pe np 2 T) (by omega) (by omega) (p3 2)
    have cnt : chN (wC rb th pe np (n + 1) m T) x (2 ^ (n + 1)) = chN (wC rb th pe np n (m + 1) (passT rb th pe np 1 T)) x (2 ^ n) + chN (wC rb th pe np n (m + 1) (passT rb th pe np 2 T)) x (2 ^ n) := by
      rw [Nat.pow_succ, Nat.mul_comm, chN_2]
      congr 1
      · refine chN_cg _ (fun r _ => ?_)
        show wC rb th pe np (n + 1) m T (2 * r) = _
        rw [wC_s, show 2 * r % 2 = 0 by omega, show 2 * r / 2 = r by omega]
        rfl
      · refine chN_cg _ (fun r _ => ?_)
        show wC rb th pe np (n + 1) m T (2 * r + 1) = _
        rw [wC_s, show (2 * r + 1) % 2 = 1 by omega, show (2 * r + 1) / 2 = r by omega]
        rfl
    rw [cnt, ← nI_add, ← i1, ← i2, waysF, if_neg (by rw [h3]; exact nI_ge (b := 12) (by omega) (by decide))]
    by_cases z : peoB pe (T 3) np 0 = 0
    · rw [if_pos z, ← eq2_ways j _ _ (eq2_none (c := 1) (c' := 2) z)]
      generalize waysF rb th pe np x j (passT rb th pe np 1 T) = W
      rw [show (2 : Int32) = 1 + 1 from by decide, Int32.add_mul, Int32.one_mul]
    · rw [if_neg z]
theorem peoB_cg {pe pe' : zF1} {m : Int32} {np : Nat} (h : peE np pe pe') : ∀ (j k : Nat), k + j ≤ np → peoB pe m j k = peoB pe' m j k := by
  intro j
  induction j with
  | zero => intro k _; rfl
  | succ j ih => intro k hk; rw [peoB, peoB, h (2 * k) (by omega), ih _ (by omega)]
theorem ways_cg {nt np : Nat} {rb rb' th th' pe pe' : zF1} {d x : Int32} (h10 : nt ≤ 10) (hr : rbE nt rb rb') (h : thE nt th th') (hp : peE np pe pe') : ∀ (j : Nat) (T T' : zF1), trx np d s5 T T' → waysF rb th pe np x j T = waysF rb' th' pe' np x j T' := by
  intro j
  induction j with
  | zero => intro T T' t; rw [waysF, waysF, t.1]
  | succ j ih =>
    intro T T' t
    have p : ∀ c, trx np d s5 (passT rb th pe np c T) (passT rb' th' pe' np c T') := fun c => (pass_cg (S := (T, 0)) (S' := (T', 0)) (c := c) h10 hr h hp t rfl).1
    rw [waysF, waysF, t.1, t.2.2.2.1, peoB_cg hp np 0 (by omega), ih _ _ (p 1), ih _ _ (p 2)]
theorem chance_cg {nt np a : Nat} {rb rb' th th' pe pe' T T' : zF1} {d x : Int32} (h10 : nt ≤ 10) (hr : rbE nt rb rb') (h : thE nt th th') (hp : peE np pe pe') (t : trx np d s5 T T') (ha : T' 3 = nI a) (h12 : a ≤ 12) (h2 : ¬ a < 2) : waysF rb th pe np x 10 T = nI (chN (chQ rb' th' pe' np a T') x (2 ^ (12 - a))) := by
  rw [ways_cg h10 hr h hp 10 T T' t, ways_cnt (12 - a) 10 a T' (by omega) (by omega) ha]
  congr 1
  refine chN_cg _ (fun r hr2 => ?_)
  have p2 : 2 ^ (12 - a) ≤ 2 ^ 10 := Nat.pow_le_pow_right (by decide) (by omega)
  unfold wC chQ
  rw [homeM_C _ _ _ _ _ (12 - a) a _ ha (by omega), hC_cg rb' th' pe' np (12 - a) a _ (fun i b1 b2 => coin_row (r := r) (by omega) b1 (by omega))]
  exact congrFun (hC_fst rb' th' pe' np _ (12 - a) a (T', 0) (T', -4) rfl) 0
