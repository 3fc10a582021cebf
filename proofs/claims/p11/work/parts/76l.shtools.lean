/-! what the calls on sheets need -/
theorem rg_nat {L m : Nat} {i : Int32} (hL : L ≤ 16) (hm : m < 2 ^ 31) : ¬ (i < 0 ∨ (nI L).toInt64 < i.toInt64 + (nI m).toInt64) ↔ ∃ a, i = nI a ∧ a + m ≤ L := by
  constructor
  · intro h
    refine why_ok2 (A := 0) (ln := 0) (B := nI L) hm rfl hL (fun z => ?_)
    unfold whyF at z
    rw [if_neg (by decide), if_neg (by decide), if_neg h] at z
    exact absurd z (by decide)
  · rintro ⟨a, rfl, h⟩ z
    rcases z with z | z
    · exact nI_pos (by omega) z
    · rw [nI_l (by omega), nI_l (by omega), nI_l (by omega), lN_add, pk_lLT (by omega) (by omega)] at z
      omega
theorem rg_cl {L m : Nat} {i : Int32} (hL : L ≤ 16) (hm : m < 2 ^ 31) : (0 ≤ i ∧ 0 ≤ nI m ∧ nI m ≤ nI L ∧ i ≤ nI L - nI m) ↔ ∃ a, i = nI a ∧ a + m ≤ L := by
  constructor
  · rintro ⟨h1, h2, h3, h4⟩
    obtain ⟨a, k, e1, e2, h⟩ := rng_n rfl hL h1 h2 h3 h4
    have : m = k ∨ ¬ k < 2 ^ 31 := by
      by_cases z : k < 2 ^ 31
      · exact Or.inl ((nI_eq hm z).mp e2)
      · exact Or.inr z
    exact ⟨a, e1, by omega⟩
  · rintro ⟨a, rfl, h⟩
    refine ⟨nI_pos' (by omega), nI_pos' (by omega), nI_le (by omega) (by omega), ?_⟩
    rw [pk_sub (by omega)]
    exact nI_le (by omega) (by omega)
theorem row_why {A B : zM} {q m : Nat} {ln i : Int32} (H : SH1 A B q) (hm : m < 2 ^ 31) : rowF (A.1 (130 + 2 * q)) ln i (nI m) = whyF (B.1 150 q) (B.1 151 q) ln i (nI m) := by
  obtain ⟨h1, ⟨L, hL, hA, hB⟩, _⟩ := H
  unfold rowF whyF
  rcases h1 with ⟨a1, a2⟩ | ⟨a1, l, hl, a2, a3⟩
  · rw [if_pos a1, a2, if_pos (by decide)]
  · rw [if_neg (by rw [a1]; decide), a2, a3, if_neg (nI_pos (by omega))]
    by_cases z : nI l = ln
    · rw [if_neg (show ¬ ¬ nI l = ln from fun y => y z), if_neg (show ¬ ¬ nI l = ln from fun y => y z), hA, hB]
      by_cases y : ∃ a, i = nI a ∧ a + m ≤ L
      · rw [if_pos ((rg_cl hL hm).mpr y), if_neg ((rg_nat hL hm).mpr y)]
      · rw [if_neg (fun c => y ((rg_cl hL hm).mp c)), if_pos (Classical.byContradiction fun c => y ((rg_nat hL hm).mp c))]
    · rw [if_pos z, if_pos z]
theorem rowS_q {M : zM} {q : Nat} {ln i n : Int32} (hq : q < 4) (hl : ¬ (ln < 0 ∨ 3 < ln)) : rowS M 0 (nI q) ln i n = rowF (M.1 (130 + 2 * q)) ln i n := by
  have e : (nI q).toNatClampNeg = q := nI_clamp (by omega)
  unfold rowS
  rw [if_neg (fun z => z.elim (fun z => z.elim (nI_pos (by omega)) (fun y => nI_nlt (a := 3) (b := q) (by omega) (by decide) y)) hl), e]
theorem rowS_l {M : zM} {x ln i n : Int32} (hl : ln < 0 ∨ 3 < ln) : rowS M 0 x ln i n = -1 := if_pos (Or.inr hl)
theorem nI4 {q : Nat} (hq : q < 4) : ¬ (nI q < 0 ∨ 3 < nI q) := fun z => z.elim (nI_pos (by omega)) (fun y => nI_nlt (a := 3) (b := q) (by omega) (by decide) y)
theorem allIn_cg {f g : Nat → Int64} {nt : Int32} (h : ∀ k, k < 16 → f k = g k) : ∀ (j k : Nat), k + j ≤ 16 → (allIn f nt j k ↔ allIn g nt j k) := by
  intro j
  induction j with
  | zero => intro k _; exact Iff.rfl
  | succ j ih =>
    intro k hk
    rw [allIn, allIn, h k (by omega), ih (k + 1) (by omega)]
theorem seenL_cg {nt : Nat} {th th' : zF1} {f g : Nat → Int64} (h10 : nt ≤ 10) (ht : thE nt th th') (h : ∀ k, k < 16 → f k = g k) : ∀ (m a : Nat) (s : Int32), a + 2 * m ≤ 16 → allIn g (nI nt) (2 * m) a → seenL th f m a s = seenL th' g m a s := by
  intro m
  induction m with
  | zero => intro a s _ _; rfl
  | succ m ih =>
    intro a s ha al
    obtain ⟨g1, g2, g3⟩ := (show allIn g (nI nt) (2 * m + 1 + 1) a from al)
    obtain ⟨j1, h1, e1⟩ := l_in g1 h10
    obtain ⟨j2, h2, e2⟩ := l_in g2 h10
    rw [seenL, seenL, h a (by omega), h (a + 1) (by omega), e1, e2, nI_clamp (by omega), nI_clamp (by omega)]
    have em : mindsF th j1 j2 = mindsF th' j1 j2 := by
      unfold mindsF
      rw [felt_cg ht h1, felt_cg ht h2, felt_cg ht h1, felt_cg ht h2]
    rw [em]
    exact ih (a + 2) _ (by omega) g3
theorem film_cg {nt np q : Nat} {rb rb' th th' pe pe' : zF1} {d ln : Int32} (h10 : nt ≤ 10) (hr : rbE nt rb rb') (h : thE nt th th') (hp : peE np pe pe') : ∀ (j k : Nat) (s s' : zF1 × Int32) (f F : Nat → Int64), k + j ≤ 16 → trx np d s5 s.1 s'.1 → (∀ i, i < 16 → f i = F (16 * q + i)) → (∀ i, i < 16 → filmL rb th pe np ln j k s f i = filmL rb' th' pe' np ln j (16 * q + k) s' F (16 * q + i)) ∧ (∀ y, (y < 16 * q ∨ 16 * q + 16 ≤ y) → filmL rb' th' pe' np ln j (16 * q + k) s' F y = F y) := by
  intro j
  induction j with
  | zero => intro k s s' f F _ _ e; exact ⟨e, fun y _ => rfl⟩
  | succ j ih =>
    intro k s s' f F hk t e
    have t2 : trx np d s5 (passF rb th pe np 1 s).1 (passF rb' th' pe' np 1 s').1 := by
      rw [passF_fst, passF_fst]
      exact (pass_cg (S := (s.1, 0)) (S' := (s'.1, 0)) (c := 1) h10 hr h hp t rfl).1
    rw [filmL, filmL]
    have := ih (k + 1) (passF rb th pe np 1 s) (passF rb' th' pe' np 1 s') (va_up f k (putF ln ((passF rb th pe np 1 s).1 0).toInt64)) (va_up F (16 * q + k) (putF ln ((passF rb' th' pe' np 1 s').1 0).toInt64)) (by omega) t2 (fun i hi => by
      rw [va_g, va_g, t2.1]
      by_cases z : i = k
      · rw [if_pos z, if_pos (by omega)]
      · rw [if_neg z, if_neg (by omega)]; exact e i hi)
    refine ⟨this.1, fun y hy => ?_⟩
    have h2 := this.2 y hy
    rw [va_up_ne _ _ (by omega)] at h2
    exact h2
theorem mvL_g (f : Nat → Int64) (s : Nat) (g : Nat → Int64) (d : Nat) : ∀ (n j : Nat), mvL f s g d n j = if d ≤ j ∧ j < d + n then f (s + (j - d)) else g j := by
  intro n
  induction n with
  | zero => intro j; rw [if_neg (by omega)]; rfl
  | succ n ih =>
    intro j
    rw [mvL, va_g, ih]
    by_cases z : j = d + n
    · rw [if_pos z, if_pos (by omega), show j - d = n by omega]
    · rw [if_neg z]
      by_cases y : d ≤ j ∧ j < d + n
      · rw [if_pos y, if_pos (by omega)]
      · rw [if_neg y, if_neg (by omega)]
theorem zeL_g (f : Nat → Int64) (b : Nat) : ∀ (n j : Nat), zeL f b n j = if b ≤ j ∧ j < b + n then 0 else f j := by
  intro n
  induction n with
  | zero => intro j; rw [if_neg (by omega)]; rfl
  | succ n ih =>
    intro j
    rw [zeL, va_g, ih]
    by_cases z : j = b + n
    · rw [if_pos z, if_pos (by omega)]
    · rw [if_neg z]
      by_cases y : b ≤ j ∧ j < b + n
      · rw [if_pos y, if_pos (by omega)]
      · rw [if_neg y, if_neg (by omega)]
theorem bit_t : ∀ t, t < 10 → ∀ m, m < 1024 → ((nI m &&& ((1 : Int32) <<< (nI t &&& 31)) = 0) ↔ ¬ (nI m >>> (nI t &&& 31) &&& 1 = 1)) := by decide +kernel
theorem bit_or : ∀ t, t < 10 → ∀ m, m < 1024 → nI m ||| ((1 : Int32) <<< (nI t &&& 31)) = nI (m ||| 2 ^ t) ∧ (m ||| 2 ^ t) < 1024 := by decide +kernel
theorem bit_1 : ∀ t, t < 10 → (1 : Int32) <<< (nI t &&& 31) = nI (2 ^ t) ∧ 2 ^ t < 1024 := by decide +kernel
theorem bit_n {m s : Nat} (hm : m < 1024) (hs : s < 10) : nI m >>> (nI s &&& 31) &&& 1 = 1 ↔ m.testBit s = true := by
  have h1 : m / 2 ^ s ≤ m := Nat.div_le_self _ _
  rw [pk_shrN (by omega) _ s (coin_sh s (by omega)), pk_andN (by omega) 1 (by decide), Nat.testBit_eq_decide_div_mod_eq, decide_eq_true_iff]
  exact nI_eq (b := 1) (by omega) (by decide)
theorem bit_m {t s m : Nat} (ht : t < 10) (hs : s < 10) (hm : m < 1024) (h : ¬ (nI (m ||| 2 ^ t) >>> (nI s &&& 31) &&& 1 = 1)) : ¬ (nI m >>> (nI s &&& 31) &&& 1 = 1) ∧ ¬ s = t := by
  rw [bit_n (bit_or t ht m hm).2 hs, Nat.testBit_or] at h
  rw [bit_n hm hs]
  refine ⟨fun z => h (by rw [z]; rfl), fun z => h ?_⟩
  subst z
  rw [Nat.testBit_two_pow_self, Bool.or_true]
theorem i64_0 {v : Int64} (h : ¬ v < 0) : 0 ≤ v := Int64.not_lt.mp h
theorem deal_cg {nt : Nat} {f g : Nat → Int64} (h10 : nt ≤ 10) (h : ∀ k, k < 16 → f k = g k) : ∀ (j k m : Nat), k + j ≤ 16 → m < 1024 → dealL f (nI nt) j k (nI m) = dlR g (nI nt) j k (nI m) := by
  intro j
  induction j with
  | zero => intro k m _ _; rfl
  | succ j ih =>
    intro k m hk hm
    rw [dealL, dlR, h k (by omega)]
    by_cases z : g k < 0
    · rw [if_pos z]
      have n1 : ¬ ((nI nt).toInt64 ≤ g k ∨ (0 ≤ g k ∧ nI m >>> ((g k).toInt32 &&& 31) &&& 1 = 1)) := fun y => by
        rcases y with y | y
        · have : (0 : Int64) ≤ (nI nt).toInt64 := by rw [nI_l (by omega)]; exact (pk_lLE (a := 0) (by decide) (by omega)).mpr (Nat.zero_le _)
          exact Int64.lt_irrefl (Int64.lt_of_lt_of_le z (Int64.le_trans this y))
        · exact Int64.lt_irrefl (Int64.lt_of_lt_of_le z y.1)
      rw [if_neg n1, if_pos z, Int32.or_zero]
      exact ih (k + 1) m (by omega) hm
    · rw [if_neg z]
      by_cases y : (nI nt).toInt64 ≤ g k
      · rw [if_pos y, if_pos (Or.inl y)]
      · rw [if_neg y]
        obtain ⟨t, ht, e⟩ := l_in ⟨i64_0 z, Int64.not_le.mp y⟩ h10
        rw [e]
        by_cases c : nI m &&& ((1 : Int32) <<< (nI t &&& 31)) = 0
        · have c2 := (bit_t t (by omega) m hm).mp c
          rw [if_pos c, if_neg (fun q => q.elim y (fun q => c2 q.2)), if_neg z]
          obtain ⟨o2, o1⟩ := bit_or t (by omega) m hm
          rw [o2]
          exact ih (k + 1) _ (by omega) o1
        · have c2 := Classical.byContradiction fun q => c ((bit_t t (by omega) m hm).mpr q)
          rw [if_neg c, if_pos (Or.inr ⟨i64_0 z, c2⟩)]
/-- what can be dealt is nobody's twice, and not his -/
theorem deal_uq {nt : Nat} {g : Nat → Int64} (h10 : nt ≤ 10) : ∀ (j k m : Nat), m < 1024 → dlR g (nI nt) j k (nI m) = true → (∀ p, k ≤ p → p < k + j → g p < 0 ∨ ∃ t, t < nt ∧ (g p).toInt32 = nI t ∧ 0 ≤ g p ∧ ¬ (nI m >>> (nI t &&& 31) &&& 1 = 1)) ∧ (∀ p q, k ≤ p → p < q → q < k + j → g p < 0 ∨ g q < 0 ∨ ¬ (g p).toInt32 = (g q).toInt32) := by
  intro j
  induction j with
  | zero => intro k m _ _; exact ⟨fun p a b => by omega, fun p q a b c => by omega⟩
  | succ j ih =>
    intro k m hm h
    rw [dlR] at h
    by_cases c : (nI nt).toInt64 ≤ g k ∨ (0 ≤ g k ∧ nI m >>> ((g k).toInt32 &&& 31) &&& 1 = 1)
    · rw [if_pos c] at h; exact absurd h (by decide)
    rw [if_neg c] at h
    by_cases z : g k < 0
    · rw [if_pos z, Int32.or_zero] at h
      obtain ⟨i1, i2⟩ := ih (k + 1) m hm h
      refine ⟨fun p a b => ?_, fun p q a b e => ?_⟩
      · by_cases y : p = k
        · subst y; exact Or.inl z
        · exact i1 p (by omega) (by omega)
      · by_cases y : p = k
        · subst y; exact Or.inl z
        · exact i2 p q (by omega) b (by omega)
    · rw [if_neg z] at h
      obtain ⟨t, ht, e⟩ := l_in ⟨i64_0 z, Int64.not_le.mp fun y => c (Or.inl y)⟩ h10
      rw [e] at h c
      obtain ⟨o2, o1⟩ := bit_or t (by omega) m hm
      rw [o2] at h
      obtain ⟨i1, i2⟩ := ih (k + 1) _ o1 h
      have mono : ∀ s, s < 10 → ¬ (nI (m ||| 2 ^ t) >>> (nI s &&& 31) &&& 1 = 1) → ¬ (nI m >>> (nI s &&& 31) &&& 1 = 1) ∧ ¬ s = t := fun s hs y => bit_m (by omega) hs hm y
      refine ⟨fun p a b => ?_, fun p q a b e2 => ?_⟩
      · by_cases y : p = k
        · subst y; exact Or.inr ⟨t, ht, e, i64_0 z, fun q => c (Or.inr ⟨i64_0 z, q⟩)⟩
        · rcases i1 p (by omega) (by omega) with r | ⟨s, hs, r1, r2, r3⟩
          · exact Or.inl r
          · exact Or.inr ⟨s, hs, r1, r2, (mono s (by omega) r3).1⟩
      · by_cases y : p = k
        · subst y
          rcases i1 q (by omega) (by omega) with r | ⟨s, hs, r1, r2, r3⟩
          · exact Or.inr (Or.inl r)
          · refine Or.inr (Or.inr fun q2 => (mono s (by omega) r3).2 ?_)
            rw [e, r1] at q2
            exact ((nI_eq (by omega) (by omega)).mp q2).symm
        · exact i2 p q (by omega) b (by omega)
