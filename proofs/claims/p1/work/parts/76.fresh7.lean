/-! two new objects: what the class answers to its first call -/
def kR (M : zM) : Prop := ∀ b, 138 ≤ b → M.1 b = M1.1 b
theorem kR_1 : kR M1 := fun _ _ => rfl
theorem kR_zs {M : zM} {b o : Nat} {v : Int32} (h : kR M) (hb : b < 138) : kR (zs M b o v) := fun c hc => (zs_off M (show c ≠ b by omega)).trans (h c hc)
theorem kR_za {M : zM} {b : Nat} {f : zF1} (h : kR M) (hb : b < 138) : kR (za M b f) := fun c hc => (za_off M (show c ≠ b by omega)).trans (h c hc)
theorem kR_zt {M : zM} {t : Nat} {T : zF1} {rf : Int32} (h : kR M) (hb : t + 1 < 138) : kR (zt M t T rf) := fun c hc => (zt_off (show c ≠ t by omega) (show c ≠ t + 1 by omega)).trans (h c hc)
theorem kR_zrd {M : zM} {r : Nat} {a b c : zF1} (h : kR M) (hb : r + 12 < 138) : kR (zrd M r a b c) := kR_za (kR_za (kR_za h (by omega)) (by omega)) (by omega)
theorem kR_zya {M : zM} {b : Nat} {f : Nat → Int64} (h : kR M) : kR (zya M b f) := h
theorem kR_zfr {M : zM} (h : zfr M1 M) : kR M := fun b hb => h.2 b (by omega)
theorem m7 : zk 0 = 7 := by decide
theorem m_nt : M1.1 (0 + 1 + 1) 0 = nI 0 := by decide +kernel
theorem m_np : M1.1 (0 + 1 + 1) 1 = nI 0 := by decide +kernel
theorem m_nt0 : M1.1 (0 + 1 + 1) 0 = 0 := by decide +kernel
theorem m_np0 : M1.1 (0 + 1 + 1) 1 = 0 := by decide +kernel
theorem m_10 : M1.1 (0 + 1 + 1) 0 ≤ 10 := by decide +kernel
theorem m_8 : M1.1 (0 + 1 + 1) 1 ≤ 8 := by decide +kernel
theorem m_kn : M1.1 (0 + 1) 3 = nI 0 := by decide +kernel
theorem m_his : M1.1 (0 + 1 + 15) 0 = -4 := by decide +kernel
theorem m_pm1 : pmF (M1.1 (0 + 1 + 17)) := ⟨fun k hk => ⟨k, hk, rfl⟩, fun a b ha hb e => (nI_eq (show a < 2 ^ 31 by omega) (show b < 2 ^ 31 by omega)).mp e⟩
theorem m_pm2 : pmF (M1.1 (0 + 35 + 17)) := ⟨fun k hk => ⟨k, hk, rfl⟩, fun a b ha hb e => (nI_eq (show a < 2 ^ 31 by omega) (show b < 2 ^ 31 by omega)).mp e⟩
theorem m_now : nowOK M1 (0 + 1) 0 0 := ⟨m_10, m_np, by decide, by decide +kernel, by decide⟩
theorem m_x {x : Int32} : ¬ (0 ≤ x ∧ x < M1.1 (0 + 1 + 1) 0) := by rw [m_nt0]; grind
theorem m_p {x : Int32} : ¬ (0 ≤ x ∧ x < M1.1 (0 + 1 + 1) 1) := by rw [m_np0]; grind
/-- nobody, nothing: a milestone only goes by -/
theorem pas0 (rb th pe : zF1) {T : zF1} {rf : Int32} (h : T 0 = -4) : passF rb th pe 0 1 (T, rf) = (va_up T 3 (T 3 + 1), rf) := by
  have h1 : ¬ (0 ≤ T 0 ∧ T 0 < rb 0) := by rw [h]; exact fun q => absurd q.1 (by decide)
  have h2 : feelsF rb th 1 T = T := by unfold feelsF; rw [if_neg h1]
  have h3 : peoF rb th pe 1 0 (T, rf) = (T, rf) := rfl
  have h4 : wellF rb th T = T := by unfold wellF; rw [if_neg (fun q => h1 q.2.1)]
  unfold passF
  simp only [h2, h3, h4]
theorem hom0 (rb th pe : zF1) {rf : Int32} : ∀ (k : Nat) {T : zF1}, T 0 = -4 → (homeF rb th pe 0 k (T, rf)).1 0 = -4 := by
  intro k
  induction k with
  | zero => intro T h; exact h
  | succ k ih =>
    intro T h
    unfold homeF
    rw [pas0 rb th pe h]
    exact ih (by rw [va_up_ne _ _ (by decide)]; exact h)
theorem heed_s {W : Nat → Int32} {v : Int32} (hW : ∀ h, W h = 0) : ∀ (n h : Nat), heedL W v n h (0, 0) = (0, 0) := by
  intro n
  induction n with
  | zero => intro h; rfl
  | succ n ih =>
    intro h
    unfold heedL
    rw [hW, if_neg (fun q => q.2.elim (by decide) (by decide))]
    exact ih _
theorem heed_n {W : Nat → Int32} {v : Int32} (hW : ∀ h, W h = 0) (hv : v < 0) {s : Int32 × Int32} : ∀ (n h : Nat), heedL W v n h s = s := by
  intro n
  induction n with
  | zero => intro h; rfl
  | succ n ih =>
    intro h
    unfold heedL
    rw [hW, if_neg (fun q => nle hv q.1)]
    exact ih _
theorem heed_0 {W : Nat → Int32} {v : Int32} (hW : ∀ h, W h = 0) : (heedL W v 100 0 (-4, 0)).1 = if v < 0 then -4 else 0 := by
  by_cases hv : v < 0
  · rw [heed_n hW hv, if_pos hv]
  · rw [if_neg hv, heedL, hW, if_pos ⟨Int32.not_lt.mp hv, Or.inl rfl⟩]
    exact congrArg Prod.fst (heed_s hW 99 1)
theorem f7_thing {l : Launch} {w : zE} (J : zJ w) {a b c d : Int32} : zCi l w yX7_thing cX7_thing 5 (some .int) 2 [.ref (w.2.2 0), .int a, .int b, .int c, .int d] M1 (fun r M2 => kR M2 ∧ r = if thgBad a b c d then -1 else 0) := by
  refine zCi_post (fun v M2 q => ?_) (c_X7_thing J m7 m_nt (by decide))
  rcases q with ⟨h, rfl, rfl⟩ | ⟨h, h2, -⟩ | ⟨h, -, rfl, rfl⟩
  · exact ⟨kR_1, (if_pos h).symm⟩
  · exact absurd h2 (by decide)
  · exact ⟨kR_zs (kR_za (kR_zs kR_1 (by decide)) (by decide)) (by decide), (if_neg h).symm⟩
theorem f7_of {l : Launch} {w : zE} (J : zJ w) {x k : Int32} : zCi l w yX7_of cX7_of 4 (some .int) 1 [.ref (w.2.2 0), .int x, .int k] M1 (fun r M2 => kR M2 ∧ r = -1) := by
  refine zCi_post (fun v M2 q => ?_) (c_X7_of J m7 m_10 m_np (by decide))
  obtain ⟨rfl, rfl⟩ := q
  exact ⟨kR_1, by rw [ofS, if_neg m_x]⟩
theorem f7_felt {l : Launch} {w : zE} (J : zJ w) {x n k : Int32} : zCi l w yX7_felt cX7_felt 4 (some .int) 1 [.ref (w.2.2 0), .int x, .int n, .int k] M1 (fun r M2 => kR M2 ∧ r = -1) := by
  refine zCi_post (fun v M2 q => ?_) (c_X7_felt J m7 m_10)
  obtain ⟨rfl, rfl⟩ := q
  exact ⟨kR_1, by rw [fltS, if_neg (fun q => m_x q.1)]⟩
theorem f7_person {l : Launch} {w : zE} (J : zJ w) {m x g2 : Int32} : zCi l w yX7_person cX7_person 4 (some .int) 2 [.ref (w.2.2 0), .int m, .int x, .int g2] M1 (fun r M2 => kR M2 ∧ r = if perBad 0 m x g2 then -1 else 0) := by
  refine zCi_post (fun v M2 q => ?_) (c_X7_person J m7 m_np (by decide))
  rw [m_nt0] at q
  rcases q with ⟨h, rfl, rfl⟩ | ⟨h, h2, -⟩ | ⟨h, -, h2, -⟩ | ⟨h, -, -, rfl, rfl⟩
  · exact ⟨kR_1, (if_pos h).symm⟩
  · exact absurd (Or.inr (Or.inl ⟨h2.1, fun q => by grind⟩)) h
  · exact absurd h2 (by decide)
  · exact ⟨kR_zs (kR_zs (kR_zs (kR_zs (kR_zs kR_1 (by decide)) (by decide)) (by decide)) (by decide)) (by decide), (if_neg h).symm⟩
theorem f7_told {l : Launch} {w : zE} (J : zJ w) {p k : Int32} : zCi l w yX7_told cX7_told 3 (some .int) 1 [.ref (w.2.2 0), .int p, .int k] M1 (fun r M2 => kR M2 ∧ r = -1) := by
  refine zCi_post (fun v M2 q => ?_) (c_X7_told J m7 m_8)
  obtain ⟨rfl, rfl⟩ := q
  exact ⟨kR_1, by rw [toldS, if_neg m_p]⟩
theorem f7_move {l : Launch} {w : zE} (J : zJ w) {p m : Int32} : zCi l w yX7_move cX7_move 4 (some .int) 1 [.ref (w.2.2 0), .int p, .int m] M1 (fun r M2 => kR M2 ∧ r = -1) := by
  refine zCi_post (fun v M2 q => ?_) (c_X7_move J m7 m_8)
  rcases q with ⟨h, -⟩ | ⟨-, rfl, rfl⟩
  · exact absurd h m_p
  · exact ⟨kR_1, rfl⟩
theorem f7_take {l : Launch} {w : zE} (J : zJ w) {x : Int32} : zCi l w yX7_take cX7_take 3 (some .int) 2 [.ref (w.2.2 0), .int x] M1 (fun r M2 => kR M2 ∧ r = if takBad 0 x then -1 else -4) := by
  refine zCi_post (fun v M2 q => ?_) (c_X7_take J m7 m_np (by decide))
  rw [m_nt0] at q
  rcases q with ⟨h, rfl, rfl⟩ | ⟨h, h2, -⟩ | ⟨h, -, rfl, rfl⟩
  · exact ⟨kR_1, (if_pos h).symm⟩
  · exact absurd ⟨h2.1, fun q => by grind⟩ h
  · exact ⟨kR_zs (kR_zs kR_1 (by decide)) (by decide), by rw [if_neg h, m_his]⟩
def cntE (k : Int32) : Int32 := if k = 0 then 0 else if k = 1 then 0 else if k = 2 then 0 else if k = 3 then -4 else if k = 4 then 0 else if k = 5 then 0 else if k = 6 then 99 else if k = 7 then -4 else if k = 8 then 0 else if k = 9 then 0 else -1
theorem f7_count {l : Launch} {w : zE} (J : zJ w) {k : Int32} : zCi l w yX7_count cX7_count 2 (some .int) 0 [.ref (w.2.2 0), .int k] M1 (fun r M2 => kR M2 ∧ r = cntE k) := by
  refine zCi_post (fun v M2 q => ?_) (c_X7_count J m7)
  obtain ⟨rfl, rfl⟩ := q
  have e2 : M1.1 (0 + 1 + 1) 2 = 99 := by decide +kernel
  have e3 : M1.1 (0 + 1 + 1) 3 = -4 := by decide +kernel
  have t1 : M1.1 (0 + 1 + 15) 1 = 0 := by decide +kernel
  have t2 : M1.1 (0 + 1 + 15) 2 = 0 := by decide +kernel
  have t3 : M1.1 (0 + 1 + 15) 3 = 0 := by decide +kernel
  have t4 : M1.1 (0 + 1 + 15) 4 = 0 := by decide +kernel
  have kn : M1.1 (0 + 1) 3 = 0 := by decide +kernel
  exact ⟨kR_1, by rw [cntS, m_nt0, m_np0, e2, e3, m_his, t1, t2, t3, t4, kn, cntE]⟩
theorem f7_heed {l : Launch} {w : zE} (J : zJ w) {v : Int32} : zCi l w yX7_heed cX7_heed 3 (some .int) 1 [.ref (w.2.2 0), .int v] M1 (fun r M2 => kR M2 ∧ r = if v < 0 ∨ 99 < v then -1 else 99) := by
  refine zCi_post (fun r M2 q => ?_) (c_X7_heed J m7)
  rcases q with ⟨h, rfl, rfl⟩ | ⟨h, rfl, rfl⟩
  · exact ⟨kR_1, (if_pos h).symm⟩
  · exact ⟨kR_zs kR_1 (by decide), by rw [if_neg h]; decide +kernel⟩
theorem f7_well {l : Launch} {w : zE} (J : zJ w) {v : Int32} : zCi l w yX7_well cX7_well 3 (some .int) 1 [.ref (w.2.2 0), .int v] M1 (fun r M2 => kR M2 ∧ r = if ¬ v = -4 ∧ (v < 0 ∨ 11 < v) then -1 else -4) := by
  refine zCi_post (fun r M2 q => ?_) (c_X7_well J m7)
  rcases q with ⟨h, rfl, rfl⟩ | ⟨h, rfl, rfl⟩
  · exact ⟨kR_1, (if_pos h).symm⟩
  · exact ⟨kR_zs kR_1 (by decide), by rw [if_neg h]; decide +kernel⟩
theorem f7_type {l : Launch} {w : zE} (J : zJ w) {c : Int32} : zCi l w yX7_type cX7_type 2 (some .int) 0 [.ref (w.2.2 0), .int c] M1 (fun r M2 => kR M2 ∧ r = if c < 32 ∨ 126 < c then -1 else nI 1) := by
  refine zCi_post (fun r M2 q => ?_) (c_X7_type J (len := 0) m7 (by decide +kernel) (by decide))
  rcases q with ⟨h, rfl, rfl⟩ | ⟨h, h2, -⟩ | ⟨h, -, rfl, rfl⟩
  · exact ⟨kR_1, (if_pos h).symm⟩
  · exact absurd h2 (by decide)
  · exact ⟨kR_zs (kR_zs kR_1 (by decide)) (by decide), (if_neg h).symm⟩
theorem f7_road {l : Launch} {w : zE} (J : zJ w) : zCi l w yX7_road cX7_road 2 (some .int) 7 [.ref (w.2.2 0)] M1 (fun r M2 => kR M2 ∧ r = -20) := by
  refine zCi_post (fun r M2 q => ?_) (c_X7_road J (len := 0) m7 rfl (by decide +kernel) (by decide) (fun q hq => absurd hq (by omega)))
  have e1 : (roadF (M1.1 (0 + 69 + 1)) 0 (M1.1 (0 + 1 + 1 + 1)) (M1.1 (0 + 1 + 1 + 12)) (tT0 (M1.1 (0 + 1 + 15)))).1 = 0 := by decide +kernel
  have e2 : (roadF (M1.1 (0 + 69 + 1)) 0 (M1.1 (0 + 1 + 1 + 1)) (M1.1 (0 + 1 + 1 + 12)) (tT0 (M1.1 (0 + 1 + 15)))).2.1 = 0 := by decide +kernel
  rcases q with ⟨-, h, h2, -⟩ | ⟨h, -⟩
  · exact ⟨fun b hb => h2.2 b (by omega), by rw [h, e2]; decide⟩
  · exact absurd e1 h
theorem f7_go {l : Launch} {w : zE} (J : zJ w) : zCi l w yX7_go cX7_go 1 (some .int) 4 [.ref (w.2.2 0)] M1 (fun r M2 => kR M2 ∧ r = 0) := by
  refine zCi_post (fun r M2 q => ?_) (c_X7_go J m7 m_pm1 m_kn (by decide) m_10 m_np (by decide))
  rcases q with ⟨h, -⟩ | ⟨-, rf, h, rfl⟩
  · exact absurd h (by decide +kernel)
  · refine ⟨kR_zt ?_ (by decide), ?_⟩
    · unfold remF
      rw [if_pos (by decide)]
      exact kR_zs (kR_za kR_1 (by decide +kernel)) (by decide)
    · rw [h, pas0 _ _ _ m_his]
      decide +kernel
theorem f7_undo {l : Launch} {w : zE} (J : zJ w) : zCi l w yX7_undo cX7_undo 1 (some .int) 3 [.ref (w.2.2 0)] M1 (fun r M2 => kR M2 ∧ r = -4) := by
  refine zCi_post (fun r M2 q => ?_) (c_X7_undo J m7 m_pm1 m_kn (by decide))
  rcases q with ⟨-, rfl, rfl⟩ | ⟨j, h, -⟩
  · exact ⟨kR_1, rfl⟩
  · exact absurd h (by omega)
theorem f7_again {l : Launch} {w : zE} (J : zJ w) : zCi l w yX7_again cX7_again 2 (some .int) 0 [.ref (w.2.2 0)] M1 (fun r M2 => kR M2 ∧ r = 0) := by
  refine zCi_post (fun r M2 q => ?_) (c_X7_again J m7)
  obtain ⟨rfl, rfl⟩ := q
  exact ⟨kR_zs kR_1 (by decide), by decide +kernel⟩
theorem f7_glad {l : Launch} {w : zE} (J : zJ w) {x : Int32} : zCi l w yX7_glad cX7_glad 2 (some .int) 2 [.ref (w.2.2 0), .int x] M1 (fun r M2 => kR M2 ∧ r = -1) := by
  refine zCi_post (fun r M2 q => ?_) (c_X7_glad J m7 m_10 (Or.inl m_his))
  obtain ⟨rfl, rfl⟩ := q
  exact ⟨kR_1, by rw [gldS, if_neg m_x]⟩
def homE (k : Int32) : Int32 := if k < 0 ∨ 2 < k then -1 else if k = 0 then -4 else if k = 1 then 0 else -4
theorem f7_home {l : Launch} {w : zE} (J : zJ w) {k : Int32} : zCi l w yX7_home cX7_home 3 (some .int) 6 [.ref (w.2.2 0), .int k] M1 (fun r M2 => kR M2 ∧ r = homE k) := by
  refine zCi_post (fun r M2 q => ?_) (c_X7_home J m7 rfl m_now)
  have e1 : (hmF M1 (0 + 1) 0 0).1 0 = -4 := by decide +kernel
  have e2 : (hmF M1 (0 + 1) 0 0).1 4 - M1.1 (0 + 1 + 15) 4 = 0 := by decide +kernel
  have e3 : (hmF M1 (0 + 1) 0 0).2 = -4 := by decide +kernel
  exact ⟨kR_zfr q.1, by rw [q.2, homS, e1, e2, e3, homE]⟩
theorem f7_lost {l : Launch} {w : zE} (J : zJ w) : zCi l w yX7_lost cX7_lost 1 (some .int) 6 [.ref (w.2.2 0)] M1 (fun r M2 => kR M2 ∧ r = 0) := by
  refine zCi_post (fun r M2 q => ?_) (c_X7_lost J m7 rfl m_now)
  have e : lostS M1 (0 + 1) 0 0 = 0 := by decide +kernel
  exact ⟨kR_zfr q.1, q.2.trans e⟩
theorem f7_lurk {l : Launch} {w : zE} (J : zJ w) {x k : Int32} : zCi l w yX7_lurk cX7_lurk 4 (some .int) 6 [.ref (w.2.2 0), .int x, .int k] M1 (fun r M2 => kR M2 ∧ r = -1) := by
  refine zCi_post (fun r M2 q => ?_) (c_X7_lurk J m7 rfl m_now m_nt (by decide))
  exact ⟨kR_zfr q.1, by rw [q.2, lrkS, if_neg (fun q => m_x q.1)]⟩
theorem f7_stand {l : Launch} {w : zE} (J : zJ w) {x k : Int32} : zCi l w yX7_stand cX7_stand 4 (some .int) 6 [.ref (w.2.2 0), .int x, .int k] M1 (fun r M2 => kR M2 ∧ r = -1) := by
  refine zCi_post (fun r M2 q => ?_) (c_X7_stand J m7 rfl m_now)
  exact ⟨kR_zfr q.1, by rw [q.2, if_neg (fun q => m_p q.1)]⟩
theorem f7_sister {l : Launch} {w : zE} (J : zJ w) {x k : Int32} : zCi l w yX7_sister cX7_sister 3 (some .int) 6 [.ref (w.2.2 0), .int x, .int k] M1 (fun r M2 => kR M2 ∧ r = -1) := by
  refine zCi_post (fun r M2 q => ?_) (c_X7_sister J m7 rfl m_now)
  exact ⟨kR_zfr q.1, by rw [q.2, if_neg (fun q => m_x q.1)]⟩
theorem f7_meet {l : Launch} {w : zE} (J : zJ w) {x k : Int32} : zCi l w yX7_meet cX7_meet 4 (some .int) 4 [.ref (w.2.2 0), .int x, .int k] M1 (fun r M2 => kR M2 ∧ r = -1) := by
  refine zCi_post (fun r M2 q => ?_) (c_X7_meet J m7 rfl m_10 m_np (by decide) (Or.inl m_his))
  obtain ⟨q1, U, R, -, -, -, -, q2⟩ := q
  exact ⟨kR_zfr q1, by rw [q2, if_neg (fun q => m_x q.1)]⟩
theorem f7_first {l : Launch} {w : zE} (J : zJ w) {x : Int32} : zCi l w yX7_first cX7_first 2 (some .int) 6 [.ref (w.2.2 0), .int x] M1 (fun r M2 => kR M2 ∧ r = -1) := by
  refine zCi_post (fun r M2 q => ?_) (c_X7_first J m7 rfl m_now m_nt (by decide))
  exact ⟨kR_zfr q.1, by rw [q.2, if_neg m_x]⟩
theorem f7_cheated {l : Launch} {w : zE} (J : zJ w) {v : Int32} : zCi l w yX7_cheated cX7_cheated 2 (some .int) 6 [.ref (w.2.2 0), .int v] M1 (fun r M2 => kR M2 ∧ r = if v < -99 ∨ 99 < v then -1 else if v < 0 then -4 else 0) := by
  refine zCi_post (fun r M2 q => ?_) (c_X7_cheated J m7 rfl m_now)
  refine ⟨kR_zfr q.1, ?_⟩
  rw [q.2, heed_0 (fun h => ?_)]
  unfold heedW
  rw [m_his, hom0 _ _ _ _ m_his, m_nt0]
  unfold worthO
  rw [if_neg (by decide)]
  decide
theorem f7_chance {l : Launch} {w : zE} (J : zJ w) {x k : Int32} : zCi l w yX7_chance cX7_chance 6 (some .int) 26 [.ref (w.2.2 0), .int x, .int k] M1 (fun r M2 => kR M2 ∧ r = if ¬ x = -4 ∨ (k < 0 ∨ 1 < k) then -1 else -3) := by
  refine zCi_post (fun r M2 q => ?_) (c_X7_chance J m7 rfl m_now)
  refine ⟨kR_zfr q.1, ?_⟩
  rw [q.2]
  by_cases h : ¬ x = -4 ∨ (k < 0 ∨ 1 < k)
  · rw [if_pos h, if_pos (h.imp (fun q => ⟨q, m_x⟩) id)]
  · rw [if_neg h, if_neg (fun q => h (q.imp And.left id)), if_pos (by decide)]
theorem f7_image {l : Launch} {w : zE} (J : zJ w) : zCi l w yX7_image cX7_image 1 (some .int) 3 [.ref (w.2.2 0)] M1 (fun r M2 => kR M2 ∧ r = 1) := by
  refine zCi_post (fun r M2 q => ?_) (c_X7_image J m7 rfl m_pm1 m_pm2 m_kn (by decide))
  obtain ⟨rfl, rfl⟩ := q
  exact ⟨kR_zs (kR_zs (kR_za (kR_zrd kR_1 (by decide)) (by decide)) (by decide)) (by decide), rfl⟩
theorem f7_restore {l : Launch} {w : zE} (J : zJ w) : zCi l w yX7_restore cX7_restore 1 (some .int) 3 [.ref (w.2.2 0)] M1 (fun r M2 => kR M2 ∧ r = -4) := by
  have e : M1.1 0 2 = 0 := by decide +kernel
  refine zCi_post (fun r M2 q => ?_) (c_X7_restore J (k := 0) m7 rfl m_pm1 m_pm2 (fun h => absurd e h) (by decide))
  rcases q with ⟨-, rfl, rfl⟩ | ⟨h, -⟩
  · exact ⟨kR_1, rfl⟩
  · exact absurd e h
theorem m_row {x ln i n : Int32} : rowS M1 0 x ln i n = if (x < 0 ∨ 3 < x) ∨ (ln < 0 ∨ 3 < ln) then -1 else -11 := by
  unfold rowS
  by_cases h : (x < 0 ∨ 3 < x) ∨ (ln < 0 ∨ 3 < ln)
  · rw [if_pos h, if_pos h]
  · rw [if_neg h, if_neg h]
    obtain ⟨j, hj, rfl⟩ := s4_in (fun q => h (Or.inl q))
    unfold rowF
    rw [nI_clamp (by omega), if_pos ((by decide +kernel : ∀ j, j < 4 → M1.1 (0 + 129 + 1 + 2 * j) 0 = 0) j hj)]
theorem m_rowN {x ln i n : Int32} : rowS M1 0 x ln i n < 0 := by
  rw [m_row]
  split <;> decide
theorem c_X7_itemF {l : Launch} {w : zE} (J : zJ w) {M : zM} {o : Nat} {x ln i : Int32} {v : Int64} (hk : zk o = 7) (h : rowS M o x ln i 1 < 0) : zCi l w yX7_item cX7_item 7 (some .int) 3 [.ref (w.2.2 o), .int x, .int ln, .int i, .long v] M (fun r M2 => M2 = M ∧ r = rowS M o x ln i 1) := by
  refine zCi_of J zm_X7_item [some (.ref (w.2.2 o)), some (.int x), some (.int ln), some (.int i), some (.long v), none, none] (Nat.le_of_ble_eq_true rfl) rfl (fun g hg F X => ?_)
  subst hg
  refine z_aload_n F dX7_item_0 rfl ?_
  refine z_iload_n F dX7_item_1 rfl ?_
  refine z_iload_n F dX7_item_2 rfl ?_
  refine z_iload_n F dX7_item_3 rfl ?_
  refine z_iconst (v := 1) F dX7_item_4 (by decide) ?_
  refine z_callVi F (c_X7_rowFault J hk) zm_X7_rowFault zv_X7_rowFault ml_X7_229 (by with_reducible assumption) (by decide) rfl rfl rfl (Nat.le_of_ble_eq_true rfl) dX7_item_5 (by omega) (fun r_5 M_5 h_5 => ?_)
  obtain ⟨e_5, rfl⟩ := h_5
  replace e_5 := Eq.symm e_5
  subst e_5
  refine z_istore (lv' := [_, _, _, _, _, _, _]) F dX7_item_8 (by decide) rfl rfl ?_
  refine z_iload F dX7_item_10 rfl ?_
  refine z_if_ge (tgt := 18) F dX7_item_12 (by decide) (fun h_12 => absurd h_12 (nle h)) (fun h_12 => ?_)
  refine z_iload F dX7_item_15 rfl ?_
  refine z_iret F X dX7_item_17 ?_
  exact ⟨rfl, rfl⟩
theorem c_X7_filmF {l : Launch} {w : zE} (J : zJ w) {M : zM} {o : Nat} {x ln i : Int32} (hk : zk o = 7) (h : ∀ n, rowS M o x ln i n < 0) : zCi l w yX7_film cX7_film 7 (some .int) 5 [.ref (w.2.2 o), .int x, .int ln, .int i] M (fun r M2 => M2 = M ∧ ∃ n, r = rowS M o x ln i n) := by
  refine zCi_of J zm_X7_film [some (.ref (w.2.2 o)), some (.int x), some (.int ln), some (.int i), none, none, none] (Nat.le_of_ble_eq_true rfl) rfl (fun g hg F X => ?_)
  subst hg
  refine z_bipush (v := 12) F dX7_film_0 (by decide) ?_
  refine z_aload_n F dX7_film_2 rfl ?_
  refine zg_X7_now F (by with_reducible assumption) fl_X7_10 dX7_film_3 (fun hk_3 => ?_)
  refine zg_X6_trip F (by with_reducible assumption) fl_X7_83 dX7_film_6 (fun hk_6 => ?_)
  refine zg_X5_ahead F (by with_reducible assumption) fl_X7_130 dX7_film_9 ?_
  refine z_isub F dX7_film_12 ?_
  refine z_istore (lv' := [_, _, _, _, _, _, _]) F dX7_film_13 (by decide) rfl rfl ?_
  refine z_aload_n F dX7_film_15 rfl ?_
  refine z_iload_n F dX7_film_16 rfl ?_
  refine z_iload_n F dX7_film_17 rfl ?_
  refine z_iload_n F dX7_film_18 rfl ?_
  refine z_iload F dX7_film_19 rfl ?_
  refine z_callVi F (c_X7_rowFault J hk) zm_X7_rowFault zv_X7_rowFault ml_X7_229 (by with_reducible assumption) (by decide) rfl rfl rfl (Nat.le_of_ble_eq_true rfl) dX7_film_21 (by omega) (fun r_21 M_21 h_21 => ?_)
  obtain ⟨e_21, rfl⟩ := h_21
  replace e_21 := Eq.symm e_21
  subst e_21
  refine z_istore (lv' := [_, _, _, _, _, _, _]) F dX7_film_24 (by decide) rfl rfl ?_
  refine z_iload F dX7_film_26 rfl ?_
  refine z_if_ge (tgt := 34) F dX7_film_28 (by decide) (fun h_28 => absurd h_28 (nle (h _))) (fun h_28 => ?_)
  refine z_iload F dX7_film_31 rfl ?_
  refine z_iret F X dX7_film_33 ?_
  exact ⟨rfl, _, rfl⟩
theorem c_X7_dealF {l : Launch} {w : zE} (J : zJ w) {M : zM} {o : Nat} {x ln i : Int32} (hk : zk o = 7) (h : ∀ n, rowS M o x ln i n < 0) : zCi l w yX7_deal cX7_deal 10 (some .int) 3 [.ref (w.2.2 o), .int x, .int ln, .int i] M (fun r M2 => M2 = M ∧ ∃ n, r = rowS M o x ln i n) := by
  refine zCi_of J zm_X7_deal [some (.ref (w.2.2 o)), some (.int x), some (.int ln), some (.int i), none, none, none, none, none, none] (Nat.le_of_ble_eq_true rfl) rfl (fun g hg F X => ?_)
  subst hg
  refine z_aload_n F dX7_deal_0 rfl ?_
  refine zg_X7_now F (by with_reducible assumption) fl_X7_10 dX7_deal_1 (fun hk_1 => ?_)
  refine zg_X6_road F (by with_reducible assumption) fl_X7_44 dX7_deal_4 (fun hk_4 => ?_)
  refine zg_X1_personCount F (by with_reducible assumption) fl_X7_101 dX7_deal_7 ?_
  refine z_istore (lv' := [_, _, _, _, _, _, _, _, _, _]) F dX7_deal_10 (by decide) rfl rfl ?_
  refine z_aload_n F dX7_deal_12 rfl ?_
  refine z_iload_n F dX7_deal_13 rfl ?_
  refine z_iload_n F dX7_deal_14 rfl ?_
  refine z_iload_n F dX7_deal_15 rfl ?_
  refine z_iload F dX7_deal_16 rfl ?_
  refine z_callVi F (c_X7_rowFault J hk) zm_X7_rowFault zv_X7_rowFault ml_X7_229 (by with_reducible assumption) (by decide) rfl rfl rfl (Nat.le_of_ble_eq_true rfl) dX7_deal_18 (by omega) (fun r_18 M_18 h_18 => ?_)
  obtain ⟨e_18, rfl⟩ := h_18
  replace e_18 := Eq.symm e_18
  subst e_18
  refine z_istore (lv' := [_, _, _, _, _, _, _, _, _, _]) F dX7_deal_21 (by decide) rfl rfl ?_
  refine z_iload F dX7_deal_23 rfl ?_
  refine z_if_ge (tgt := 31) F dX7_deal_25 (by decide) (fun h_25 => absurd h_25 (nle (h _))) (fun h_25 => ?_)
  refine z_iload F dX7_deal_28 rfl ?_
  refine z_iret F X dX7_deal_30 ?_
  exact ⟨rfl, _, rfl⟩
theorem c_X7_seenF {l : Launch} {w : zE} (J : zJ w) {M : zM} {o : Nat} {x ln i n : Int32} (hk : zk o = 7) (h : ∀ n, rowS M o x ln i n < 0) : zCi l w yX7_seen cX7_seen 9 (some .int) 3 [.ref (w.2.2 o), .int x, .int ln, .int i, .int n] M (fun r M2 => M2 = M ∧ ((n < 1 ∨ 8 < n) ∧ r = -1 ∨ ¬ (n < 1 ∨ 8 < n) ∧ ∃ m, r = rowS M o x ln i m)) := by
  refine zCi_of J zm_X7_seen [some (.ref (w.2.2 o)), some (.int x), some (.int ln), some (.int i), some (.int n), none, none, none, none] (Nat.le_of_ble_eq_true rfl) rfl (fun g hg F X => ?_)
  subst hg
  refine z_iload F dX7_seen_0 rfl ?_
  refine z_iconst (v := 1) F dX7_seen_2 (by decide) ?_
  refine z_ic_lt (tgt := 13) F dX7_seen_3 (by decide) (fun h_3 => ?_) (fun h_3 => ?_)
  · refine z_iconst (v := (-1)) F dX7_seen_13 (by decide) ?_
    refine z_iret F X dX7_seen_14 ?_
    exact ⟨rfl, Or.inl ⟨Or.inl h_3, rfl⟩⟩
  · refine z_iload F dX7_seen_6 rfl ?_
    refine z_bipush (v := 8) F dX7_seen_8 (by decide) ?_
    refine z_ic_le (tgt := 15) F dX7_seen_10 (by decide) (fun h_10 => ?_) (fun h_10 => ?_)
    · refine z_aload_n F dX7_seen_15 rfl ?_
      refine z_iload_n F dX7_seen_16 rfl ?_
      refine z_iload_n F dX7_seen_17 rfl ?_
      refine z_iload_n F dX7_seen_18 rfl ?_
      refine z_iconst (v := 2) F dX7_seen_19 (by decide) ?_
      refine z_iload F dX7_seen_20 rfl ?_
      refine z_imul F dX7_seen_22 ?_
      refine z_callVi F (c_X7_rowFault J hk) zm_X7_rowFault zv_X7_rowFault ml_X7_229 (by with_reducible assumption) (by decide) rfl rfl rfl (Nat.le_of_ble_eq_true rfl) dX7_seen_23 (by omega) (fun r_23 M_23 h_23 => ?_)
      obtain ⟨e_23, rfl⟩ := h_23
      replace e_23 := Eq.symm e_23
      subst e_23
      refine z_istore (lv' := [_, _, _, _, _, _, _, _, _]) F dX7_seen_26 (by decide) rfl rfl ?_
      refine z_iload F dX7_seen_28 rfl ?_
      refine z_if_ge (tgt := 36) F dX7_seen_30 (by decide) (fun h_30 => absurd h_30 (nle (h _))) (fun h_30 => ?_)
      refine z_iload F dX7_seen_33 rfl ?_
      refine z_iret F X dX7_seen_35 ?_
      exact ⟨rfl, Or.inr ⟨fun q => q.elim (nlt h_3) (nlt h_10), _, rfl⟩⟩
    · refine z_iconst (v := (-1)) F dX7_seen_13 (by decide) ?_
      refine z_iret F X dX7_seen_14 ?_
      exact ⟨rfl, Or.inl ⟨Or.inr h_10, rfl⟩⟩
theorem c_X7_copyF {l : Launch} {w : zE} (J : zJ w) {M : zM} {o : Nat} {x i y j n : Int32} (hk : zk o = 7) (h : ∀ q, q < 4 → M.1 (o + 129 + 1 + 2 * q) 0 = 0) : zCi l w yX7_copy cX7_copy 8 (some .int) 3 [.ref (w.2.2 o), .int x, .int i, .int y, .int j, .int n] M (fun r M2 => M2 = M ∧ r = if (x < 0 ∨ 3 < x) ∨ (y < 0 ∨ 3 < y) then -1 else -11) := by
  have hh : ∀ x : Int32, ¬ (x < 0 ∨ 3 < x) → M.1 (o + 129 + 1 + 2 * x.toNatClampNeg) 0 = 0 := fun x hx => by
    obtain ⟨j, hj, rfl⟩ := s4_in hx
    rw [nI_clamp (by omega)]
    exact h j hj
  refine zCi_of J zm_X7_copy [some (.ref (w.2.2 o)), some (.int x), some (.int i), some (.int y), some (.int j), some (.int n), none, none] (Nat.le_of_ble_eq_true rfl) rfl (fun g hg F X => ?_)
  subst hg
  refine z_iload_n F dX7_copy_0 rfl ?_
  refine z_iconst (v := 3) F dX7_copy_1 (by decide) ?_
  refine z_callSi F (c_X7_isNot J) zm_X7_isNot zst_X7_isNot ml_X7_40 rfl rfl (Nat.le_of_ble_eq_true rfl) dX7_copy_2 (by omega) (fun r_2 M_2 h_2 => ?_)
  obtain ⟨e_2, rfl⟩ := h_2
  replace e_2 := Eq.symm e_2
  subst e_2
  refine z_if_ne (tgt := 16) F dX7_copy_5 (by decide) (fun h_5 => ?_) (fun h_5 => ?_)
  · replace h_5 := bI_1.mp h_5
    refine z_iconst (v := (-1)) F dX7_copy_16 (by decide) ?_
    refine z_iret F X dX7_copy_17 ?_
    exact ⟨rfl, (if_pos (Or.inl h_5)).symm⟩
  · replace h_5 := bI_0.mp h_5
    refine z_iload_n F dX7_copy_8 rfl ?_
    refine z_iconst (v := 3) F dX7_copy_9 (by decide) ?_
    refine z_callSi F (c_X7_isNot J) zm_X7_isNot zst_X7_isNot ml_X7_40 rfl rfl (Nat.le_of_ble_eq_true rfl) dX7_copy_10 (by omega) (fun r_10 M_10 h_10 => ?_)
    obtain ⟨e_10, rfl⟩ := h_10
    replace e_10 := Eq.symm e_10
    subst e_10
    refine z_if_eq (tgt := 18) F dX7_copy_13 (by decide) (fun h_13 => ?_) (fun h_13 => ?_)
    · replace h_13 := bI_0.mp h_13
      refine z_aload_n F dX7_copy_18 rfl ?_
      refine zg_X7_sheets F (by with_reducible assumption) fl_X7_35 dX7_copy_19 (fun hk_19 => ?_)
      refine z_iload_n F dX7_copy_22 rfl ?_
      refine z_aald15 F (by with_reducible assumption) (in4 h_5) dX7_copy_23 (fun hk_23 => ?_)
      refine z_astore (lv' := [_, _, _, _, _, _, _, _]) F dX7_copy_24 (by decide) rfl rfl ?_
      refine z_aload_n F dX7_copy_26 rfl ?_
      refine zg_X7_sheets F (by with_reducible assumption) fl_X7_35 dX7_copy_27 (fun hk_27 => ?_)
      refine z_iload_n F dX7_copy_30 rfl ?_
      refine z_aald15 F (by with_reducible assumption) (in4 h_13) dX7_copy_31 (fun hk_31 => ?_)
      refine z_astore (lv' := [_, _, _, _, _, _, _, _]) F dX7_copy_32 (by decide) rfl rfl ?_
      refine z_aload F dX7_copy_34 rfl ?_
      refine zg_X2_isThere F (by with_reducible assumption) fl_X7_255 dX7_copy_36 ?_
      refine z_if_eq (tgt := 50) F dX7_copy_39 (by decide) (fun h_39 => ?_) (fun h_39 => absurd h_39 (fun q => q (hh x h_5)))
      refine z_bipush (v := (-11)) F dX7_copy_50 (by decide) ?_
      refine z_iret F X dX7_copy_52 ?_
      exact ⟨rfl, (if_neg (fun q => q.elim h_5 h_13)).symm⟩
    · replace h_13 := bI_1.mp h_13
      refine z_iconst (v := (-1)) F dX7_copy_16 (by decide) ?_
      refine z_iret F X dX7_copy_17 ?_
      exact ⟨rfl, (if_pos (Or.inr h_13)).symm⟩
theorem f7_item {l : Launch} {w : zE} (J : zJ w) {x ln i : Int32} {v : Int64} : zCi l w yX7_item cX7_item 7 (some .int) 3 [.ref (w.2.2 0), .int x, .int ln, .int i, .long v] M1 (fun r M2 => kR M2 ∧ r = if (x < 0 ∨ 3 < x) ∨ (ln < 0 ∨ 3 < ln) then -1 else -11) := by
  refine zCi_post (fun r M2 q => ?_) (c_X7_itemF J m7 m_rowN)
  obtain ⟨rfl, rfl⟩ := q
  exact ⟨kR_1, m_row⟩
theorem f7_film {l : Launch} {w : zE} (J : zJ w) {x ln i : Int32} : zCi l w yX7_film cX7_film 7 (some .int) 5 [.ref (w.2.2 0), .int x, .int ln, .int i] M1 (fun r M2 => kR M2 ∧ r = if (x < 0 ∨ 3 < x) ∨ (ln < 0 ∨ 3 < ln) then -1 else -11) := by
  refine zCi_post (fun r M2 q => ?_) (c_X7_filmF J m7 (fun _ => m_rowN))
  obtain ⟨rfl, n, rfl⟩ := q
  exact ⟨kR_1, m_row⟩
theorem f7_deal {l : Launch} {w : zE} (J : zJ w) {x ln i : Int32} : zCi l w yX7_deal cX7_deal 10 (some .int) 3 [.ref (w.2.2 0), .int x, .int ln, .int i] M1 (fun r M2 => kR M2 ∧ r = if (x < 0 ∨ 3 < x) ∨ (ln < 0 ∨ 3 < ln) then -1 else -11) := by
  refine zCi_post (fun r M2 q => ?_) (c_X7_dealF J m7 (fun _ => m_rowN))
  obtain ⟨rfl, n, rfl⟩ := q
  exact ⟨kR_1, m_row⟩
theorem f7_seen {l : Launch} {w : zE} (J : zJ w) {x ln i n : Int32} : zCi l w yX7_seen cX7_seen 9 (some .int) 3 [.ref (w.2.2 0), .int x, .int ln, .int i, .int n] M1 (fun r M2 => kR M2 ∧ r = if ((x < 0 ∨ 3 < x) ∨ (ln < 0 ∨ 3 < ln)) ∨ (n < 1 ∨ 8 < n) then -1 else -11) := by
  refine zCi_post (fun r M2 q => ?_) (c_X7_seenF J m7 (fun _ => m_rowN))
  obtain ⟨rfl, ⟨h, rfl⟩ | ⟨h, m, rfl⟩⟩ := q
  · exact ⟨kR_1, (if_pos (Or.inr h)).symm⟩
  · refine ⟨kR_1, ?_⟩
    rw [m_row]
    by_cases z : (x < 0 ∨ 3 < x) ∨ (ln < 0 ∨ 3 < ln)
    · rw [if_pos z, if_pos (Or.inl z)]
    · rw [if_neg z, if_neg (fun q => q.elim z h)]
theorem f7_copy {l : Launch} {w : zE} (J : zJ w) {x i y j n : Int32} : zCi l w yX7_copy cX7_copy 8 (some .int) 3 [.ref (w.2.2 0), .int x, .int i, .int y, .int j, .int n] M1 (fun r M2 => kR M2 ∧ r = if (x < 0 ∨ 3 < x) ∨ (y < 0 ∨ 3 < y) then -1 else -11) := by
  refine zCi_post (fun r M2 q => ?_) (c_X7_copyF J m7 (by decide +kernel))
  obtain ⟨rfl, rfl⟩ := q
  exact ⟨kR_1, rfl⟩
theorem f7_sheet {l : Launch} {w : zE} (J : zJ w) {x ln n : Int32} : zCi l w yX7_sheet cX7_sheet 4 (some .int) 3 [.ref (w.2.2 0), .int x, .int ln, .int n] M1 (fun r M2 => kR M2 ∧ r = if (x < 0 ∨ 3 < x) ∨ (ln < 0 ∨ 3 < ln) ∨ 16 < n then -1 else if n < 0 then -14 else n) := by
  refine zCi_post (fun r M2 q => ?_) (c_X7_sheet J m7)
  rcases q with ⟨h, rfl, rfl⟩ | ⟨h, ⟨h2, rfl, rfl⟩ | ⟨h2, rfl, rfl⟩⟩
  · exact ⟨kR_1, (if_pos h).symm⟩
  · exact ⟨kR_1, by rw [if_neg h, if_pos h2]⟩
  · obtain ⟨j, hj, rfl⟩ := s4_in (fun q => h (Or.inl q))
    have e : 0 + 129 + 1 + 2 * (nI j).toNatClampNeg < 138 := by rw [nI_clamp (by omega)]; omega
    exact ⟨kR_zya (kR_zs (kR_zs (kR_zs kR_1 e) e) e), by rw [if_neg h, if_neg h2]⟩
theorem f7_drop {l : Launch} {w : zE} (J : zJ w) {x : Int32} : zCi l w yX7_drop cX7_drop 2 (some .int) 1 [.ref (w.2.2 0), .int x] M1 (fun r M2 => kR M2 ∧ r = if x < 0 ∨ 3 < x then -1 else -11) := by
  refine zCi_post (fun r M2 q => ?_) (c_X7_drop J m7)
  rcases q with ⟨h, rfl, rfl⟩ | ⟨h, ⟨h2, rfl, rfl⟩ | ⟨h2, -⟩⟩
  · exact ⟨kR_1, (if_pos h).symm⟩
  · exact ⟨kR_1, (if_neg h).symm⟩
  · obtain ⟨j, hj, rfl⟩ := s4_in h
    rw [nI_clamp (by omega)] at h2
    exact absurd ((by decide +kernel : ∀ j, j < 4 → M1.1 (0 + 129 + 1 + 2 * j) 0 = 0) j hj) h2
