/-! two new objects: what the reference answers to its first call -/
theorem r8 : zk 138 = 8 := by decide
theorem kR_nt {M : zM} (h : kR M) : M.1 138 0 = nI 0 := by rw [h 138 (by decide)]; decide +kernel
theorem kR_nt0 {M : zM} (h : kR M) : M.1 138 0 = 0 := by rw [h 138 (by decide)]; decide +kernel
theorem kR_np {M : zM} (h : kR M) : M.1 138 1 = nI 0 := by rw [h 138 (by decide)]; decide +kernel
theorem kR_np0 {M : zM} (h : kR M) : M.1 138 1 = 0 := by rw [h 138 (by decide)]; decide +kernel
theorem kR_his {M : zM} (h : kR M) : M.1 (138 + 3) 0 = -4 := by rw [h (138 + 3) (by decide)]; decide +kernel
theorem kR_x {M : zM} {x : Int32} (h : kR M) : ¬ (0 ≤ x ∧ x < M.1 138 0) := by rw [kR_nt0 h]; grind
theorem kR_p {M : zM} {x : Int32} (h : kR M) : ¬ (0 ≤ x ∧ x < M.1 138 1) := by rw [kR_np0 h]; grind
theorem kR_kd {M : zM} (h : kR M) : kdOK (M.1 (138 + 1)) := fun j _ => Or.inl (by rw [h (138 + 1) (by decide)]; rfl)
theorem kR_ok {M : zM} (h : kR M) : rOK M 138 0 0 0 := by
  refine ⟨kR_nt h, by decide, kR_np h, by decide, kR_kd h, ⟨Or.inl (kR_his h), fun p hp => Or.inl ?_, Or.inl ?_⟩, ?_, by decide, ?_⟩
  · rw [h (138 + 3) (by decide)]
    exact (by decide +kernel : ∀ p, p < 9 → M1.1 (138 + 3) (5 + p) = -4) p hp
  · rw [h (138 + 3) (by decide)]; decide +kernel
  · rw [h (138 + 3) (by decide)]; decide +kernel
  · rw [h 138 (by decide)]; decide +kernel
theorem cht_s {W : Nat → Int32} {v : Int32} (hW : ∀ h, W h = 0) : ∀ (n h : Nat), chtL W v n h (0, 0) = (0, 0) := by
  intro n
  induction n with
  | zero => intro h; rfl
  | succ n ih =>
    intro h
    unfold chtL
    rw [hW, if_neg (fun q => absurd q.2 (by decide))]
    exact ih _
theorem cht_n {W : Nat → Int32} {v : Int32} (hW : ∀ h, W h = 0) (hv : v < 0) {s : Int32 × Int32} : ∀ (n h : Nat), chtL W v n h s = s := by
  intro n
  induction n with
  | zero => intro h; rfl
  | succ n ih =>
    intro h
    unfold chtL
    rw [hW, if_neg (fun q => nle hv q.1)]
    exact ih _
theorem cht_0 {W : Nat → Int32} {v : Int32} (hW : ∀ h, W h = 0) : (chtL W v 100 0 (-4, -1000)).1 = if v < 0 then -4 else 0 := by
  by_cases hv : v < 0
  · rw [cht_n hW hv, if_pos hv]
  · rw [if_neg hv, chtL, hW, if_pos ⟨Int32.not_lt.mp hv, by decide⟩]
    exact congrArg Prod.fst (cht_s hW 99 1)
theorem f8_thing {l : Launch} {w : zE} (J : zJ w) {M : zM} {a b c d : Int32} (k : kR M) : zCi l w yX8_thing cX8_thing 5 (some .int) 1 [.ref (w.2.2 138), .int a, .int b, .int c, .int d] M (fun r _ => r = if thgBad a b c d then -1 else 0) := by
  refine zCi_post (fun v M2 q => ?_) (c_X8_thing J r8 rfl (kR_nt k) (by decide))
  rcases q with ⟨h, rfl, rfl⟩ | ⟨h, h2, -⟩ | ⟨h, -, rfl, -⟩
  · exact (if_pos h).symm
  · exact absurd h2 (by decide)
  · exact (if_neg h).symm
theorem f8_of {l : Launch} {w : zE} (J : zJ w) {M : zM} {x k : Int32} (h : kR M) : zCi l w yX8_of cX8_of 3 (some .int) 2 [.ref (w.2.2 138), .int x, .int k] M (fun r _ => r = -1) := by
  refine zCi_post (fun v M2 q => ?_) (c_X8_of J r8 rfl (kR_nt h) (by decide) (kR_np h) (by decide))
  rw [q.2, ofR, if_neg (kR_x h)]
theorem f8_felt {l : Launch} {w : zE} (J : zJ w) {M : zM} {x n k : Int32} (h : kR M) : zCi l w yX8_felt cX8_felt 4 (some .int) 2 [.ref (w.2.2 138), .int x, .int n, .int k] M (fun r _ => r = -1) := by
  refine zCi_post (fun v M2 q => ?_) (c_X8_felt J r8 rfl (kR_nt h) (by decide) (kR_kd h))
  rw [q.2, fltS, if_neg (fun q => kR_x h q.1)]
theorem f8_person {l : Launch} {w : zE} (J : zJ w) {M : zM} {m x g2 : Int32} (k : kR M) : zCi l w yX8_person cX8_person 4 (some .int) 2 [.ref (w.2.2 138), .int m, .int x, .int g2] M (fun r _ => r = if perBad 0 m x g2 then -1 else 0) := by
  refine zCi_post (fun v M2 q => ?_) (c_X8_person J r8 rfl (kR_nt k) (by decide) (kR_np k) (by decide))
  rw [kR_nt0 k] at q
  rcases q with ⟨h, rfl, -⟩ | ⟨h, h2, -⟩ | ⟨h, -, h2, -⟩ | ⟨h, -, -, rfl, -⟩
  · exact (if_pos h).symm
  · exact absurd (Or.inr (Or.inl ⟨h2.1, fun q => by grind⟩)) h
  · exact absurd h2 (by decide)
  · exact (if_neg h).symm
theorem f8_told {l : Launch} {w : zE} (J : zJ w) {M : zM} {p k : Int32} (h : kR M) : zCi l w yX8_told cX8_told 3 (some .int) 2 [.ref (w.2.2 138), .int p, .int k] M (fun r _ => r = -1) := by
  refine zCi_post (fun v M2 q => ?_) (c_X8_told J r8 rfl (kR_np h) (by decide))
  rw [q.2, toldS, if_neg (kR_p h)]
theorem f8_move {l : Launch} {w : zE} (J : zJ w) {M : zM} {p m : Int32} (k : kR M) : zCi l w yX8_move cX8_move 4 (some .int) 2 [.ref (w.2.2 138), .int p, .int m] M (fun r _ => r = -1) := by
  refine zCi_post (fun v M2 q => ?_) (c_X8_move J r8 rfl (kR_np k) (by decide))
  rcases q with ⟨h, -⟩ | ⟨-, rfl, -⟩
  · exact absurd h (kR_p k)
  · rfl
theorem f8_take {l : Launch} {w : zE} (J : zJ w) {M : zM} {x : Int32} (k : kR M) : zCi l w yX8_take cX8_take 3 (some .int) 2 [.ref (w.2.2 138), .int x] M (fun r _ => r = if takBad 0 x then -1 else -4) := by
  refine zCi_post (fun v M2 q => ?_) (c_X8_take J r8 rfl (kR_nt k) (by decide) (kR_np k) (by decide))
  rw [kR_nt0 k] at q
  rcases q with ⟨h, rfl, -⟩ | ⟨h, h2, -⟩ | ⟨h, -, rfl, -⟩
  · exact (if_pos h).symm
  · exact absurd ⟨h2.1, fun q => by grind⟩ h
  · rw [if_neg h, kR_his k]
theorem f8_count {l : Launch} {w : zE} (J : zJ w) {M : zM} {k : Int32} (h : kR M) : zCi l w yX8_count cX8_count 2 (some .int) 0 [.ref (w.2.2 138), .int k] M (fun r _ => r = cntE k) := by
  refine zCi_post (fun v M2 q => ?_) (c_X8_count J r8 rfl)
  have e0 : rbM (M1.1 138) 0 = 0 := by decide +kernel
  have e1 : rbM (M1.1 138) 1 = 0 := by decide +kernel
  have e2 : rbM (M1.1 138) 2 = 99 := by decide +kernel
  have e3 : rbM (M1.1 138) 3 = -4 := by decide +kernel
  have t0 : M1.1 (138 + 3) 0 = -4 := by decide +kernel
  have t1 : M1.1 (138 + 3) 1 = 0 := by decide +kernel
  have t2 : M1.1 (138 + 3) 2 = 0 := by decide +kernel
  have t3 : M1.1 (138 + 3) 3 = 0 := by decide +kernel
  have t4 : M1.1 (138 + 3) 4 = 0 := by decide +kernel
  have kn : M1.1 138 20 = 0 := by decide +kernel
  rw [q.2, h 138 (by decide), h (138 + 3) (by decide), cntS, e0, e1, e2, e3, t0, t1, t2, t3, t4, kn, cntE]
theorem f8_heed {l : Launch} {w : zE} (J : zJ w) {M : zM} {v : Int32} (k : kR M) : zCi l w yX8_heed cX8_heed 3 (some .int) 1 [.ref (w.2.2 138), .int v] M (fun r _ => r = if v < 0 ∨ 99 < v then -1 else 99) := by
  refine zCi_post (fun r M2 q => ?_) (c_X8_heed J r8)
  rcases q with ⟨h, rfl, -⟩ | ⟨h, rfl, -⟩
  · exact (if_pos h).symm
  · rw [if_neg h, k 138 (by decide)]; decide +kernel
theorem f8_well {l : Launch} {w : zE} (J : zJ w) {M : zM} {v : Int32} (k : kR M) : zCi l w yX8_well cX8_well 3 (some .int) 1 [.ref (w.2.2 138), .int v] M (fun r _ => r = if ¬ v = -4 ∧ (v < 0 ∨ 11 < v) then -1 else -4) := by
  refine zCi_post (fun r M2 q => ?_) (c_X8_well J r8)
  rcases q with ⟨h, rfl, -⟩ | ⟨h, rfl, -⟩
  · exact (if_pos h).symm
  · rw [if_neg h, k 138 (by decide)]; decide +kernel
theorem f8_type {l : Launch} {w : zE} (J : zJ w) {M : zM} {c : Int32} (k : kR M) : zCi l w yX8_type cX8_type 2 (some .int) 1 [.ref (w.2.2 138), .int c] M (fun r _ => r = if c < 32 ∨ 126 < c then -1 else nI 1) := by
  refine zCi_post (fun r M2 q => ?_) (c_X8_type J (len := 0) r8 rfl (by rw [k 138 (by decide)]; decide +kernel) (by decide))
  rcases q with ⟨h, rfl, -⟩ | ⟨h, h2, -⟩ | ⟨h, -, rfl, -⟩
  · exact (if_pos h).symm
  · exact absurd h2 (by decide)
  · exact (if_neg h).symm
theorem f8_road {l : Launch} {w : zE} (J : zJ w) {M : zM} (k : kR M) : zCi l w yX8_road cX8_road 3 (some .int) 3 [.ref (w.2.2 138)] M (fun r _ => r = -20) := c_X8_road0 J (by rw [k 138 (by decide)]; decide +kernel)
theorem f8_go {l : Launch} {w : zE} (J : zJ w) {M : zM} (k : kR M) : zCi l w yX8_go cX8_go 2 (some .int) 6 [.ref (w.2.2 138)] M (fun r _ => r = 0) := by
  refine zCi_post (fun r M2 q => ?_) (c_X8_go J r8 rfl (kR_ok k) (u := 0) (by rw [k 138 (by decide)]; decide +kernel) (by decide))
  rcases q with ⟨h, -⟩ | ⟨-, rf, h, -⟩
  · exact absurd h (by decide)
  · rw [h, pas0 _ _ _ (kR_his k), k (138 + 3) (by decide)]
    show va_up (M1.1 (138 + 3)) 3 (M1.1 (138 + 3) 3 + 1) 4 - M1.1 (138 + 3) 4 = 0
    decide +kernel
theorem f8_undo {l : Launch} {w : zE} (J : zJ w) {M : zM} (k : kR M) : zCi l w yX8_undo cX8_undo 2 (some .int) 0 [.ref (w.2.2 138)] M (fun r _ => r = -4) := by
  refine zCi_post (fun r M2 q => ?_) (c_X8_undo J (u := 0) r8 rfl (by rw [k 138 (by decide)]; decide +kernel) (by decide))
  rcases q with ⟨-, rfl, -⟩ | ⟨j, h, -⟩
  · rfl
  · exact absurd h (by omega)
theorem f8_again {l : Launch} {w : zE} (J : zJ w) {M : zM} (k : kR M) : zCi l w yX8_again cX8_again 2 (some .int) 0 [.ref (w.2.2 138)] M (fun r _ => r = 0) := by
  refine zCi_post (fun r M2 q => ?_) (c_X8_again J r8 rfl)
  rw [q.1, k (138 + 3) (by decide)]
  decide +kernel
theorem f8_glad {l : Launch} {w : zE} (J : zJ w) {M : zM} {x : Int32} (k : kR M) : zCi l w yX8_glad cX8_glad 2 (some .int) 4 [.ref (w.2.2 138), .int x] M (fun r _ => r = -1) := by
  refine zCi_post (fun r M2 q => ?_) (c_X8_glad J r8 rfl (kR_ok k))
  rw [q.2, gldS, if_neg (show ¬ (0 ≤ x ∧ x < rbM (M.1 138) 0) from kR_x k)]
theorem f8_home {l : Launch} {w : zE} (J : zJ w) {M : zM} {k : Int32} (h : kR M) : zCi l w yX8_home cX8_home 3 (some .int) 7 [.ref (w.2.2 138), .int k] M (fun r _ => r = homE k) := by
  refine zCi_post (fun r M2 q => ?_) (c_X8_home J r8 rfl (kR_ok h))
  have e0 : hmR M 138 0 0 = hmR M1 138 0 0 := by unfold hmR; rw [h 138 (by decide), h (138 + 1) (by decide), h (138 + 2) (by decide), h (138 + 3) (by decide)]
  have e1 : (hmR M1 138 0 0).1 0 = -4 := by decide +kernel
  have e2 : (hmR M1 138 0 0).1 4 - M1.1 (138 + 3) 4 = 0 := by decide +kernel
  have e3 : (hmR M1 138 0 0).2 = -4 := by decide +kernel
  rw [q.2, homR, e0, h (138 + 3) (by decide), e1, e2, e3, homE]
theorem f8_lost {l : Launch} {w : zE} (J : zJ w) {M : zM} (h : kR M) : zCi l w yX8_lost cX8_lost 2 (some .int) 7 [.ref (w.2.2 138)] M (fun r _ => r = 0) := by
  refine zCi_post (fun r M2 q => ?_) (c_X8_lost J r8 rfl (kR_ok h))
  have e0 : hmR M 138 0 0 = hmR M1 138 0 0 := by unfold hmR; rw [h 138 (by decide), h (138 + 1) (by decide), h (138 + 2) (by decide), h (138 + 3) (by decide)]
  rw [q.2, lostR, e0, h (138 + 3) (by decide), h (138 + 1) (by decide)]
  decide +kernel
theorem f8_lurk {l : Launch} {w : zE} (J : zJ w) {M : zM} {x k : Int32} (h : kR M) : zCi l w yX8_lurk cX8_lurk 9 (some .int) 7 [.ref (w.2.2 138), .int x, .int k] M (fun r _ => r = -1) := by
  refine zCi_post (fun r M2 q => ?_) (c_X8_lurk J r8 rfl (kR_ok h))
  rw [q.2, if_neg (fun q => kR_x h q.1)]
theorem f8_stand {l : Launch} {w : zE} (J : zJ w) {M : zM} {x k : Int32} (h : kR M) : zCi l w yX8_stand cX8_stand 8 (some .int) 7 [.ref (w.2.2 138), .int x, .int k] M (fun r _ => r = -1) := by
  refine zCi_post (fun r M2 q => ?_) (c_X8_stand J r8 rfl (kR_ok h))
  rw [q.2, if_neg (fun q => kR_p h q.1)]
theorem f8_sister {l : Launch} {w : zE} (J : zJ w) {M : zM} {x k : Int32} (h : kR M) : zCi l w yX8_sister cX8_sister 4 (some .int) 2 [.ref (w.2.2 138), .int x, .int k] M (fun r _ => r = -1) := zCi_post (fun r M2 q => q.1) (c_X8_sister0 J r8 (kR_nt h))
theorem f8_meet {l : Launch} {w : zE} (J : zJ w) {M : zM} {x k : Int32} (h : kR M) : zCi l w yX8_meet cX8_meet 6 (some .int) 2 [.ref (w.2.2 138), .int x, .int k] M (fun r _ => r = -1) := zCi_post (fun r M2 q => q.1) (c_X8_meet0 J r8 (kR_nt h))
theorem f8_first {l : Launch} {w : zE} (J : zJ w) {M : zM} {x : Int32} (h : kR M) : zCi l w yX8_first cX8_first 4 (some .int) 7 [.ref (w.2.2 138), .int x] M (fun r _ => r = -1) := by
  refine zCi_post (fun r M2 q => ?_) (c_X8_first J r8 rfl (kR_ok h))
  rw [q.2, if_neg (kR_x h)]
theorem f8_cheated {l : Launch} {w : zE} (J : zJ w) {M : zM} {v : Int32} (k : kR M) : zCi l w yX8_cheated cX8_cheated 8 (some .int) 8 [.ref (w.2.2 138), .int v] M (fun r _ => r = if v < -99 ∨ 99 < v then -1 else if v < 0 then -4 else 0) := by
  refine zCi_post (fun r M2 q => ?_) (c_X8_cheated J r8 rfl (kR_ok k))
  rw [q.2, cht_0 (fun h => ?_)]
  unfold chtW
  rw [kR_his k, hom0 _ _ _ _ (kR_his k)]
  unfold wrt
  rw [if_pos (by decide)]
  decide
theorem f8_chance {l : Launch} {w : zE} (J : zJ w) {M : zM} {x k : Int32} (h : kR M) : zCi l w yX8_chance cX8_chance 6 (some .int) 2 [.ref (w.2.2 138), .int x, .int k] M (fun r _ => r = if ¬ x = -4 ∨ (k < 0 ∨ 1 < k) then -1 else -3) := by
  refine zCi_post (fun r M2 q => ?_) (c_X8_chance0 J r8 rfl (kR_nt h) (by rw [h (138 + 3) (by decide)]; decide +kernel))
  rcases q.2 with ⟨a, rfl⟩ | ⟨a, rfl⟩
  · rw [if_pos a]
  · rw [if_neg a]
theorem f8_image {l : Launch} {w : zE} (J : zJ w) {M : zM} : zCi l w yX8_image cX8_image 2 (some .int) 1 [.ref (w.2.2 138)] M (fun r _ => r = 1) := c_X8_image1 J r8 rfl
theorem f8_restore {l : Launch} {w : zE} (J : zJ w) {M : zM} (k : kR M) : zCi l w yX8_restore cX8_restore 2 (some .int) 1 [.ref (w.2.2 138)] M (fun r _ => r = -4) := zCi_post (fun r M2 q => q.1) (c_X8_restore0 J r8 (by rw [k 138 (by decide)]; decide +kernel))
theorem kR_ln {M : zM} (h : kR M) : ∀ q, q < 4 → M.1 (138 + 12) q = -1 := by rw [h (138 + 12) (by decide)]; decide +kernel
theorem f8_seen {l : Launch} {w : zE} (J : zJ w) {M : zM} {x ln i n : Int32} (k : kR M) : zCi l w yX8_seen cX8_seen 10 (some .int) 2 [.ref (w.2.2 138), .int x, .int ln, .int i, .int n] M (fun r _ => r = if ((x < 0 ∨ 3 < x) ∨ (ln < 0 ∨ 3 < ln)) ∨ (n < 1 ∨ 8 < n) then -1 else -11) := zCi_post (fun r M2 q => q.2) (c_X8_seen0 J r8 rfl (kR_ln k))
theorem f8_film {l : Launch} {w : zE} (J : zJ w) {M : zM} {x ln i : Int32} (k : kR M) : zCi l w yX8_film cX8_film 7 (some .int) 2 [.ref (w.2.2 138), .int x, .int ln, .int i] M (fun r _ => r = if (x < 0 ∨ 3 < x) ∨ (ln < 0 ∨ 3 < ln) then -1 else -11) := zCi_post (fun r M2 q => q.2) (c_X8_film0 J r8 rfl (kR_ln k))
theorem f8_deal {l : Launch} {w : zE} (J : zJ w) {M : zM} {x ln i : Int32} (k : kR M) : zCi l w yX8_deal cX8_deal 9 (some .int) 2 [.ref (w.2.2 138), .int x, .int ln, .int i] M (fun r _ => r = if (x < 0 ∨ 3 < x) ∨ (ln < 0 ∨ 3 < ln) then -1 else -11) := zCi_post (fun r M2 q => q.2) (c_X8_deal0 J r8 rfl (kR_ln k))
theorem f8_item {l : Launch} {w : zE} (J : zJ w) {M : zM} {x ln i : Int32} {v : Int64} (k : kR M) : zCi l w yX8_item cX8_item 7 (some .int) 2 [.ref (w.2.2 138), .int x, .int ln, .int i, .long v] M (fun r _ => r = if (x < 0 ∨ 3 < x) ∨ (ln < 0 ∨ 3 < ln) then -1 else -11) := zCi_post (fun r M2 q => q.2) (c_X8_item0 J r8 rfl (kR_ln k))
theorem f8_copy {l : Launch} {w : zE} (J : zJ w) {M : zM} {x i y j n : Int32} (k : kR M) : zCi l w yX8_copy cX8_copy 7 (some .int) 2 [.ref (w.2.2 138), .int x, .int i, .int y, .int j, .int n] M (fun r _ => r = if (x < 0 ∨ 3 < x) ∨ (y < 0 ∨ 3 < y) then -1 else -11) := zCi_post (fun r M2 q => q.2) (c_X8_copy0 J r8 rfl (kR_ln k))
theorem f8_sheet {l : Launch} {w : zE} (J : zJ w) {M : zM} {x ln n : Int32} : zCi l w yX8_sheet cX8_sheet 5 (some .int) 2 [.ref (w.2.2 138), .int x, .int ln, .int n] M (fun r _ => r = if (x < 0 ∨ 3 < x) ∨ (ln < 0 ∨ 3 < ln) ∨ 16 < n then -1 else if n < 0 then -14 else n) := by
  refine zCi_post (fun r M2 q => ?_) (c_X8_sheet J r8 rfl)
  rcases q with ⟨h, rfl, -⟩ | ⟨h, ⟨h2, rfl, -⟩ | ⟨j, -, -, h2, rfl, -⟩⟩
  · exact (if_pos h).symm
  · rw [if_neg h, if_pos h2]
  · rw [if_neg h, if_neg h2]
theorem f8_drop {l : Launch} {w : zE} (J : zJ w) {M : zM} {x : Int32} (k : kR M) : zCi l w yX8_drop cX8_drop 2 (some .int) 2 [.ref (w.2.2 138), .int x] M (fun r _ => r = if x < 0 ∨ 3 < x then -1 else -11) := by
  refine zCi_post (fun r M2 q => ?_) (c_X8_drop J r8 rfl)
  rcases q with ⟨h, rfl, -⟩ | ⟨j, hj, rfl, ⟨-, rfl, -⟩ | ⟨h2, -⟩⟩
  · exact (if_pos h).symm
  · rw [if_neg (fun q => q.elim (nI_pos (by omega)) (nlt (nI_le (a := j) (b := 3) (by omega) (by decide))))]
  · exact absurd (by rw [kR_ln k j hj]; decide) h2
