/-- a row of the numbers 0 to 7, each once -/
def pmF (f : zF1) : Prop := (∀ k, k < 8 → ∃ j, j < 8 ∧ f k = nI j) ∧ ∀ a b, a < 8 → b < 8 → f a = f b → a = b
theorem pmF.lt {f : zF1} (h : pmF f) {k : Nat} (hk : k < 8) : (f k).toNatClampNeg < 8 := by
  obtain ⟨j, h1, h2⟩ := h.1 k hk
  rw [h2, nI_clamp (by omega)]
  exact h1
theorem pmF.n {f : zF1} (h : pmF f) {k : Nat} (hk : k < 8) : nI (f k).toNatClampNeg = f k := by
  obtain ⟨j, h1, h2⟩ := h.1 k hk
  rw [h2, nI_clamp (by omega)]
theorem pmF.inj {f : zF1} (h : pmF f) {a b : Nat} (ha : a < 8) (hb : b < 8) (e : (f a).toNatClampNeg = (f b).toNatClampNeg) : a = b := h.2 a b ha hb (by rw [← h.n ha, ← h.n hb, e])
def rotF (f : zF1) : zF1 := fun k => if k < 7 then f (k + 1) else if k = 7 then f 0 else f k
theorem rotF_pm {f : zF1} (h : pmF f) : pmF (rotF f) := by
  refine ⟨fun k hk => ?_, fun a b ha hb e => ?_⟩
  · unfold rotF
    by_cases q : k < 7
    · rw [if_pos q]; exact h.1 (k + 1) (by omega)
    · rw [if_neg q, if_pos (by omega)]; exact h.1 0 (by omega)
  · unfold rotF at e
    by_cases qa : a < 7 <;> by_cases qb : b < 7
    · rw [if_pos qa, if_pos qb] at e; have := h.2 _ _ (by omega) (by omega) e; omega
    · rw [if_pos qa, if_neg qb, if_pos (by omega)] at e; have := h.2 _ _ (by omega) (by omega) e; omega
    · rw [if_neg qa, if_pos (by omega), if_pos qb] at e; have := h.2 _ _ (by omega) (by omega) e; omega
    · omega
theorem c_X6_loseOldest {l : Launch} {w : zE} (J : zJ w) {M : zM} {i : Nat} (hk : zk i = 6) (hp : pmF (M.1 (i + 17))) : zCv l w yX6_loseOldest cX6_loseOldest 3 0 [.ref (w.2.2 i)] M (fun M2 => M2 = zs (za M (i + 17) (rotF (M.1 (i + 17)))) i 3 7) := by
  obtain ⟨k1, k15, k17⟩ := zkf6 i (zk_i hk (by decide)) hk
  refine zCv_of J zm_X6_loseOldest [some (.ref (w.2.2 i)), none, none] (Nat.le_of_ble_eq_true rfl) rfl (fun g hg F X => ?_)
  subst hg
  have key : ∀ (j m : Nat), m + j = 7 → ZW w g 3 9 [some (.ref (w.2.2 i)), some (.ref (w.2.2 (i + 17 + 1 + 2 * (M.1 (i + 17) 0).toNatClampNeg))), some (.int (nI (m + 1)))] [] (za M (i + 17) (fun q => if q < m then M.1 (i + 17) (q + 1) else M.1 (i + 17) q)) := by
    intro j
    induction j with
    | zero =>
      intro m hm
      have hmn : m = 7 := by omega
      subst hmn
      refine z_iload_n F dX6_loseOldest_9 rfl ?_
      refine z_aload_n F dX6_loseOldest_10 rfl ?_
      refine zg_X6_past F (by with_reducible assumption) fl_X6_25 dX6_loseOldest_11 (fun hk_11 => ?_)
      refine z_alen18 F (by with_reducible assumption) dX6_loseOldest_14 ?_
      refine z_ic_ge (tgt := 38) F dX6_loseOldest_15 (by decide) (fun h_15 => ?_) (fun h_15 => absurd h_15 (by decide))
      refine z_aload_n F dX6_loseOldest_38 rfl ?_
      refine zg_X6_past F (by with_reducible assumption) fl_X6_25 dX6_loseOldest_39 (fun hk_39 => ?_)
      refine z_aload_n F dX6_loseOldest_42 rfl ?_
      refine zg_X6_past F (by with_reducible assumption) fl_X6_25 dX6_loseOldest_43 (fun hk_43 => ?_)
      refine z_alen18 F (by with_reducible assumption) dX6_loseOldest_46 ?_
      refine z_iconst (v := 1) F dX6_loseOldest_47 (by decide) ?_
      refine z_isub F dX6_loseOldest_48 ?_
      refine z_aload_n F dX6_loseOldest_49 rfl ?_
      refine z_aast18 F (by with_reducible assumption) (vpl 8 (by decide) (by decide)) (hp.lt (k := 0) (by decide)) dX6_loseOldest_50 ?_
      refine z_aload_n F dX6_loseOldest_51 rfl ?_
      refine z_aload_n F dX6_loseOldest_52 rfl ?_
      refine zg_X6_past F (by with_reducible assumption) fl_X6_25 dX6_loseOldest_53 (fun hk_53 => ?_)
      refine z_alen18 F (by with_reducible assumption) dX6_loseOldest_56 ?_
      refine z_iconst (v := 1) F dX6_loseOldest_57 (by decide) ?_
      refine z_isub F dX6_loseOldest_58 ?_
      refine zp_X6_known F (by with_reducible assumption) fl_X6_36 dX6_loseOldest_59 ?_
      refine z_vret F X dX6_loseOldest_62 ?_
      show zs (zs (za M (i + 17) (fun q => if q < 7 then M.1 (i + 17) (q + 1) else M.1 (i + 17) q)) (i + 17) 7 (nI (M.1 (i + 17) 0).toNatClampNeg)) i 3 7 = _
      rw [hp.n (by decide)]
      simp only [zs_za, za_za, za_at]
      have e : va_up (fun q => if q < 7 then M.1 (i + 17) (q + 1) else M.1 (i + 17) q) 7 (M.1 (i + 17) 0) = rotF (M.1 (i + 17)) := by
        funext q
        unfold va_up rotF
        by_cases h7 : q = 7
        · subst h7; simp
        · rw [if_neg h7, if_neg h7]
      rw [e]
    | succ j ih =>
      intro m hm
      have ih2 := ih (m + 1) (by omega)
      have hpin : vp_in (nI (m + 1)) 8 := vp_in_nI (by omega) (by decide)
      have hpc : (nI (m + 1)).toNatClampNeg = m + 1 := nI_clamp (by omega)
      have hpm : (nI m).toNatClampNeg = m := nI_clamp (by omega)
      refine z_iload_n F dX6_loseOldest_9 rfl ?_
      refine z_aload_n F dX6_loseOldest_10 rfl ?_
      refine zg_X6_past F (by with_reducible assumption) fl_X6_25 dX6_loseOldest_11 (fun hk_11 => ?_)
      refine z_alen18 F (by with_reducible assumption) dX6_loseOldest_14 ?_
      refine z_ic_ge (tgt := 38) F dX6_loseOldest_15 (by decide) (fun h_15 => absurd h_15 (Int32.not_le.mpr (nI_lt (b := 8) (by omega) (by decide)))) (fun h_15 => ?_)
      refine z_aload_n F dX6_loseOldest_18 rfl ?_
      refine zg_X6_past F (by with_reducible assumption) fl_X6_25 dX6_loseOldest_19 (fun hk_19 => ?_)
      refine z_iload_n F dX6_loseOldest_22 rfl ?_
      refine z_iconst (v := 1) F dX6_loseOldest_23 (by decide) ?_
      refine z_isub F dX6_loseOldest_24 ?_
      rw [nI_pred]
      refine z_aload_n F dX6_loseOldest_25 rfl ?_
      refine zg_X6_past F (by with_reducible assumption) fl_X6_25 dX6_loseOldest_26 (fun hk_26 => ?_)
      refine z_iload_n F dX6_loseOldest_29 rfl ?_
      refine z_aald18 F (by with_reducible assumption) hpin dX6_loseOldest_30 ?_
      rw [za_at, hpc, if_neg (by omega)]
      refine z_aast18 F (by with_reducible assumption) (vp_in_nI (by omega) (by decide)) (hp.lt (k := m + 1) (by omega)) dX6_loseOldest_31 ?_
      refine z_iincc (c := 1) (lv' := [_, _, _]) F dX6_loseOldest_32 rfl (by decide) (by decide) rfl rfl ?_
      refine z_goto (tgt := 9) F dX6_loseOldest_35 (by decide) ?_
      rw [nI_1, hpm, hp.n (by omega), zs_za, za_za, za_at]
      have e : va_up (fun q => if q < m then M.1 (i + 17) (q + 1) else M.1 (i + 17) q) m (M.1 (i + 17) (m + 1)) = (fun q => if q < m + 1 then M.1 (i + 17) (q + 1) else M.1 (i + 17) q) := by
        funext q
        unfold va_up
        by_cases h7 : q = m
        · subst h7; rw [if_pos rfl, if_pos (by omega)]
        · rw [if_neg h7]
          show (if q < m then M.1 (i + 17) (q + 1) else M.1 (i + 17) q) = _
          by_cases h8 : q < m
          · rw [if_pos h8, if_pos (by omega)]
          · rw [if_neg h8, if_neg (by omega)]
      rw [e]
      exact ih2
  refine z_aload_n F dX6_loseOldest_0 rfl ?_
  refine zg_X6_past F (by with_reducible assumption) fl_X6_25 dX6_loseOldest_1 (fun hk_1 => ?_)
  refine z_iconst (v := 0) F dX6_loseOldest_4 (by decide) ?_
  refine z_aald18 F (by with_reducible assumption) (vpl 8 (by decide) (by decide)) dX6_loseOldest_5 ?_
  refine z_astore_n (lv' := [_, _, _]) F dX6_loseOldest_6 (by decide) rfl rfl ?_
  refine z_iconst (v := 1) F dX6_loseOldest_7 (by decide) ?_
  refine z_istore_n (lv' := [_, _, _]) F dX6_loseOldest_8 (by decide) rfl rfl ?_
  have k0 := key 7 0 (by omega)
  have e : (fun q => if q < 0 then M.1 (i + 17) (q + 1) else M.1 (i + 17) q) = M.1 (i + 17) := by funext q; rw [if_neg (by omega)]
  rw [e, za_self] at k0
  exact k0
/-- a milestone is remembered: k of them were -/
def remF (M : zM) (i k : Nat) : zM :=
  if k < 8 then zs (za M (i + 18 + 2 * (M.1 (i + 17) k).toNatClampNeg) (M.1 (i + 15))) i 3 (nI (k + 1))
  else zs (za (za M (i + 17) (rotF (M.1 (i + 17)))) (i + 18 + 2 * (M.1 (i + 17) 0).toNatClampNeg) (M.1 (i + 15))) i 3 8
theorem c_X6_remember {l : Launch} {w : zE} (J : zJ w) {M : zM} {i k : Nat} (hk : zk i = 6) (hp : pmF (M.1 (i + 17))) (hn : M.1 i 3 = nI k) (h8 : k ≤ 8) : zCv l w yX6_remember cX6_remember 1 2 [.ref (w.2.2 i)] M (fun M2 => M2 = remF M i k) := by
  obtain ⟨k1, k15, k17⟩ := zkf6 i (zk_i hk (by decide)) hk
  have kp := zkf18 (i + 17) (zk_i k17 (by decide)) k17
  refine zCv_of J zm_X6_remember [some (.ref (w.2.2 i))] (Nat.le_of_ble_eq_true rfl) rfl (fun g hg F X => ?_)
  subst hg
  by_cases hc : k < 8
  · have hpin : vp_in (nI k) 8 := vp_in_nI hc (by decide)
    have hpc : (nI k).toNatClampNeg = k := nI_clamp (by omega)
    have kt := kp _ (hp.lt hc)
    refine z_aload_n F dX6_remember_0 rfl ?_
    refine zg_X6_known F (by with_reducible assumption) fl_X6_36 dX6_remember_1 ?_
    try simp only [hn, za_off _ (show i ≠ i + 17 + 1 + 2 * (M.1 (i + 17) k).toNatClampNeg by omega)]
    refine z_aload_n F dX6_remember_4 rfl ?_
    refine zg_X6_past F (by with_reducible assumption) fl_X6_25 dX6_remember_5 (fun hk_5 => ?_)
    refine z_alen18 F (by with_reducible assumption) dX6_remember_8 ?_
    refine z_ic_lt (tgt := 16) F dX6_remember_9 (by decide) (fun h_9 => ?_) (fun h_9 => absurd h_9 (Int32.not_le.mpr (nI_lt (b := 8) hc (by decide))))
    refine z_aload_n F dX6_remember_16 rfl ?_
    refine zg_X6_past F (by with_reducible assumption) fl_X6_25 dX6_remember_17 (fun hk_17 => ?_)
    refine z_aload_n F dX6_remember_20 rfl ?_
    refine zg_X6_known F (by with_reducible assumption) fl_X6_36 dX6_remember_21 ?_
    try simp only [hn, za_off _ (show i ≠ i + 17 + 1 + 2 * (M.1 (i + 17) k).toNatClampNeg by omega)]
    refine z_aald18 F (by with_reducible assumption) hpin dX6_remember_24 ?_
    rw [hpc]
    refine z_aload_n F dX6_remember_25 rfl ?_
    refine zg_X6_trip F (by with_reducible assumption) fl_X6_21 dX6_remember_26 (fun hk_26 => ?_)
    refine z_callVv F (d_X5_setFrom J kt (by with_reducible assumption) (by omega)) zm_X5_setFrom zv_X5_setFrom ml_X6_33 kt (by decide) rfl rfl rfl (Nat.le_of_ble_eq_true rfl) dX6_remember_29 (by omega) (fun M_29 h_29 => ?_)
    replace h_29 := Eq.symm h_29
    subst h_29
    refine z_aload_n F dX6_remember_32 rfl ?_
    refine z_dup F dX6_remember_33 rfl ?_
    refine zg_X6_known F (by with_reducible assumption) fl_X6_36 dX6_remember_34 ?_
    try simp only [hn, za_off _ (show i ≠ i + 17 + 1 + 2 * (M.1 (i + 17) k).toNatClampNeg by omega)]
    refine z_iconst (v := 1) F dX6_remember_37 (by decide) ?_
    refine z_iadd F dX6_remember_38 ?_
    refine zp_X6_known F (by with_reducible assumption) fl_X6_36 dX6_remember_39 ?_
    refine z_vret F X dX6_remember_42 ?_
    rw [remF, if_pos hc, nI_1]
  · have hk8 : k = 8 := by omega
    subst hk8
    have kt := kp _ (hp.lt (k := 0) (by decide))
    have q1 : (zs (za M (i + 17) (rotF (M.1 (i + 17)))) i 3 7).1 i 3 = 7 := by rw [zs_at, va_up_self]
    have q2 : (zs (za M (i + 17) (rotF (M.1 (i + 17)))) i 3 7).1 (i + 17) = rotF (M.1 (i + 17)) := by rw [zs_off _ (by omega), za_at]
    have q3 : (zs (za M (i + 17) (rotF (M.1 (i + 17)))) i 3 7).1 (i + 15) = M.1 (i + 15) := by rw [zs_off _ (by omega), za_off _ (by omega)]
    have q4 : rotF (M.1 (i + 17)) 7 = M.1 (i + 17) 0 := rfl
    refine z_aload_n F dX6_remember_0 rfl ?_
    refine zg_X6_known F (by with_reducible assumption) fl_X6_36 dX6_remember_1 ?_
    refine z_aload_n F dX6_remember_4 rfl ?_
    refine zg_X6_past F (by with_reducible assumption) fl_X6_25 dX6_remember_5 (fun hk_5 => ?_)
    refine z_alen18 F (by with_reducible assumption) dX6_remember_8 ?_
    refine z_ic_lt (tgt := 16) F dX6_remember_9 (by decide) (fun h_9 => absurd h_9 (by rw [hn]; decide)) (fun h_9 => ?_)
    refine z_aload_n F dX6_remember_12 rfl ?_
    refine z_callVv F (c_X6_loseOldest J hk hp) zm_X6_loseOldest zv_X6_loseOldest ml_X6_40 (by with_reducible assumption) (by decide) rfl rfl rfl (Nat.le_of_ble_eq_true rfl) dX6_remember_13 (by omega) (fun M_13 h_13 => ?_)
    replace h_13 := Eq.symm h_13
    subst h_13
    refine z_aload_n F dX6_remember_16 rfl ?_
    refine zg_X6_past F (by with_reducible assumption) fl_X6_25 dX6_remember_17 (fun hk_17 => ?_)
    refine z_aload_n F dX6_remember_20 rfl ?_
    refine zg_X6_known F (by with_reducible assumption) fl_X6_36 dX6_remember_21 ?_
    rw [q1]
    refine z_aald18 F (by with_reducible assumption) (vpl 8 (by decide) (by decide)) dX6_remember_24 ?_
    show ZW w g 1 25 _ (.ref (w.2.2 (i + 17 + 1 + 2 * ((zs (za M (i + 17) (rotF (M.1 (i + 17)))) i 3 7).1 (i + 17) 7).toNatClampNeg)) :: _) _
    rw [q2, q4]
    refine z_aload_n F dX6_remember_25 rfl ?_
    refine zg_X6_trip F (by with_reducible assumption) fl_X6_21 dX6_remember_26 (fun hk_26 => ?_)
    refine z_callVv F (d_X5_setFrom J kt (by with_reducible assumption) (by omega)) zm_X5_setFrom zv_X5_setFrom ml_X6_33 kt (by decide) rfl rfl rfl (Nat.le_of_ble_eq_true rfl) dX6_remember_29 (by omega) (fun M_29 h_29 => ?_)
    replace h_29 := Eq.symm h_29
    subst h_29
    refine z_aload_n F dX6_remember_32 rfl ?_
    refine z_dup F dX6_remember_33 rfl ?_
    refine zg_X6_known F (by with_reducible assumption) fl_X6_36 dX6_remember_34 ?_
    refine z_iconst (v := 1) F dX6_remember_37 (by decide) ?_
    refine z_iadd F dX6_remember_38 ?_
    refine zp_X6_known F (by with_reducible assumption) fl_X6_36 dX6_remember_39 ?_
    refine z_vret F X dX6_remember_42 ?_
    rw [q3, za_off _ (show i ≠ i + 17 + 1 + 2 * (M.1 (i + 17) 0).toNatClampNeg by omega), q1, remF, if_neg (by decide)]
    have e : i + 17 + 1 + 2 * (M.1 (i + 17) 0).toNatClampNeg = i + 18 + 2 * (M.1 (i + 17) 0).toNatClampNeg := by omega
    rw [e]
    rw [zs_za, zs_za, zs_za]
    rw [za_swap _ _ _ (show i ≠ i + 18 + 2 * (M.1 (i + 17) 0).toNatClampNeg by omega), za_za]
    simp only [za_at, za_off _ (show i ≠ i + 18 + 2 * (M.1 (i + 17) 0).toNatClampNeg by omega), za_off _ (show i ≠ i + 17 by omega), bx_uu]
    rfl
theorem c_X6_stepBack {l : Launch} {w : zE} (J : zJ w) {M : zM} {i k : Nat} (hk : zk i = 6) (hp : pmF (M.1 (i + 17))) (hn : M.1 i 3 = nI (k + 1)) (h8 : k < 8) : zCv l w yX6_stepBack cX6_stepBack 1 2 [.ref (w.2.2 i)] M (fun M2 => M2 = za (zs M i 3 (nI k)) (i + 15) (M.1 (i + 18 + 2 * (M.1 (i + 17) k).toNatClampNeg))) := by
  obtain ⟨k1, k15, k17⟩ := zkf6 i (zk_i hk (by decide)) hk
  have kp := zkf18 (i + 17) (zk_i k17 (by decide)) k17
  have hpin : vp_in (nI k) 8 := vp_in_nI h8 (by decide)
  have hpc : (nI k).toNatClampNeg = k := nI_clamp (by omega)
  have kt := kp _ (hp.lt h8)
  have e : i + 17 + 1 + 2 * (M.1 (i + 17) k).toNatClampNeg = i + 18 + 2 * (M.1 (i + 17) k).toNatClampNeg := by omega
  refine zCv_of J zm_X6_stepBack [some (.ref (w.2.2 i))] (Nat.le_of_ble_eq_true rfl) rfl (fun g hg F X => ?_)
  subst hg
  refine z_aload_n F dX6_stepBack_0 rfl ?_
  refine zg_X6_known F (by with_reducible assumption) fl_X6_36 dX6_stepBack_1 ?_
  try simp only [hn, nI_pred, zs_at, va_up_self, zs_off _ (show i + 17 ≠ i by omega), hpc]
  refine z_if_le (tgt := 33) F dX6_stepBack_4 (by decide) (fun h_4 => absurd h_4 (nI_nle (by omega) (by omega))) (fun h_4 => ?_)
  refine z_aload_n F dX6_stepBack_7 rfl ?_
  refine z_dup F dX6_stepBack_8 rfl ?_
  refine zg_X6_known F (by with_reducible assumption) fl_X6_36 dX6_stepBack_9 ?_
  try simp only [hn, nI_pred, zs_at, va_up_self, zs_off _ (show i + 17 ≠ i by omega), hpc]
  refine z_iconst (v := 1) F dX6_stepBack_12 (by decide) ?_
  refine z_isub F dX6_stepBack_13 ?_
  refine zp_X6_known F (by with_reducible assumption) fl_X6_36 dX6_stepBack_14 ?_
  refine z_aload_n F dX6_stepBack_17 rfl ?_
  refine zg_X6_trip F (by with_reducible assumption) fl_X6_21 dX6_stepBack_18 (fun hk_18 => ?_)
  refine z_aload_n F dX6_stepBack_21 rfl ?_
  refine zg_X6_past F (by with_reducible assumption) fl_X6_25 dX6_stepBack_22 (fun hk_22 => ?_)
  refine z_aload_n F dX6_stepBack_25 rfl ?_
  refine zg_X6_known F (by with_reducible assumption) fl_X6_36 dX6_stepBack_26 ?_
  try simp only [hn, nI_pred, zs_at, va_up_self, zs_off _ (show i + 17 ≠ i by omega), hpc]
  refine z_aald18 F (by with_reducible assumption) hpin dX6_stepBack_29 ?_
  rw [zs_off _ (show i + 17 ≠ i by omega), hpc]
  refine z_callVv F (d_X5_setFrom J (by with_reducible assumption) kt (by omega)) zm_X5_setFrom zv_X5_setFrom ml_X6_33 (by with_reducible assumption) (by decide) rfl rfl rfl (Nat.le_of_ble_eq_true rfl) dX6_stepBack_30 (by omega) (fun M_30 h_30 => ?_)
  replace h_30 := Eq.symm h_30
  subst h_30
  refine z_vret F X dX6_stepBack_33 ?_
  rw [zs_off _ (by omega), e]
/-- past trips of i2 over those of i, q of them -/
def cpP (B : zM) (i i2 : Nat) : Nat → zM
  | 0 => B
  | q + 1 => za (cpP B i i2 q) (i + 18 + 2 * (B.1 (i + 17) q).toNatClampNeg) (B.1 (i2 + 18 + 2 * (B.1 (i2 + 17) q).toNatClampNeg))
theorem cpP_2 (B : zM) (i i2 : Nat) : ∀ q, (cpP B i i2 q).2 = B.2
  | 0 => rfl
  | q + 1 => cpP_2 B i i2 q
theorem cpP_off {B : zM} {i i2 : Nat} (hp : pmF (B.1 (i + 17))) : ∀ (q : Nat) {b : Nat}, q ≤ 8 → (b < i + 18 ∨ i + 34 ≤ b) → (cpP B i i2 q).1 b = B.1 b
  | 0, _, _, _ => rfl
  | q + 1, b, hq, hb => by
    have := hp.lt (k := q) (by omega)
    rw [cpP, za_off _ (by omega)]
    exact cpP_off hp q (by omega) hb
theorem cpP_at {B : zM} {i i2 : Nat} (hp : pmF (B.1 (i + 17))) : ∀ (q k : Nat), q ≤ 8 → k < q → (cpP B i i2 q).1 (i + 18 + 2 * (B.1 (i + 17) k).toNatClampNeg) = B.1 (i2 + 18 + 2 * (B.1 (i2 + 17) k).toNatClampNeg)
  | 0, k, _, h => absurd h (Nat.not_lt_zero k)
  | q + 1, k, hq, h => by
    by_cases e : k = q
    · subst e
      rw [cpP, za_at]
    · have n : (B.1 (i + 17) k).toNatClampNeg ≠ (B.1 (i + 17) q).toNatClampNeg := fun z => e (hp.inj (by omega) (by omega) z)
      rw [cpP, za_off _ (by omega)]
      exact cpP_at hp q k (by omega) (by omega)
/-- a world over another, but for its past -/
def wcF (M : zM) (i i2 : Nat) : zM := zs (za (zrd M (i + 1) (M.1 (i2 + 1)) (M.1 (i2 + 1 + 1)) (M.1 (i2 + 1 + 12))) (i + 15) (M.1 (i2 + 15))) i 3 (M.1 i2 3)
theorem wcF_off {M : zM} {i i2 b : Nat} (h : b ≠ i) (h1 : b ≠ i + 1) (h2 : b ≠ i + 1 + 1) (h3 : b ≠ i + 1 + 12) (h4 : b ≠ i + 15) : (wcF M i i2).1 b = M.1 b := by unfold wcF zrd; rw [zs_off _ h, za_off _ h4, za_off _ h1, za_off _ h3, za_off _ h2]
theorem c_X6_setFrom {l : Launch} {w : zE} (J : zJ w) {M : zM} {i i2 k : Nat} (hk : zk i = 6) (hk2 : zk i2 = 6) (hi : i = 1 ∧ i2 = 35 ∨ i = 35 ∧ i2 = 1) (hp : pmF (M.1 (i + 17))) (hp2 : pmF (M.1 (i2 + 17))) (hn : M.1 i2 3 = nI k) (h8 : k ≤ 8) : zCv l w yX6_setFrom cX6_setFrom 3 2 [.ref (w.2.2 i), .ref (w.2.2 i2)] M (fun M2 => M2 = cpP (wcF M i i2) i i2 k) := by
  obtain ⟨k1, k15, k17⟩ := zkf6 i (zk_i hk (by decide)) hk
  obtain ⟨g1, g15, g17⟩ := zkf6 i2 (zk_i hk2 (by decide)) hk2
  have kp := zkf18 (i + 17) (zk_i k17 (by decide)) k17
  have gp := zkf18 (i2 + 17) (zk_i g17 (by decide)) g17
  have w0 : ∀ b, b ≠ i + 1 → b ≠ i + 1 + 1 → b ≠ i + 1 + 12 → (zrd M (i + 1) (M.1 (i2 + 1)) (M.1 (i2 + 1 + 1)) (M.1 (i2 + 1 + 12))).1 b = M.1 b := fun b h1 h2 h3 => by unfold zrd; rw [za_off _ h1, za_off _ h3, za_off _ h2]
  refine zCv_of J zm_X6_setFrom [some (.ref (w.2.2 i)), some (.ref (w.2.2 i2)), none] (Nat.le_of_ble_eq_true rfl) rfl (fun g hg F X => ?_)
  subst hg
  have b1 : (wcF M i i2).1 i 3 = nI k := by unfold wcF; rw [zs_at, va_up_self, hn]
  have b2 : (wcF M i i2).1 (i + 17) = M.1 (i + 17) := wcF_off (by omega) (by omega) (by omega) (by omega) (by omega)
  have b3 : (wcF M i i2).1 (i2 + 17) = M.1 (i2 + 17) := wcF_off (by omega) (by omega) (by omega) (by omega) (by omega)
  have key : ∀ (j q : Nat), q + j = k → ZW w g 3 32 [some (.ref (w.2.2 i)), some (.ref (w.2.2 i2)), some (.int (nI q))] [] (cpP (wcF M i i2) i i2 q) := by
    generalize wcF M i i2 = B at b1 b2 b3 X ⊢
    rw [← b2] at hp
    rw [← b3] at hp2
    intro j
    induction j with
    | zero =>
      intro q hq
      have hqk : q = k := by omega
      subst hqk
      have c1 : (cpP B i i2 q).1 i 3 = nI q := by rw [cpP_off hp q (by omega) (by omega), b1]
      refine z_iload_n F dX6_setFrom_32 rfl ?_
      refine z_aload_n F dX6_setFrom_33 rfl ?_
      refine zg_X6_known F (by with_reducible assumption) fl_X6_36 dX6_setFrom_34 ?_
      try simp only [c1]
      refine z_ic_ge (tgt := 61) F dX6_setFrom_37 (by decide) (fun h_37 => ?_) (fun h_37 => absurd h_37 (Int32.not_lt.mpr (nI_le (Nat.le_refl _) (by omega))))
      refine z_vret F X dX6_setFrom_61 ?_
      rfl
    | succ j ih =>
      intro q hq
      have c1 : (cpP B i i2 q).1 i 3 = nI k := by rw [cpP_off hp q (by omega) (by omega), b1]
      have c2 : (cpP B i i2 q).1 (i + 17) = B.1 (i + 17) := cpP_off hp q (by omega) (by omega)
      have c3 : (cpP B i i2 q).1 (i2 + 17) = B.1 (i2 + 17) := cpP_off hp q (by omega) (by omega)
      have lq := hp.lt (k := q) (by omega)
      have lq2 := hp2.lt (k := q) (by omega)
      have c4 : (cpP B i i2 q).1 (i2 + 18 + 2 * (B.1 (i2 + 17) q).toNatClampNeg) = B.1 (i2 + 18 + 2 * (B.1 (i2 + 17) q).toNatClampNeg) := cpP_off hp q (by omega) (by omega)
      have hpin : vp_in (nI q) 8 := vp_in_nI (by omega) (by decide)
      have hpc : (nI q).toNatClampNeg = q := nI_clamp (by omega)
      have kt := kp _ lq
      have gt := gp _ lq2
      have e1 : i + 17 + 1 + 2 * (B.1 (i + 17) q).toNatClampNeg = i + 18 + 2 * (B.1 (i + 17) q).toNatClampNeg := by omega
      have e2 : i2 + 17 + 1 + 2 * (B.1 (i2 + 17) q).toNatClampNeg = i2 + 18 + 2 * (B.1 (i2 + 17) q).toNatClampNeg := by omega
      rw [e1] at kt
      rw [e2] at gt
      have ih2 := ih (q + 1) (by omega)
      rw [cpP] at ih2
      refine z_iload_n F dX6_setFrom_32 rfl ?_
      refine z_aload_n F dX6_setFrom_33 rfl ?_
      refine zg_X6_known F (by with_reducible assumption) fl_X6_36 dX6_setFrom_34 ?_
      try simp only [c1]
      refine z_ic_ge (tgt := 61) F dX6_setFrom_37 (by decide) (fun h_37 => absurd h_37 (Int32.not_le.mpr (nI_lt (by omega) (by omega)))) (fun h_37 => ?_)
      refine z_aload_n F dX6_setFrom_40 rfl ?_
      refine zg_X6_past F (by with_reducible assumption) fl_X6_25 dX6_setFrom_41 (fun hk_41 => ?_)
      refine z_iload_n F dX6_setFrom_44 rfl ?_
      refine z_aald18 F (by with_reducible assumption) hpin dX6_setFrom_45 ?_
      rw [hpc, c2, e1]
      refine z_aload_n F dX6_setFrom_46 rfl ?_
      refine zg_X6_past F (by with_reducible assumption) fl_X6_25 dX6_setFrom_47 (fun hk_47 => ?_)
      refine z_iload_n F dX6_setFrom_50 rfl ?_
      refine z_aald18 F (by with_reducible assumption) hpin dX6_setFrom_51 ?_
      rw [hpc, c3, e2]
      refine z_callVv F (d_X5_setFrom J kt gt (by omega)) zm_X5_setFrom zv_X5_setFrom ml_X6_33 kt (by decide) rfl rfl rfl (Nat.le_of_ble_eq_true rfl) dX6_setFrom_52 (by omega) (fun M_52 h_52 => ?_)
      replace h_52 := Eq.symm h_52
      subst h_52
      refine z_iincc (c := 1) (lv' := [_, _, _]) F dX6_setFrom_55 rfl (by decide) (by decide) rfl rfl ?_
      refine z_goto (tgt := 32) F dX6_setFrom_58 (by decide) ?_
      rw [nI_1, c4]
      exact ih2
  refine z_aload_n F dX6_setFrom_0 rfl ?_
  refine zg_X6_road F (by with_reducible assumption) fl_X6_12 dX6_setFrom_1 (fun hk_1 => ?_)
  refine z_aload_n F dX6_setFrom_4 rfl ?_
  refine zg_X6_road F (by with_reducible assumption) fl_X6_12 dX6_setFrom_5 (fun hk_5 => ?_)
  refine z_callVv F (d_X1_setFrom J (by with_reducible assumption) (by with_reducible assumption) (by omega)) zm_X1_setFrom zv_X1_setFrom ml_X6_29 (by with_reducible assumption) (by decide) rfl rfl rfl (Nat.le_of_ble_eq_true rfl) dX6_setFrom_8 (by omega) (fun M_8 h_8 => ?_)
  replace h_8 := Eq.symm h_8
  subst h_8
  refine z_aload_n F dX6_setFrom_11 rfl ?_
  refine zg_X6_trip F (by with_reducible assumption) fl_X6_21 dX6_setFrom_12 (fun hk_12 => ?_)
  refine z_aload_n F dX6_setFrom_15 rfl ?_
  refine zg_X6_trip F (by with_reducible assumption) fl_X6_21 dX6_setFrom_16 (fun hk_16 => ?_)
  refine z_callVv F (d_X5_setFrom J (by with_reducible assumption) (by with_reducible assumption) (by omega)) zm_X5_setFrom zv_X5_setFrom ml_X6_33 (by with_reducible assumption) (by decide) rfl rfl rfl (Nat.le_of_ble_eq_true rfl) dX6_setFrom_19 (by omega) (fun M_19 h_19 => ?_)
  replace h_19 := Eq.symm h_19
  subst h_19
  refine z_aload_n F dX6_setFrom_22 rfl ?_
  refine z_aload_n F dX6_setFrom_23 rfl ?_
  refine zg_X6_known F (by with_reducible assumption) fl_X6_36 dX6_setFrom_24 ?_
  refine zp_X6_known F (by with_reducible assumption) fl_X6_36 dX6_setFrom_27 ?_
  refine z_iconst (v := 0) F dX6_setFrom_30 (by decide) ?_
  refine z_istore_n (lv' := [_, _, _]) F dX6_setFrom_31 (by decide) rfl rfl ?_
  rw [za_off _ (show i2 ≠ i + 15 by omega), w0 _ (by omega) (by omega) (by omega), w0 _ (by omega) (by omega) (by omega)]
  exact key k 0 (by omega)
