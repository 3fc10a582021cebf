theorem c_X8_care {l : Launch} {w : zE} (J : zJ w) {M : zM} {o j : Nat} {n : Int32} (hk : zk o = 8) (ho : o = 138) (hj : j < 10) (kd : kdOK (M.1 (o + 1))) : zCi l w yX8_care cX8_care 3 (some .int) 1 [.ref (w.2.2 o), .int (nI j), .int n] M (fun r M2 => M2 = M ∧ r = feltF (M.1 (o + 1)) j 1 n * coinF (M.1 o 8) (M.1 (o + 3) 3)) := by
  obtain ⟨hz1, hz2, hz3, hz4, hz5, hz6, hz7, hz8, hz9, hz10, hz11, hz12, hz13, hz14, hz15⟩ := zn8 ho
  refine zCi_of J zm_X8_care [some (.ref (w.2.2 o)), some (.int (nI j)), some (.int n)] (Nat.le_of_ble_eq_true rfl) rfl (fun g hg F X => ?_)
  subst hg
  refine z_aload_n F dX8_care_0 rfl ?_
  refine z_iload_n F dX8_care_1 rfl ?_
  refine z_iload_n F dX8_care_2 rfl ?_
  refine z_iconst (v := 1) F dX8_care_3 (by decide) ?_
  refine z_callVi F (c_X8_feels J hk ho hj kd) zm_X8_feels zv_X8_feels ml_X8_99 (by with_reducible assumption) (by decide) rfl rfl rfl (Nat.le_of_ble_eq_true rfl) dX8_care_4 (by omega) (fun r_4 M_4 h_4 => ?_)
  obtain ⟨e_4, rfl⟩ := h_4
  replace e_4 := Eq.symm e_4
  subst e_4
  refine z_aload_n F dX8_care_7 rfl ?_
  refine zg_X8_tossed F (by with_reducible assumption) fl_X8_163 dX8_care_8 ?_
  refine z_aload_n F dX8_care_11 rfl ?_
  refine zg_X8_now F (by with_reducible assumption) fl_X8_16 dX8_care_12 (fun hk_12 => ?_)
  refine z_iconst (v := 3) F dX8_care_15 (by decide) ?_
  refine z_iald10n (q := 3) F (by with_reducible assumption) (by decide) (by rw [hz3]; omega) dX8_care_16 ?_
  refine z_ishr F dX8_care_17 ?_
  refine z_iconst (v := 1) F dX8_care_18 (by decide) ?_
  refine z_iand F dX8_care_19 ?_
  refine z_iconst (v := 1) F dX8_care_20 (by decide) ?_
  refine z_iadd F dX8_care_21 ?_
  refine z_imul F dX8_care_22 ?_
  refine z_iret F X dX8_care_23 ?_
  exact ⟨rfl, rfl⟩
theorem c_X8_own {l : Launch} {w : zE} (J : zJ w) {M : zM} {o h : Nat} {k : Int32} (hk : zk o = 8) (ho : o = 138) (hh : M.1 (o + 3) 0 = nI h) (h10 : h < 10) (kd : kdOK (M.1 (o + 1))) (hk01 : k = 0 ∨ k = 1) : zCi l w yX8_own cX8_own 2 (some .int) 2 [.ref (w.2.2 o), .int k] M (fun r M2 => M2 = M ∧ r = feltF (M.1 (o + 1)) h k (M.1 (o + 3) 1) * timesF (coinF (M.1 o 8) (M.1 (o + 3) 3)) k) := by
  obtain ⟨hz1, hz2, hz3, hz4, hz5, hz6, hz7, hz8, hz9, hz10, hz11, hz12, hz13, hz14, hz15⟩ := zn8 ho
  refine zCi_of J zm_X8_own [some (.ref (w.2.2 o)), some (.int k)] (Nat.le_of_ble_eq_true rfl) rfl (fun g hg F X => ?_)
  subst hg
  refine z_iload_n F dX8_own_0 rfl ?_
  refine z_if_ne (tgt := 24) F dX8_own_1 (by decide) (fun h_1 => ?_) (fun h_1 => ?_)
  · try simp only [hh] at h_1
    refine z_aload_n F dX8_own_24 rfl ?_
    refine z_aload_n F dX8_own_25 rfl ?_
    refine zg_X8_now F (by with_reducible assumption) fl_X8_16 dX8_own_26 (fun hk_26 => ?_)
    refine z_iconst (v := 0) F dX8_own_29 (by decide) ?_
    refine z_iald10n (q := 0) F (by with_reducible assumption) (by decide) (by rw [hz3]; omega) dX8_own_30 ?_
    try simp only [hh]
    refine z_aload_n F dX8_own_31 rfl ?_
    refine zg_X8_now F (by with_reducible assumption) fl_X8_16 dX8_own_32 (fun hk_32 => ?_)
    refine z_iconst (v := 1) F dX8_own_35 (by decide) ?_
    refine z_iald10n (q := 1) F (by with_reducible assumption) (by decide) (by rw [hz3]; omega) dX8_own_36 ?_
    try simp only [hh]
    refine z_callVi F (c_X8_care J hk ho h10 kd) zm_X8_care zv_X8_care ml_X8_166 (by with_reducible assumption) (by decide) rfl rfl rfl (Nat.le_of_ble_eq_true rfl) dX8_own_37 (by omega) (fun r_37 M_37 h_37 => ?_)
    obtain ⟨e_37, rfl⟩ := h_37
    replace e_37 := Eq.symm e_37
    subst e_37
    refine z_iret F X dX8_own_40 ?_
    refine ⟨rfl, ?_⟩
    have e := hk01.resolve_left h_1
    subst e
    rw [timesF_1 rfl]
  · try simp only [hh] at h_1
    refine z_aload_n F dX8_own_4 rfl ?_
    refine z_aload_n F dX8_own_5 rfl ?_
    refine zg_X8_now F (by with_reducible assumption) fl_X8_16 dX8_own_6 (fun hk_6 => ?_)
    refine z_iconst (v := 0) F dX8_own_9 (by decide) ?_
    refine z_iald10n (q := 0) F (by with_reducible assumption) (by decide) (by rw [hz3]; omega) dX8_own_10 ?_
    try simp only [hh]
    refine z_aload_n F dX8_own_11 rfl ?_
    refine zg_X8_now F (by with_reducible assumption) fl_X8_16 dX8_own_12 (fun hk_12 => ?_)
    refine z_iconst (v := 1) F dX8_own_15 (by decide) ?_
    refine z_iald10n (q := 1) F (by with_reducible assumption) (by decide) (by rw [hz3]; omega) dX8_own_16 ?_
    try simp only [hh]
    refine z_iconst (v := 0) F dX8_own_17 (by decide) ?_
    refine z_callVi F (c_X8_feels J hk ho h10 kd) zm_X8_feels zv_X8_feels ml_X8_99 (by with_reducible assumption) (by decide) rfl rfl rfl (Nat.le_of_ble_eq_true rfl) dX8_own_18 (by omega) (fun r_18 M_18 h_18 => ?_)
    obtain ⟨e_18, rfl⟩ := h_18
    replace e_18 := Eq.symm e_18
    subst e_18
    refine z_goto (tgt := 40) F dX8_own_21 (by decide) ?_
    refine z_iret F X dX8_own_40 ?_
    refine ⟨rfl, ?_⟩
    subst h_1
    rw [timesF_0 (by decide), Int32.mul_one]
theorem wrt_n (th : zF1) {j : Nat} (h : j < 10) : wrt th (nI j) = th (4 * j + 1) := by unfold wrt; rw [if_neg (nI_pos (by omega)), nI_clamp (by omega)]
theorem c_X8_isGlad {l : Launch} {w : zE} (J : zJ w) {M : zM} {o h j : Nat} (hk : zk o = 8) (ho : o = 138) (hh : M.1 (o + 3) 0 = nI h) (h10 : h < 10) (hj : j < 10) (kd : kdOK (M.1 (o + 1))) (hm : M.1 (o + 3) 2 = 0 ∨ M.1 (o + 3) 2 = 1) : zCi l w yX8_isGlad cX8_isGlad 2 (some .boolean) 3 [.ref (w.2.2 o), .int (nI j)] M (fun r M2 => M2 = M ∧ r = bI (gladF (M.1 (o + 1)) (coinF (M.1 o 8) (M.1 (o + 3) 3)) (M.1 o 5) (M.1 (o + 3)) (nI j))) := by
  obtain ⟨hz1, hz2, hz3, hz4, hz5, hz6, hz7, hz8, hz9, hz10, hz11, hz12, hz13, hz14, hz15⟩ := zn8 ho
  have c1 : (M.1 (o + 3) 0).toNatClampNeg = h := by rw [hh]; exact nI_clamp (by omega)
  have c2 : (nI j).toNatClampNeg = j := nI_clamp (by omega)
  unfold gladF
  rw [c1, c2]
  refine zCi_of J zm_X8_isGlad [some (.ref (w.2.2 o)), some (.int (nI j))] (Nat.le_of_ble_eq_true rfl) rfl (fun g hg F X => ?_)
  subst hg
  refine z_aload_n F dX8_isGlad_0 rfl ?_
  refine z_aload_n F dX8_isGlad_1 rfl ?_
  refine zg_X8_now F (by with_reducible assumption) fl_X8_16 dX8_isGlad_2 (fun hk_2 => ?_)
  refine z_iconst (v := 2) F dX8_isGlad_5 (by decide) ?_
  refine z_iald10n (q := 2) F (by with_reducible assumption) (by decide) (by rw [hz3]; omega) dX8_isGlad_6 ?_
  try simp only [hh]
  refine z_callVi F (c_X8_own J hk ho hh h10 kd hm) zm_X8_own zv_X8_own ml_X8_170 (by with_reducible assumption) (by decide) rfl rfl rfl (Nat.le_of_ble_eq_true rfl) dX8_isGlad_7 (by omega) (fun r_7 M_7 h_7 => ?_)
  obtain ⟨e_7, rfl⟩ := h_7
  replace e_7 := Eq.symm e_7
  subst e_7
  refine z_aload_n F dX8_isGlad_10 rfl ?_
  refine z_iload_n F dX8_isGlad_11 rfl ?_
  refine z_iconst (v := 0) F dX8_isGlad_12 (by decide) ?_
  refine z_aload_n F dX8_isGlad_13 rfl ?_
  refine zg_X8_now F (by with_reducible assumption) fl_X8_16 dX8_isGlad_14 (fun hk_14 => ?_)
  refine z_iconst (v := 2) F dX8_isGlad_17 (by decide) ?_
  refine z_iald10n (q := 2) F (by with_reducible assumption) (by decide) (by rw [hz3]; omega) dX8_isGlad_18 ?_
  try simp only [hh]
  refine z_callVi F (c_X8_feels J hk ho hj kd) zm_X8_feels zv_X8_feels ml_X8_99 (by with_reducible assumption) (by decide) rfl rfl rfl (Nat.le_of_ble_eq_true rfl) dX8_isGlad_19 (by omega) (fun r_19 M_19 h_19 => ?_)
  obtain ⟨e_19, rfl⟩ := h_19
  replace e_19 := Eq.symm e_19
  subst e_19
  refine z_ic_le (tgt := 52) F dX8_isGlad_22 (by decide) (fun h_22 => ?_) (fun h_22 => ?_)
  · try simp only [hh] at h_22
    refine z_iconst (v := 0) F dX8_isGlad_52 (by decide) ?_
    refine z_zret F X dX8_isGlad_53 (by decide) ?_
    exact ⟨rfl, bI_f (fun q => absurd q.1 (Int32.not_lt.mpr h_22))⟩
  · try simp only [hh] at h_22
    refine z_aload_n F dX8_isGlad_25 rfl ?_
    refine z_aload_n F dX8_isGlad_26 rfl ?_
    refine zg_X8_now F (by with_reducible assumption) fl_X8_16 dX8_isGlad_27 (fun hk_27 => ?_)
    refine z_iconst (v := 0) F dX8_isGlad_30 (by decide) ?_
    refine z_iald10n (q := 0) F (by with_reducible assumption) (by decide) (by rw [hz3]; omega) dX8_isGlad_31 ?_
    try simp only [hh]
    refine z_callVi F (c_X8_worth J hk ho (nt := 10) (Or.inr ⟨h, h10, rfl⟩) (by omega)) zm_X8_worth zv_X8_worth ml_X8_173 (by with_reducible assumption) (by decide) rfl rfl rfl (Nat.le_of_ble_eq_true rfl) dX8_isGlad_32 (by omega) (fun r_32 M_32 h_32 => ?_)
    obtain ⟨e_32, rfl⟩ := h_32
    replace e_32 := Eq.symm e_32
    subst e_32
    refine z_aload_n F dX8_isGlad_35 rfl ?_
    refine z_iload_n F dX8_isGlad_36 rfl ?_
    refine z_callVi F (c_X8_worth J hk ho (nt := 10) (Or.inr ⟨j, hj, rfl⟩) (by omega)) zm_X8_worth zv_X8_worth ml_X8_173 (by with_reducible assumption) (by decide) rfl rfl rfl (Nat.le_of_ble_eq_true rfl) dX8_isGlad_37 (by omega) (fun r_37 M_37 h_37 => ?_)
    obtain ⟨e_37, rfl⟩ := h_37
    replace e_37 := Eq.symm e_37
    subst e_37
    rw [wrt_n _ h10, wrt_n _ hj]
    refine z_isub F dX8_isGlad_40 ?_
    refine z_aload_n F dX8_isGlad_41 rfl ?_
    refine zg_X8_heed F (by with_reducible assumption) fl_X8_60 dX8_isGlad_42 ?_
    try simp only [hh]
    refine z_ic_gt (tgt := 52) F dX8_isGlad_45 (by decide) (fun h_45 => ?_) (fun h_45 => ?_)
    · try simp only [hh] at h_45
      refine z_iconst (v := 0) F dX8_isGlad_52 (by decide) ?_
      refine z_zret F X dX8_isGlad_53 (by decide) ?_
      exact ⟨rfl, bI_f (fun q => absurd q.2 (Int32.not_le.mpr h_45))⟩
    · try simp only [hh] at h_45
      refine z_iconst (v := 1) F dX8_isGlad_48 (by decide) ?_
      refine z_goto (tgt := 53) F dX8_isGlad_49 (by decide) ?_
      refine z_zret F X dX8_isGlad_53 (by decide) ?_
      exact ⟨rfl, bI_t ⟨h_22, h_45⟩⟩
/-- one who has something asks him: at slot 5 + p -/
def askF (rb th : zF1) (mg c : Int32) (p : Nat) (s : zF1 × Int32) : zF1 × Int32 := if (0 ≤ s.1 0 ∧ s.1 0 < rb 0) ∧ (0 ≤ s.1 (5 + p) ∧ s.1 (5 + p) < rb 0) then (offT th mg (rb 2) c (5 + p) s.1, offR th mg (rb 2) c (5 + p) s.1 s.2) else s
theorem c_X8_asks {l : Launch} {w : zE} (J : zJ w) {M : zM} {o nt p : Nat} {mg : Int32} (hk : zk o = 8) (ho : o = 138) (hnt : M.1 o 0 = nI nt) (h10 : nt ≤ 10) (hp : p < 9) (kd : kdOK (M.1 (o + 1))) (tv : tv9 nt (M.1 (o + 3))) : zCv l w yX8_asks cX8_asks 4 4 [.ref (w.2.2 o), .int (nI p), .int mg] M (fun M2 => M2 = zr M o (askF (rbM (M.1 o)) (M.1 (o + 1)) mg (coinF (M.1 o 8) (M.1 (o + 3) 3)) p (M.1 (o + 3), M.1 o 18)).1 (askF (rbM (M.1 o)) (M.1 (o + 1)) mg (coinF (M.1 o 8) (M.1 (o + 3) 3)) p (M.1 (o + 3), M.1 o 18)).2) := by
  obtain ⟨hz1, hz2, hz3, hz4, hz5, hz6, hz7, hz8, hz9, hz10, hz11, hz12, hz13, hz14, hz15⟩ := zn8 ho
  obtain ⟨v0, v5, vm⟩ := id tv
  have vp := v5 p hp
  have e4 : ∀ a b c, (zs (zs (zs M (o + 3) (5 + p) a) (o + 3) 0 b) (o + 3) 1 c).1 (o + 3) 4 = M.1 (o + 3) 4 := fun a b c => by
    rw [zs_at, va_up_ne _ _ (by omega), zs_at, va_up_ne _ _ (by omega), zs_at, va_up_ne _ _ (by omega)]
  refine zCv_of J zm_X8_asks [some (.ref (w.2.2 o)), some (.int (nI p)), some (.int mg), none] (Nat.le_of_ble_eq_true rfl) rfl (fun g hg F X => ?_)
  subst hg
  have hno : ¬ ((0 ≤ M.1 (o + 3) 0 ∧ M.1 (o + 3) 0 < rbM (M.1 o) 0) ∧ (0 ≤ M.1 (o + 3) (5 + p) ∧ M.1 (o + 3) (5 + p) < rbM (M.1 o) 0)) → M = zr M o (askF (rbM (M.1 o)) (M.1 (o + 1)) mg (coinF (M.1 o 8) (M.1 (o + 3) 3)) p (M.1 (o + 3), M.1 o 18)).1 (askF (rbM (M.1 o)) (M.1 (o + 1)) mg (coinF (M.1 o 8) (M.1 (o + 3) 3)) p (M.1 (o + 3), M.1 o 18)).2 := fun q => by
    unfold askF
    rw [if_neg q]
    exact (zr_self M o).symm
  have e0 : rbM (M.1 o) 0 = nI nt := hnt
  rcases vx_in v0 h10 with ⟨a0, b0⟩ | ⟨h, hh, a0, b0⟩
  · refine z_aload_n F dX8_asks_0 rfl ?_
    refine zg_X8_now F (by with_reducible assumption) fl_X8_16 dX8_asks_1 (fun hk_1 => ?_)
    refine z_iconst (v := 5) F dX8_asks_4 (by decide) ?_
    refine z_iload_n F dX8_asks_5 rfl ?_
    refine z_iadd F dX8_asks_6 ?_
    refine z_iald10n (q := (5 + p)) F (by with_reducible assumption) (by first | with_reducible rfl | (simp only [n4, n2, n3, n5, n14, n16, na1, na2, na3, nI_add, nI_1, nI_pred]; done) | (simp only [n4, n2, n3, n5, n14, n16, na1, na2, na3, nI_add, nI_1, nI_pred, Nat.add_assoc, Nat.add_comm, Nat.add_left_comm]; done)) (by rw [hz3]; omega) dX8_asks_7 ?_
    try simp only [a0]
    refine z_istore_n (lv' := [_, _, _, _]) F dX8_asks_8 (by decide) rfl rfl ?_
    refine z_aload_n F dX8_asks_9 rfl ?_
    refine zg_X8_now F (by with_reducible assumption) fl_X8_16 dX8_asks_10 (fun hk_10 => ?_)
    refine z_iconst (v := 0) F dX8_asks_13 (by decide) ?_
    refine z_iald10n (q := 0) F (by with_reducible assumption) (by decide) (by rw [hz3]; omega) dX8_asks_14 ?_
    try simp only [a0]
    refine z_bipush (v := (-4)) F dX8_asks_15 (by decide) ?_
    refine z_ic_eq (tgt := 34) F dX8_asks_17 (by decide) (fun h_17 => ?_) (fun h_17 => absurd h_17 (not_not_intro rfl))
    refine z_vret F X dX8_asks_34 ?_
    refine hno (fun q => b0 ?_)
    rw [← e0]
    exact q.1
  rcases vx_in vp h10 with ⟨a1, b1⟩ | ⟨j, hj, a1, b1⟩
  · refine z_aload_n F dX8_asks_0 rfl ?_
    refine zg_X8_now F (by with_reducible assumption) fl_X8_16 dX8_asks_1 (fun hk_1 => ?_)
    refine z_iconst (v := 5) F dX8_asks_4 (by decide) ?_
    refine z_iload_n F dX8_asks_5 rfl ?_
    refine z_iadd F dX8_asks_6 ?_
    refine z_iald10n (q := (5 + p)) F (by with_reducible assumption) (by first | with_reducible rfl | (simp only [n4, n2, n3, n5, n14, n16, na1, na2, na3, nI_add, nI_1, nI_pred]; done) | (simp only [n4, n2, n3, n5, n14, n16, na1, na2, na3, nI_add, nI_1, nI_pred, Nat.add_assoc, Nat.add_comm, Nat.add_left_comm]; done)) (by rw [hz3]; omega) dX8_asks_7 ?_
    try simp only [a0, a1]
    refine z_istore_n (lv' := [_, _, _, _]) F dX8_asks_8 (by decide) rfl rfl ?_
    refine z_aload_n F dX8_asks_9 rfl ?_
    refine zg_X8_now F (by with_reducible assumption) fl_X8_16 dX8_asks_10 (fun hk_10 => ?_)
    refine z_iconst (v := 0) F dX8_asks_13 (by decide) ?_
    refine z_iald10n (q := 0) F (by with_reducible assumption) (by decide) (by rw [hz3]; omega) dX8_asks_14 ?_
    try simp only [a0, a1]
    refine z_bipush (v := (-4)) F dX8_asks_15 (by decide) ?_
    refine z_ic_eq (tgt := 34) F dX8_asks_17 (by decide) (fun h_17 => absurd h_17 (by rw [← a0]; intro e; rw [e] at b0; exact absurd b0.1 (by decide))) (fun h_17 => ?_)
    refine z_iload_n F dX8_asks_20 rfl ?_
    refine z_bipush (v := (-4)) F dX8_asks_21 (by decide) ?_
    refine z_ic_eq (tgt := 34) F dX8_asks_23 (by decide) (fun h_23 => ?_) (fun h_23 => absurd h_23 (not_not_intro rfl))
    refine z_vret F X dX8_asks_34 ?_
    refine hno (fun q => b1 ?_)
    rw [← e0]
    exact q.2
  have hyes : ∀ X2 : zF1 × Int32, (if gladF (M.1 (o + 1)) (coinF (M.1 o 8) (M.1 (o + 3) 3)) (M.1 o 5) (M.1 (o + 3)) (nI j) then (if willF (M.1 (o + 1)) mg (M.1 (o + 3)) (nI j) then (va_up (va_up (va_up (va_up (M.1 (o + 3)) (5 + p) (M.1 (o + 3) 0)) 0 (nI j)) 1 0) 4 (M.1 (o + 3) 4 + 1), M.1 o 18) else (M.1 (o + 3), if M.1 o 18 = -4 then M.1 (o + 3) 3 else M.1 o 18)) else (M.1 (o + 3), M.1 o 18)) = X2 → askF (rbM (M.1 o)) (M.1 (o + 1)) mg (coinF (M.1 o 8) (M.1 (o + 3) 3)) p (M.1 (o + 3), M.1 o 18) = X2 := by
    intro X2 hX
    rw [← hX]
    unfold askF
    rw [e0, if_pos ⟨b0, b1⟩]
    unfold offT offR
    rw [show (M.1 (o + 3), M.1 o 18).1 (5 + p) = nI j from a1]
    show ((if gladF (M.1 (o + 1)) (coinF (M.1 o 8) (M.1 (o + 3) 3)) (M.1 o 5) (M.1 (o + 3)) (nI j) then (if willF (M.1 (o + 1)) mg (M.1 (o + 3)) (nI j) then _ else _) else _), (if gladF (M.1 (o + 1)) (coinF (M.1 o 8) (M.1 (o + 3) 3)) (M.1 o 5) (M.1 (o + 3)) (nI j) then (if willF (M.1 (o + 1)) mg (M.1 (o + 3)) (nI j) then _ else _) else _)) = _
    split
    · split <;> rfl
    · rfl
  have hn4 : ¬ (nI h = -4) := (by decide : ∀ h, h < 10 → ¬ nI h = -4) h (by omega)
  have hn5 : ¬ (nI j = -4) := (by decide : ∀ h, h < 10 → ¬ nI h = -4) j (by omega)
  have cw : willF (M.1 (o + 1)) mg (M.1 (o + 3)) (nI j) ↔ M.1 (o + 1) (4 * j + 1) + mg ≤ M.1 (o + 1) (4 * h + 1) := by
    unfold willF
    rw [a0, nI_clamp (by omega), nI_clamp (by omega)]
  refine z_aload_n F dX8_asks_0 rfl ?_
  refine zg_X8_now F (by with_reducible assumption) fl_X8_16 dX8_asks_1 (fun hk_1 => ?_)
  refine z_iconst (v := 5) F dX8_asks_4 (by decide) ?_
  refine z_iload_n F dX8_asks_5 rfl ?_
  refine z_iadd F dX8_asks_6 ?_
  refine z_iald10n (q := (5 + p)) F (by with_reducible assumption) (by first | with_reducible rfl | (simp only [n4, n2, n3, n5, n14, n16, na1, na2, na3, nI_add, nI_1, nI_pred]; done) | (simp only [n4, n2, n3, n5, n14, n16, na1, na2, na3, nI_add, nI_1, nI_pred, Nat.add_assoc, Nat.add_comm, Nat.add_left_comm]; done)) (by rw [hz3]; omega) dX8_asks_7 ?_
  try simp only [a1]
  refine z_istore_n (lv' := [_, _, _, _]) F dX8_asks_8 (by decide) rfl rfl ?_
  refine z_aload_n F dX8_asks_9 rfl ?_
  refine zg_X8_now F (by with_reducible assumption) fl_X8_16 dX8_asks_10 (fun hk_10 => ?_)
  refine z_iconst (v := 0) F dX8_asks_13 (by decide) ?_
  refine z_iald10n (q := 0) F (by with_reducible assumption) (by decide) (by rw [hz3]; omega) dX8_asks_14 ?_
  try simp only [a1]
  refine z_bipush (v := (-4)) F dX8_asks_15 (by decide) ?_
  refine z_ic_eq (tgt := 34) F dX8_asks_17 (by decide) (fun h_17 => absurd h_17 (by rw [a0]; exact hn4)) (fun h_17 => ?_)
  refine z_iload_n F dX8_asks_20 rfl ?_
  refine z_bipush (v := (-4)) F dX8_asks_21 (by decide) ?_
  refine z_ic_eq (tgt := 34) F dX8_asks_23 (by decide) (fun h_23 => absurd h_23 hn5) (fun h_23 => ?_)
  refine z_aload_n F dX8_asks_26 rfl ?_
  refine z_iload_n F dX8_asks_27 rfl ?_
  refine z_callVi F (c_X8_isGlad J hk ho a0 (by omega) (by omega) kd vm) zm_X8_isGlad zv_X8_isGlad ml_X8_176 (by with_reducible assumption) (by decide) rfl rfl rfl (Nat.le_of_ble_eq_true rfl) dX8_asks_28 (by omega) (fun r_28 M_28 h_28 => ?_)
  obtain ⟨e_28, rfl⟩ := h_28
  replace e_28 := Eq.symm e_28
  subst e_28
  refine z_if_ne (tgt := 35) F dX8_asks_31 (by decide) (fun h_31 => ?_) (fun h_31 => ?_)
  · replace h_31 := bI_1.mp h_31
    try simp only [a1] at h_31
    refine z_aload_n F dX8_asks_35 rfl ?_
    refine z_aload_n F dX8_asks_36 rfl ?_
    refine zg_X8_now F (by with_reducible assumption) fl_X8_16 dX8_asks_37 (fun hk_37 => ?_)
    refine z_iconst (v := 0) F dX8_asks_40 (by decide) ?_
    refine z_iald10n (q := 0) F (by with_reducible assumption) (by decide) (by rw [hz3]; omega) dX8_asks_41 ?_
    try simp only [a1]
    refine z_callVi F (c_X8_worth J hk ho v0 h10) zm_X8_worth zv_X8_worth ml_X8_173 (by with_reducible assumption) (by decide) rfl rfl rfl (Nat.le_of_ble_eq_true rfl) dX8_asks_42 (by omega) (fun r_42 M_42 h_42 => ?_)
    obtain ⟨e_42, rfl⟩ := h_42
    replace e_42 := Eq.symm e_42
    subst e_42
    refine z_aload_n F dX8_asks_45 rfl ?_
    refine z_iload_n F dX8_asks_46 rfl ?_
    refine z_callVi F (c_X8_worth J hk ho (Or.inr ⟨j, hj, rfl⟩) h10) zm_X8_worth zv_X8_worth ml_X8_173 (by with_reducible assumption) (by decide) rfl rfl rfl (Nat.le_of_ble_eq_true rfl) dX8_asks_47 (by omega) (fun r_47 M_47 h_47 => ?_)
    obtain ⟨e_47, rfl⟩ := h_47
    replace e_47 := Eq.symm e_47
    subst e_47
    refine z_iload_n F dX8_asks_50 rfl ?_
    refine z_iadd F dX8_asks_51 ?_
    rw [a0, wrt_n _ (by omega), wrt_n _ (by omega)]
    refine z_ic_lt (tgt := 96) F dX8_asks_52 (by decide) (fun h_52 => ?_) (fun h_52 => ?_)
    · try simp only [a1] at h_52
      refine z_aload_n F dX8_asks_96 rfl ?_
      refine z_aload_n F dX8_asks_97 rfl ?_
      refine zg_X8_refused F (by with_reducible assumption) fl_X8_179 dX8_asks_98 ?_
      try simp only [a1]
      refine z_bipush (v := (-4)) F dX8_asks_101 (by decide) ?_
      refine z_ic_ne (tgt := 115) F dX8_asks_103 (by decide) (fun h_103 => ?_) (fun h_103 => ?_)
      · try simp only [a1] at h_103
        refine z_aload_n F dX8_asks_115 rfl ?_
        refine zg_X8_refused F (by with_reducible assumption) fl_X8_179 dX8_asks_116 ?_
        try simp only [a1]
        refine zp_X8_refused F (by with_reducible assumption) fl_X8_179 dX8_asks_119 ?_
        refine z_vret F X dX8_asks_122 ?_
        rw [hyes _ (by rw [if_pos h_31, if_neg (fun q => absurd (cw.mp q) (Int32.not_le.mpr h_52)), if_neg h_103])]
        have q := zs_zro M o (M.1 (o + 3)) (M.1 o 18) (M.1 o 18)
        rw [zr_self] at q
        exact q.trans (zr_self M o).symm
      · try simp only [a1] at h_103
        refine z_aload_n F dX8_asks_106 rfl ?_
        refine zg_X8_now F (by with_reducible assumption) fl_X8_16 dX8_asks_107 (fun hk_107 => ?_)
        refine z_iconst (v := 3) F dX8_asks_110 (by decide) ?_
        refine z_iald10n (q := 3) F (by with_reducible assumption) (by decide) (by rw [hz3]; omega) dX8_asks_111 ?_
        try simp only [a1]
        refine z_goto (tgt := 119) F dX8_asks_112 (by decide) ?_
        refine zp_X8_refused F (by with_reducible assumption) fl_X8_179 dX8_asks_119 ?_
        refine z_vret F X dX8_asks_122 ?_
        rw [hyes _ (by rw [if_pos h_31, if_neg (fun q => absurd (cw.mp q) (Int32.not_le.mpr h_52)), if_pos h_103])]
        have q := zs_zro M o (M.1 (o + 3)) (M.1 o 18) (M.1 (o + 3) 3)
        rw [zr_self] at q
        exact q
    · try simp only [a1] at h_52
      refine z_aload_n F dX8_asks_55 rfl ?_
      refine zg_X8_now F (by with_reducible assumption) fl_X8_16 dX8_asks_56 (fun hk_56 => ?_)
      refine z_iconst (v := 5) F dX8_asks_59 (by decide) ?_
      refine z_iload_n F dX8_asks_60 rfl ?_
      refine z_iadd F dX8_asks_61 ?_
      refine z_aload_n F dX8_asks_62 rfl ?_
      refine zg_X8_now F (by with_reducible assumption) fl_X8_16 dX8_asks_63 (fun hk_63 => ?_)
      refine z_iconst (v := 0) F dX8_asks_66 (by decide) ?_
      refine z_iald10n (q := 0) F (by with_reducible assumption) (by decide) (by rw [hz3]; omega) dX8_asks_67 ?_
      try simp only [a1]
      refine z_iast10n (q := (5 + p)) F (by with_reducible assumption) (by first | with_reducible rfl | (simp only [n4, n2, n3, n5, n14, n16, na1, na2, na3, nI_add, nI_1, nI_pred]; done) | (simp only [n4, n2, n3, n5, n14, n16, na1, na2, na3, nI_add, nI_1, nI_pred, Nat.add_assoc, Nat.add_comm, Nat.add_left_comm]; done)) (by rw [hz3]; omega) dX8_asks_68 ?_
      refine z_aload_n F dX8_asks_69 rfl ?_
      refine zg_X8_now F (by with_reducible assumption) fl_X8_16 dX8_asks_70 (fun hk_70 => ?_)
      refine z_iconst (v := 0) F dX8_asks_73 (by decide) ?_
      refine z_iload_n F dX8_asks_74 rfl ?_
      refine z_iast10n (q := 0) F (by with_reducible assumption) (by decide) (by rw [hz3]; omega) dX8_asks_75 ?_
      refine z_aload_n F dX8_asks_76 rfl ?_
      refine zg_X8_now F (by with_reducible assumption) fl_X8_16 dX8_asks_77 (fun hk_77 => ?_)
      refine z_iconst (v := 1) F dX8_asks_80 (by decide) ?_
      refine z_iconst (v := 0) F dX8_asks_81 (by decide) ?_
      refine z_iast10n (q := 1) F (by with_reducible assumption) (by decide) (by rw [hz3]; omega) dX8_asks_82 ?_
      refine z_aload_n F dX8_asks_83 rfl ?_
      refine zg_X8_now F (by with_reducible assumption) fl_X8_16 dX8_asks_84 (fun hk_84 => ?_)
      refine z_iconst (v := 4) F dX8_asks_87 (by decide) ?_
      refine z_dup2 F dX8_asks_88 rfl rfl ?_
      refine z_iald10n (q := 4) F (by with_reducible assumption) (by decide) (by rw [hz3]; omega) dX8_asks_89 ?_
      simp only [e4]
      refine z_iconst (v := 1) F dX8_asks_90 (by decide) ?_
      refine z_iadd F dX8_asks_91 ?_
      refine z_iast10n (q := 4) F (by with_reducible assumption) (by decide) (by rw [hz3]; omega) dX8_asks_92 ?_
      refine z_goto (tgt := 122) F dX8_asks_93 (by decide) ?_
      refine z_vret F X dX8_asks_122 ?_
      rw [hyes _ (by rw [if_pos h_31, if_pos (cw.mpr h_52)])]
      show _ = zr M o _ (M.1 o 18)
      rw [← za_zr]
      simp only [zs_za, za_at, za_za]
  · replace h_31 := bI_0.mp h_31
    try simp only [a1] at h_31
    refine z_vret F X dX8_asks_34 ?_
    rw [hyes (M.1 (o + 3), M.1 o 18) (if_neg h_31)]
    exact (zr_self M o).symm
