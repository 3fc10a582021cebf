/-! the reference's sheets and image in general, and the rest of its methods where nothing is told yet -/
theorem zy_zya (M : zM) (b : Nat) (f : Nat → Int64) (o : Nat) (v : Int64) : zy (zya M b f) b o v = zya M b (va_up f o v) := by
  unfold zy zya
  simp only [va_up_self, bx_uu]
theorem zya_self (M : zM) (b : Nat) : zya M b (M.2 b) = M := by
  unfold zya
  rw [va_up_id]
theorem zs_zaa (M : zM) (b : Nat) (f : zF1) (o : Nat) (v : Int32) : zs (za M b f) b o v = za M b (va_up f o v) := by rw [zs_za, za_at, za_za]
theorem s4_in {x : Int32} (h : ¬ (x < 0 ∨ 3 < x)) : ∃ j, j < 4 ∧ x = nI j := by
  obtain ⟨j, hj, rfl⟩ := nI_of2 (M := 3) (n := 3) (by decide) (fun q => h (Or.inl q)) (Int32.not_lt.mp fun q => h (Or.inr q))
  exact ⟨j, by omega, rfl⟩
def whyF (a b ln i n : Int32) : Int32 := if a < 0 then -11 else if ¬ a = ln then -12 else if i < 0 ∨ b.toInt64 < i.toInt64 + n.toInt64 then -13 else 0
theorem c_X8_why {l : Launch} {w : zE} (J : zJ w) {M : zM} {o j : Nat} {ln i n : Int32} (hk : zk o = 8) (ho : o = 138) (hj : j < 4) : zCi l w yX8_why cX8_why 5 (some .int) 0 [.ref (w.2.2 o), .int (nI j), .int ln, .int i, .int n] M (fun r M2 => M2 = M ∧ r = whyF (M.1 (o + 12) j) (M.1 (o + 13) j) ln i n) := by
  obtain ⟨hz1, hz2, hz3, hz4, hz5, hz6, hz7, hz8, hz9, hz10, hz11, hz12, hz13, hz14, hz15⟩ := zn8 ho
  refine zCi_of J zm_X8_why [some (.ref (w.2.2 o)), some (.int (nI j)), some (.int ln), some (.int i), some (.int n)] (Nat.le_of_ble_eq_true rfl) rfl (fun g hg F X => ?_)
  subst hg
  refine z_aload_n F dX8_why_0 rfl ?_
  refine zg_X8_lanes F (by with_reducible assumption) fl_X8_43 dX8_why_1 (fun hk_1 => ?_)
  refine z_iload_n F dX8_why_4 rfl ?_
  refine z_iald10n (q := j) F (by with_reducible assumption) (by first | with_reducible rfl | (simp only [n4, n2, n3, n5, n14, n16, na1, na2, na3, nI_add, nI_1, nI_pred]; done) | (simp only [n4, n2, n3, n5, n14, n16, na1, na2, na3, nI_add, nI_1, nI_pred, Nat.add_assoc, Nat.add_comm, Nat.add_left_comm]; done)) (by rw [hz12]; omega) dX8_why_5 ?_
  try simp only [lg_cmp_le, lg_cmp_gt]
  refine z_if_ge (tgt := 12) F dX8_why_6 (by decide) (fun h_6 => ?_) (fun h_6 => ?_)
  · try simp only [lg_cmp_le, lg_cmp_gt] at h_6
    refine z_aload_n F dX8_why_12 rfl ?_
    refine zg_X8_lanes F (by with_reducible assumption) fl_X8_43 dX8_why_13 (fun hk_13 => ?_)
    refine z_iload_n F dX8_why_16 rfl ?_
    refine z_iald10n (q := j) F (by with_reducible assumption) (by first | with_reducible rfl | (simp only [n4, n2, n3, n5, n14, n16, na1, na2, na3, nI_add, nI_1, nI_pred]; done) | (simp only [n4, n2, n3, n5, n14, n16, na1, na2, na3, nI_add, nI_1, nI_pred, Nat.add_assoc, Nat.add_comm, Nat.add_left_comm]; done)) (by rw [hz12]; omega) dX8_why_17 ?_
    try simp only [lg_cmp_le, lg_cmp_gt]
    refine z_iload_n F dX8_why_18 rfl ?_
    refine z_ic_eq (tgt := 25) F dX8_why_19 (by decide) (fun h_19 => ?_) (fun h_19 => ?_)
    · try simp only [lg_cmp_le, lg_cmp_gt] at h_19
      refine z_iload_n F dX8_why_25 rfl ?_
      refine z_if_lt (tgt := 46) F dX8_why_26 (by decide) (fun h_26 => ?_) (fun h_26 => ?_)
      · try simp only [lg_cmp_le, lg_cmp_gt] at h_26
        refine z_bipush (v := (-13)) F dX8_why_46 (by decide) ?_
        refine z_goto (tgt := 52) F dX8_why_48 (by decide) ?_
        refine z_iret F X dX8_why_52 ?_
        refine ⟨rfl, ?_⟩
        unfold whyF
        rw [if_neg (nlt h_6), if_neg (fun q => q h_19), if_pos (Or.inl h_26)]
      · try simp only [lg_cmp_le, lg_cmp_gt] at h_26
        refine z_iload_n F dX8_why_29 rfl ?_
        refine z_i2l F dX8_why_30 ?_
        refine z_iload F dX8_why_31 rfl ?_
        refine z_i2l F dX8_why_33 ?_
        refine z_ladd F dX8_why_34 ?_
        refine z_aload_n F dX8_why_35 rfl ?_
        refine zg_X8_sizes F (by with_reducible assumption) fl_X8_46 dX8_why_36 (fun hk_36 => ?_)
        refine z_iload_n F dX8_why_39 rfl ?_
        refine z_iald10n (q := j) F (by with_reducible assumption) (by first | with_reducible rfl | (simp only [n4, n2, n3, n5, n14, n16, na1, na2, na3, nI_add, nI_1, nI_pred]; done) | (simp only [n4, n2, n3, n5, n14, n16, na1, na2, na3, nI_add, nI_1, nI_pred, Nat.add_assoc, Nat.add_comm, Nat.add_left_comm]; done)) (by rw [hz13]; omega) dX8_why_40 ?_
        try simp only [lg_cmp_le, lg_cmp_gt]
        refine z_i2l F dX8_why_41 ?_
        refine z_lcmp F dX8_why_42 ?_
        refine z_if_le (tgt := 51) F dX8_why_43 (by decide) (fun h_43 => ?_) (fun h_43 => ?_)
        · try simp only [lg_cmp_le, lg_cmp_gt] at h_43
          refine z_iconst (v := 0) F dX8_why_51 (by decide) ?_
          refine z_iret F X dX8_why_52 ?_
          refine ⟨rfl, ?_⟩
          unfold whyF
          rw [if_neg (nlt h_6), if_neg (fun q => q h_19), if_neg (fun q => q.elim (nlt h_26) (Int64.not_lt.mpr h_43))]
        · try simp only [lg_cmp_le, lg_cmp_gt] at h_43
          refine z_bipush (v := (-13)) F dX8_why_46 (by decide) ?_
          refine z_goto (tgt := 52) F dX8_why_48 (by decide) ?_
          refine z_iret F X dX8_why_52 ?_
          refine ⟨rfl, ?_⟩
          unfold whyF
          rw [if_neg (nlt h_6), if_neg (fun q => q h_19), if_pos (Or.inr h_43)]
    · try simp only [lg_cmp_le, lg_cmp_gt] at h_19
      refine z_bipush (v := (-12)) F dX8_why_22 (by decide) ?_
      refine z_iret F X dX8_why_24 ?_
      refine ⟨rfl, ?_⟩
      unfold whyF
      rw [if_neg (nlt h_6), if_pos h_19]
  · try simp only [lg_cmp_le, lg_cmp_gt] at h_6
    refine z_bipush (v := (-11)) F dX8_why_9 (by decide) ?_
    refine z_iret F X dX8_why_11 ?_
    refine ⟨rfl, ?_⟩
    unfold whyF
    rw [if_pos h_6]
theorem c_X8_drop {l : Launch} {w : zE} (J : zJ w) {M : zM} {o : Nat} {x : Int32} (hk : zk o = 8) (ho : o = 138) : zCi l w yX8_drop cX8_drop 2 (some .int) 2 [.ref (w.2.2 o), .int x] M (fun r M2 => ((x < 0 ∨ 3 < x) ∧ r = -1 ∧ M2 = M) ∨ ∃ j, j < 4 ∧ x = nI j ∧ ((M.1 (o + 12) j < 0 ∧ r = -11 ∧ M2 = M) ∨ (¬ M.1 (o + 12) j < 0 ∧ r = M.1 (o + 13) j ∧ M2 = zs M (o + 12) j (-1)))) := by
  obtain ⟨hz1, hz2, hz3, hz4, hz5, hz6, hz7, hz8, hz9, hz10, hz11, hz12, hz13, hz14, hz15⟩ := zn8 ho
  refine zCi_of J zm_X8_drop [some (.ref (w.2.2 o)), some (.int x)] (Nat.le_of_ble_eq_true rfl) rfl (fun g hg F X => ?_)
  subst hg
  refine z_iload_n F dX8_drop_0 rfl ?_
  refine z_callSi F (c_X8_isSheet J) zm_X8_isSheet zst_X8_isSheet ml_X8_227 rfl rfl (Nat.le_of_ble_eq_true rfl) dX8_drop_1 (by omega) (fun r_1 M_1 h_1 => ?_)
  obtain ⟨e_1, rfl⟩ := h_1
  replace e_1 := Eq.symm e_1
  subst e_1
  refine z_if_ne (tgt := 9) F dX8_drop_4 (by decide) (fun h_4 => ?_) (fun h_4 => ?_)
  · replace h_4 := bI_1.mp h_4
    obtain ⟨j, hj, rfl⟩ := s4_in h_4
    refine z_aload_n F dX8_drop_9 rfl ?_
    refine zg_X8_lanes F (by with_reducible assumption) fl_X8_43 dX8_drop_10 (fun hk_10 => ?_)
    refine z_iload_n F dX8_drop_13 rfl ?_
    refine z_iald10n (q := j) F (by with_reducible assumption) (by first | with_reducible rfl | (simp only [n4, n2, n3, n5, n14, n16, na1, na2, na3, nI_add, nI_1, nI_pred]; done) | (simp only [n4, n2, n3, n5, n14, n16, na1, na2, na3, nI_add, nI_1, nI_pred, Nat.add_assoc, Nat.add_comm, Nat.add_left_comm]; done)) (by rw [hz12]; omega) dX8_drop_14 ?_
    refine z_if_ge (tgt := 21) F dX8_drop_15 (by decide) (fun h_15 => ?_) (fun h_15 => ?_)
    · refine z_aload_n F dX8_drop_21 rfl ?_
      refine zg_X8_lanes F (by with_reducible assumption) fl_X8_43 dX8_drop_22 (fun hk_22 => ?_)
      refine z_iload_n F dX8_drop_25 rfl ?_
      refine z_iconst (v := (-1)) F dX8_drop_26 (by decide) ?_
      refine z_iast10n (q := j) F (by with_reducible assumption) (by first | with_reducible rfl | (simp only [n4, n2, n3, n5, n14, n16, na1, na2, na3, nI_add, nI_1, nI_pred]; done) | (simp only [n4, n2, n3, n5, n14, n16, na1, na2, na3, nI_add, nI_1, nI_pred, Nat.add_assoc, Nat.add_comm, Nat.add_left_comm]; done)) (by rw [hz12]; omega) dX8_drop_27 ?_
      refine z_aload_n F dX8_drop_28 rfl ?_
      refine zg_X8_sizes F (by with_reducible assumption) fl_X8_46 dX8_drop_29 (fun hk_29 => ?_)
      refine z_iload_n F dX8_drop_32 rfl ?_
      refine z_iald10n (q := j) F (by with_reducible assumption) (by first | with_reducible rfl | (simp only [n4, n2, n3, n5, n14, n16, na1, na2, na3, nI_add, nI_1, nI_pred]; done) | (simp only [n4, n2, n3, n5, n14, n16, na1, na2, na3, nI_add, nI_1, nI_pred, Nat.add_assoc, Nat.add_comm, Nat.add_left_comm]; done)) (by rw [hz13]; omega) dX8_drop_33 ?_
      refine z_iret F X dX8_drop_34 ?_
      exact Or.inr ⟨j, hj, rfl, Or.inr ⟨nlt h_15, by rw [zs_off _ (by omega)], rfl⟩⟩
    · refine z_bipush (v := (-11)) F dX8_drop_18 (by decide) ?_
      refine z_iret F X dX8_drop_20 ?_
      exact Or.inr ⟨j, hj, rfl, Or.inl ⟨h_15, rfl, rfl⟩⟩
  · replace h_4 := bI_0.mp h_4
    refine z_iconst (v := (-1)) F dX8_drop_7 (by decide) ?_
    refine z_iret F X dX8_drop_8 ?_
    exact Or.inl ⟨Classical.not_not.mp h_4, rfl, rfl⟩
def zeL (f : Nat → Int64) (b : Nat) : Nat → Nat → Int64
  | 0 => f
  | k + 1 => va_up (zeL f b k) (b + k) 0
theorem c_X8_sheet {l : Launch} {w : zE} (J : zJ w) {M : zM} {o : Nat} {x ln n : Int32} (hk : zk o = 8) (ho : o = 138) : zCi l w yX8_sheet cX8_sheet 5 (some .int) 2 [.ref (w.2.2 o), .int x, .int ln, .int n] M (fun r M2 => (((x < 0 ∨ 3 < x) ∨ (ln < 0 ∨ 3 < ln) ∨ 16 < n) ∧ r = -1 ∧ M2 = M) ∨ (¬ ((x < 0 ∨ 3 < x) ∨ (ln < 0 ∨ 3 < ln) ∨ 16 < n) ∧ ((n < 0 ∧ r = -14 ∧ M2 = M) ∨ ∃ j, j < 4 ∧ x = nI j ∧ ¬ n < 0 ∧ r = n ∧ M2 = zya (zs (zs M (o + 12) j ln) (o + 13) j n) (o + 14) (zeL (M.2 (o + 14)) (16 * j) 16)))) := by
  obtain ⟨hz1, hz2, hz3, hz4, hz5, hz6, hz7, hz8, hz9, hz10, hz11, hz12, hz13, hz14, hz15⟩ := zn8 ho
  refine zCi_of J zm_X8_sheet [some (.ref (w.2.2 o)), some (.int x), some (.int ln), some (.int n), none] (Nat.le_of_ble_eq_true rfl) rfl (fun g hg F X => ?_)
  subst hg
  have key : ∀ (j : Nat), j < 4 → x = nI j → ¬ ((x < 0 ∨ 3 < x) ∨ (ln < 0 ∨ 3 < ln) ∨ 16 < n) → ¬ n < 0 → ∀ (r k : Nat), k + r = 16 → ZW w g 5 46 [some (.ref (w.2.2 o)), some (.int (nI j)), some (.int ln), some (.int n), some (.int (nI k))] [] (zya (zs (zs M (o + 12) j ln) (o + 13) j n) (o + 14) (zeL (M.2 (o + 14)) (16 * j) k)) := by
    intro j hj hx hb hn r
    induction r with
    | zero =>
      intro k hkr
      obtain rfl : k = 16 := by omega
      refine z_iload F dX8_sheet_46 rfl ?_
      refine z_bipush (v := 16) F dX8_sheet_48 (by decide) ?_
      refine z_ic_ge (tgt := 72) F dX8_sheet_50 (by decide) (fun h_50 => ?_) (fun h_50 => absurd h_50 (by decide))
      refine z_iload_n F dX8_sheet_72 rfl ?_
      refine z_iret F X dX8_sheet_73 ?_
      exact Or.inr ⟨hb, Or.inr ⟨j, hj, hx, hn, rfl, rfl⟩⟩
    | succ r ih =>
      intro k hkr
      refine z_iload F dX8_sheet_46 rfl ?_
      refine z_bipush (v := 16) F dX8_sheet_48 (by decide) ?_
      refine z_ic_ge (tgt := 72) F dX8_sheet_50 (by decide) (fun h_50 => absurd h_50 (nI_ge (b := 16) (by omega) (by decide))) (fun h_50 => ?_)
      refine z_aload_n F dX8_sheet_53 rfl ?_
      refine zg_X8_items F (by with_reducible assumption) fl_X8_49 dX8_sheet_54 (fun hk_54 => ?_)
      refine z_bipush (v := 16) F dX8_sheet_57 (by decide) ?_
      refine z_iload_n F dX8_sheet_59 rfl ?_
      refine z_imul F dX8_sheet_60 ?_
      refine z_iload F dX8_sheet_61 rfl ?_
      refine z_iadd F dX8_sheet_63 ?_
      refine z_lconst (v := 0) F dX8_sheet_64 (by decide) ?_
      refine z_last14n (q := ((16 * j) + k)) F (by with_reducible assumption) (by first | with_reducible rfl | (simp only [n4, n2, n3, n5, n14, n16, na1, na2, na3, nI_add, nI_1, nI_pred]; done) | (simp only [n4, n2, n3, n5, n14, n16, na1, na2, na3, nI_add, nI_1, nI_pred, Nat.add_assoc, Nat.add_comm, Nat.add_left_comm]; done)) (by rw [hz14]; omega) dX8_sheet_65 ?_
      refine z_iincc (c := 1) (lv' := [_, _, _, _, _]) F dX8_sheet_66 rfl (by decide) (by decide) rfl rfl ?_
      refine z_goto (tgt := 46) F dX8_sheet_69 (by decide) ?_
      rw [nI_1]
      rw [zy_zya]
      exact ih (k + 1) (by omega)
  refine z_iload_n F dX8_sheet_0 rfl ?_
  refine z_callSi F (c_X8_isSheet J) zm_X8_isSheet zst_X8_isSheet ml_X8_227 rfl rfl (Nat.le_of_ble_eq_true rfl) dX8_sheet_1 (by omega) (fun r_1 M_1 h_1 => ?_)
  obtain ⟨e_1, rfl⟩ := h_1
  replace e_1 := Eq.symm e_1
  subst e_1
  refine z_if_eq (tgt := 20) F dX8_sheet_4 (by decide) (fun h_4 => ?_) (fun h_4 => ?_)
  · replace h_4 := bI_0.mp h_4
    refine z_iconst (v := (-1)) F dX8_sheet_20 (by decide) ?_
    refine z_iret F X dX8_sheet_21 ?_
    exact Or.inl ⟨Or.inl (Classical.not_not.mp h_4), rfl, rfl⟩
  · replace h_4 := bI_1.mp h_4
    refine z_iload_n F dX8_sheet_7 rfl ?_
    refine z_callSi F (c_X8_isLane J) zm_X8_isLane zst_X8_isLane ml_X8_230 rfl rfl (Nat.le_of_ble_eq_true rfl) dX8_sheet_8 (by omega) (fun r_8 M_8 h_8 => ?_)
    obtain ⟨e_8, rfl⟩ := h_8
    replace e_8 := Eq.symm e_8
    subst e_8
    refine z_if_eq (tgt := 20) F dX8_sheet_11 (by decide) (fun h_11 => ?_) (fun h_11 => ?_)
    · replace h_11 := bI_0.mp h_11
      refine z_iconst (v := (-1)) F dX8_sheet_20 (by decide) ?_
      refine z_iret F X dX8_sheet_21 ?_
      exact Or.inl ⟨Or.inr (Or.inl (Classical.not_not.mp h_11)), rfl, rfl⟩
    · replace h_11 := bI_1.mp h_11
      refine z_iload_n F dX8_sheet_14 rfl ?_
      refine z_bipush (v := 16) F dX8_sheet_15 (by decide) ?_
      refine z_ic_le (tgt := 22) F dX8_sheet_17 (by decide) (fun h_17 => ?_) (fun h_17 => ?_)
      · refine z_iload_n F dX8_sheet_22 rfl ?_
        refine z_if_ge (tgt := 29) F dX8_sheet_23 (by decide) (fun h_23 => ?_) (fun h_23 => ?_)
        · obtain ⟨j, hj, rfl⟩ := s4_in h_4
          refine z_aload_n F dX8_sheet_29 rfl ?_
          refine zg_X8_lanes F (by with_reducible assumption) fl_X8_43 dX8_sheet_30 (fun hk_30 => ?_)
          refine z_iload_n F dX8_sheet_33 rfl ?_
          refine z_iload_n F dX8_sheet_34 rfl ?_
          refine z_iast10n (q := j) F (by with_reducible assumption) (by first | with_reducible rfl | (simp only [n4, n2, n3, n5, n14, n16, na1, na2, na3, nI_add, nI_1, nI_pred]; done) | (simp only [n4, n2, n3, n5, n14, n16, na1, na2, na3, nI_add, nI_1, nI_pred, Nat.add_assoc, Nat.add_comm, Nat.add_left_comm]; done)) (by rw [hz12]; omega) dX8_sheet_35 ?_
          refine z_aload_n F dX8_sheet_36 rfl ?_
          refine zg_X8_sizes F (by with_reducible assumption) fl_X8_46 dX8_sheet_37 (fun hk_37 => ?_)
          refine z_iload_n F dX8_sheet_40 rfl ?_
          refine z_iload_n F dX8_sheet_41 rfl ?_
          refine z_iast10n (q := j) F (by with_reducible assumption) (by first | with_reducible rfl | (simp only [n4, n2, n3, n5, n14, n16, na1, na2, na3, nI_add, nI_1, nI_pred]; done) | (simp only [n4, n2, n3, n5, n14, n16, na1, na2, na3, nI_add, nI_1, nI_pred, Nat.add_assoc, Nat.add_comm, Nat.add_left_comm]; done)) (by rw [hz13]; omega) dX8_sheet_42 ?_
          refine z_iconst (v := 0) F dX8_sheet_43 (by decide) ?_
          refine z_istore (lv' := [_, _, _, _, _]) F dX8_sheet_44 (by decide) rfl rfl ?_
          have K := key j hj rfl (fun q => q.elim h_4 (fun q => q.elim h_11 (nlt h_17))) (nlt h_23) 16 0 rfl
          rw [show zeL (M.2 (o + 14)) (16 * j) 0 = (zs (zs M (o + 12) j ln) (o + 13) j n).2 (o + 14) from rfl, zya_self] at K
          exact K
        · refine z_bipush (v := (-14)) F dX8_sheet_26 (by decide) ?_
          refine z_iret F X dX8_sheet_28 ?_
          exact Or.inr ⟨fun q => q.elim h_4 (fun q => q.elim h_11 (nlt h_17)), Or.inl ⟨h_23, rfl, rfl⟩⟩
      · refine z_iconst (v := (-1)) F dX8_sheet_20 (by decide) ?_
        refine z_iret F X dX8_sheet_21 ?_
        exact Or.inl ⟨Or.inr (Or.inr h_17), rfl, rfl⟩
theorem c_X8_restore0 {l : Launch} {w : zE} (J : zJ w) {M : zM} {o : Nat} (hk : zk o = 8) (h : M.1 o 25 = 0) : zCi l w yX8_restore cX8_restore 2 (some .int) 1 [.ref (w.2.2 o)] M (fun r M2 => r = -4 ∧ M2 = M) := by
  refine zCi_of J zm_X8_restore [some (.ref (w.2.2 o)), none] (Nat.le_of_ble_eq_true rfl) rfl (fun g hg F X => ?_)
  subst hg
  refine z_aload_n F dX8_restore_0 rfl ?_
  refine zg_X8_isImage F (by with_reducible assumption) fl_X8_220 dX8_restore_1 ?_
  refine z_if_ne (tgt := 10) F dX8_restore_4 (by decide) (fun h_4 => absurd h_4 (fun q => q h)) (fun h_4 => ?_)
  refine z_bipush (v := (-4)) F dX8_restore_7 (by decide) ?_
  refine z_iret F X dX8_restore_9 ?_
  exact ⟨rfl, rfl⟩
theorem n0_not {M : zM} {o : Nat} {x : Int32} (h : M.1 o 0 = nI 0) (q : 0 ≤ x ∧ x < M.1 o 0) : False := by
  rw [h, nI_0] at q
  grind
theorem c_X8_sister0 {l : Launch} {w : zE} (J : zJ w) {M : zM} {o : Nat} {x k : Int32} (hk : zk o = 8) (h : M.1 o 0 = nI 0) : zCi l w yX8_sister cX8_sister 4 (some .int) 2 [.ref (w.2.2 o), .int x, .int k] M (fun r M2 => r = -1 ∧ M2 = M) := by
  refine zCi_of J zm_X8_sister [some (.ref (w.2.2 o)), some (.int x), some (.int k), none] (Nat.le_of_ble_eq_true rfl) rfl (fun g hg F X => ?_)
  subst hg
  refine z_aload_n F dX8_sister_0 rfl ?_
  refine z_iload_n F dX8_sister_1 rfl ?_
  refine z_i2l F dX8_sister_2 ?_
  refine z_callVi F (d_X8_isThing J hk h (by decide)) zm_X8_isThing zv_X8_isThing ml_X8_89 (by with_reducible assumption) (by decide) rfl rfl rfl (Nat.le_of_ble_eq_true rfl) dX8_sister_3 (by omega) (fun r_3 M_3 h_3 => ?_)
  obtain ⟨e_3, rfl⟩ := h_3
  replace e_3 := Eq.symm e_3
  subst e_3
  refine z_if_eq (tgt := 19) F dX8_sister_6 (by decide) (fun h_6 => ?_) (fun h_6 => absurd h_6 (fun q => n0_not h (bI_1.mp q)))
  refine z_iconst (v := (-1)) F dX8_sister_19 (by decide) ?_
  refine z_iret F X dX8_sister_20 ?_
  exact ⟨rfl, rfl⟩
theorem c_X8_meet0 {l : Launch} {w : zE} (J : zJ w) {M : zM} {o : Nat} {x k : Int32} (hk : zk o = 8) (h : M.1 o 0 = nI 0) : zCi l w yX8_meet cX8_meet 6 (some .int) 2 [.ref (w.2.2 o), .int x, .int k] M (fun r M2 => r = -1 ∧ M2 = M) := by
  refine zCi_of J zm_X8_meet [some (.ref (w.2.2 o)), some (.int x), some (.int k), none, none, none] (Nat.le_of_ble_eq_true rfl) rfl (fun g hg F X => ?_)
  subst hg
  refine z_aload_n F dX8_meet_0 rfl ?_
  refine z_iload_n F dX8_meet_1 rfl ?_
  refine z_i2l F dX8_meet_2 ?_
  refine z_callVi F (d_X8_isThing J hk h (by decide)) zm_X8_isThing zv_X8_isThing ml_X8_89 (by with_reducible assumption) (by decide) rfl rfl rfl (Nat.le_of_ble_eq_true rfl) dX8_meet_3 (by omega) (fun r_3 M_3 h_3 => ?_)
  obtain ⟨e_3, rfl⟩ := h_3
  replace e_3 := Eq.symm e_3
  subst e_3
  refine z_if_eq (tgt := 21) F dX8_meet_6 (by decide) (fun h_6 => ?_) (fun h_6 => absurd h_6 (fun q => n0_not h (bI_1.mp q)))
  refine z_iconst (v := (-1)) F dX8_meet_21 (by decide) ?_
  refine z_iret F X dX8_meet_22 ?_
  exact ⟨rfl, rfl⟩
theorem c_X8_chance0 {l : Launch} {w : zE} (J : zJ w) {M : zM} {o : Nat} {x k : Int32} (hk : zk o = 8) (ho : o = 138) (h : M.1 o 0 = nI 0) (h3 : M.1 (o + 3) 3 = 0) : zCi l w yX8_chance cX8_chance 6 (some .int) 2 [.ref (w.2.2 o), .int x, .int k] M (fun r M2 => M2 = M ∧ ((¬ x = -4 ∨ (k < 0 ∨ 1 < k)) ∧ r = -1 ∨ ¬ (¬ x = -4 ∨ (k < 0 ∨ 1 < k)) ∧ r = -3)) := by
  obtain ⟨hz1, hz2, hz3, hz4, hz5, hz6, hz7, hz8, hz9, hz10, hz11, hz12, hz13, hz14, hz15⟩ := zn8 ho
  refine zCi_of J zm_X8_chance [some (.ref (w.2.2 o)), some (.int x), some (.int k), none, none, none] (Nat.le_of_ble_eq_true rfl) rfl (fun g hg F X => ?_)
  subst hg
  refine z_iload_n F dX8_chance_0 rfl ?_
  refine z_bipush (v := (-4)) F dX8_chance_1 (by decide) ?_
  refine z_ic_eq (tgt := 15) F dX8_chance_3 (by decide) (fun h_3 => ?_) (fun h_3 => ?_)
  · try simp only [h3] at h_3
    refine z_iload_n F dX8_chance_15 rfl ?_
    refine z_i2l F dX8_chance_16 ?_
    refine z_lconst (v := 0) F dX8_chance_17 (by decide) ?_
    refine z_lconst (v := 1) F dX8_chance_18 (by decide) ?_
    refine z_callSi F (d_X8_in J (a := 0) (b := 1) (by decide) (by decide)) zm_X8_in zst_X8_in ml_X8_72 rfl rfl (Nat.le_of_ble_eq_true rfl) dX8_chance_19 (by omega) (fun r_19 M_19 h_19 => ?_)
    obtain ⟨e_19, rfl⟩ := h_19
    replace e_19 := Eq.symm e_19
    subst e_19
    refine z_if_ne (tgt := 27) F dX8_chance_22 (by decide) (fun h_22 => ?_) (fun h_22 => ?_)
    · replace h_22 := bI_1.mp h_22
      try simp only [h3] at h_22
      refine z_bipush (v := 12) F dX8_chance_27 (by decide) ?_
      refine z_aload_n F dX8_chance_29 rfl ?_
      refine zg_X8_now F (by with_reducible assumption) fl_X8_16 dX8_chance_30 (fun hk_30 => ?_)
      refine z_iconst (v := 3) F dX8_chance_33 (by decide) ?_
      refine z_iald10n (q := 3) F (by with_reducible assumption) (by decide) (by rw [hz3]; omega) dX8_chance_34 ?_
      try simp only [h3]
      refine z_isub F dX8_chance_35 ?_
      refine z_istore_n (lv' := [_, _, _, _, _, _]) F dX8_chance_36 (by decide) rfl rfl ?_
      refine z_iload_n F dX8_chance_37 rfl ?_
      refine z_bipush (v := 10) F dX8_chance_38 (by decide) ?_
      refine z_ic_le (tgt := 46) F dX8_chance_40 (by decide) (fun h_40 => absurd h_40 (by decide)) (fun h_40 => ?_)
      refine z_bipush (v := (-3)) F dX8_chance_43 (by decide) ?_
      refine z_iret F X dX8_chance_45 ?_
      refine ⟨rfl, Or.inr ⟨fun q => q.elim (fun q => q h_3) (fun q => ?_), rfl⟩⟩
      grind
    · replace h_22 := bI_0.mp h_22
      try simp only [h3] at h_22
      refine z_iconst (v := (-1)) F dX8_chance_25 (by decide) ?_
      refine z_iret F X dX8_chance_26 ?_
      refine ⟨rfl, Or.inl ⟨Or.inr ?_, rfl⟩⟩
      grind
  · try simp only [h3] at h_3
    refine z_aload_n F dX8_chance_6 rfl ?_
    refine z_iload_n F dX8_chance_7 rfl ?_
    refine z_i2l F dX8_chance_8 ?_
    refine z_callVi F (d_X8_isThing J hk h (by decide)) zm_X8_isThing zv_X8_isThing ml_X8_89 (by with_reducible assumption) (by decide) rfl rfl rfl (Nat.le_of_ble_eq_true rfl) dX8_chance_9 (by omega) (fun r_9 M_9 h_9 => ?_)
    obtain ⟨e_9, rfl⟩ := h_9
    replace e_9 := Eq.symm e_9
    subst e_9
    refine z_if_eq (tgt := 25) F dX8_chance_12 (by decide) (fun h_12 => ?_) (fun h_12 => absurd h_12 (fun q => n0_not h (bI_1.mp q)))
    refine z_iconst (v := (-1)) F dX8_chance_25 (by decide) ?_
    refine z_iret F X dX8_chance_26 ?_
    exact ⟨rfl, Or.inl ⟨Or.inl h_3, rfl⟩⟩
theorem c_X8_item0 {l : Launch} {w : zE} (J : zJ w) {M : zM} {o : Nat} {x ln i : Int32} {v : Int64} (hk : zk o = 8) (ho : o = 138) (h : ∀ q, q < 4 → M.1 (o + 12) q = -1) : zCi l w yX8_item cX8_item 7 (some .int) 2 [.ref (w.2.2 o), .int x, .int ln, .int i, .long v] M (fun r M2 => M2 = M ∧ r = if (x < 0 ∨ 3 < x) ∨ (ln < 0 ∨ 3 < ln) then -1 else -11) := by
  obtain ⟨hz1, hz2, hz3, hz4, hz5, hz6, hz7, hz8, hz9, hz10, hz11, hz12, hz13, hz14, hz15⟩ := zn8 ho
  have hw : ∀ q b n, q < 4 → whyF (M.1 (o + 12) q) b ln i n = -11 := fun q b n hq => by rw [h q hq]; rfl
  refine zCi_of J zm_X8_item [some (.ref (w.2.2 o)), some (.int x), some (.int ln), some (.int i), some (.long v), none, none] (Nat.le_of_ble_eq_true rfl) rfl (fun g hg F X => ?_)
  subst hg
  refine z_iload_n F dX8_item_0 rfl ?_
  refine z_callSi F (c_X8_isSheet J) zm_X8_isSheet zst_X8_isSheet ml_X8_227 rfl rfl (Nat.le_of_ble_eq_true rfl) dX8_item_1 (by omega) (fun r_1 M_1 h_1 => ?_)
  obtain ⟨e_1, rfl⟩ := h_1
  replace e_1 := Eq.symm e_1
  subst e_1
  refine z_if_eq (tgt := 14) F dX8_item_4 (by decide) (fun h_4 => ?_) (fun h_4 => ?_)
  · replace h_4 := bI_0.mp h_4
    refine z_iconst (v := (-1)) F dX8_item_14 (by decide) ?_
    refine z_iret F X dX8_item_15 ?_
    exact ⟨rfl, (if_pos (Or.inl (Classical.not_not.mp h_4))).symm⟩
  · replace h_4 := bI_1.mp h_4
    refine z_iload_n F dX8_item_7 rfl ?_
    refine z_callSi F (c_X8_isLane J) zm_X8_isLane zst_X8_isLane ml_X8_230 rfl rfl (Nat.le_of_ble_eq_true rfl) dX8_item_8 (by omega) (fun r_8 M_8 h_8 => ?_)
    obtain ⟨e_8, rfl⟩ := h_8
    replace e_8 := Eq.symm e_8
    subst e_8
    refine z_if_ne (tgt := 16) F dX8_item_11 (by decide) (fun h_11 => ?_) (fun h_11 => ?_)
    · replace h_11 := bI_1.mp h_11
      obtain ⟨j, hj, rfl⟩ := s4_in h_4
      refine z_aload_n F dX8_item_16 rfl ?_
      refine z_iload_n F dX8_item_17 rfl ?_
      refine z_iload_n F dX8_item_18 rfl ?_
      refine z_iload_n F dX8_item_19 rfl ?_
      refine z_iconst (v := 1) F dX8_item_20 (by decide) ?_
      refine z_callVi F (c_X8_why J hk ho hj) zm_X8_why zv_X8_why ml_X8_235 (by with_reducible assumption) (by decide) rfl rfl rfl (Nat.le_of_ble_eq_true rfl) dX8_item_21 (by omega) (fun r_21 M_21 h_21 => ?_)
      obtain ⟨e_21, rfl⟩ := h_21
      replace e_21 := Eq.symm e_21
      subst e_21
      refine z_istore (lv' := [_, _, _, _, _, _, _]) F dX8_item_24 (by decide) rfl rfl ?_
      refine z_iload F dX8_item_26 rfl ?_
      refine z_if_ge (tgt := 34) F dX8_item_28 (by decide) (fun h_28 => absurd h_28 (by rw [hw j _ _ hj]; decide)) (fun h_28 => ?_)
      refine z_iload F dX8_item_31 rfl ?_
      refine z_iret F X dX8_item_33 ?_
      exact ⟨rfl, by rw [hw j _ _ hj, if_neg (fun q => q.elim h_4 h_11)]⟩
    · replace h_11 := bI_0.mp h_11
      refine z_iconst (v := (-1)) F dX8_item_14 (by decide) ?_
      refine z_iret F X dX8_item_15 ?_
      exact ⟨rfl, (if_pos (Or.inr (Classical.not_not.mp h_11))).symm⟩
theorem c_X8_film0 {l : Launch} {w : zE} (J : zJ w) {M : zM} {o : Nat} {x ln i : Int32} (hk : zk o = 8) (ho : o = 138) (h : ∀ q, q < 4 → M.1 (o + 12) q = -1) : zCi l w yX8_film cX8_film 7 (some .int) 2 [.ref (w.2.2 o), .int x, .int ln, .int i] M (fun r M2 => M2 = M ∧ r = if (x < 0 ∨ 3 < x) ∨ (ln < 0 ∨ 3 < ln) then -1 else -11) := by
  obtain ⟨hz1, hz2, hz3, hz4, hz5, hz6, hz7, hz8, hz9, hz10, hz11, hz12, hz13, hz14, hz15⟩ := zn8 ho
  have hw : ∀ q b n, q < 4 → whyF (M.1 (o + 12) q) b ln i n = -11 := fun q b n hq => by rw [h q hq]; rfl
  refine zCi_of J zm_X8_film [some (.ref (w.2.2 o)), some (.int x), some (.int ln), some (.int i), none, none, none] (Nat.le_of_ble_eq_true rfl) rfl (fun g hg F X => ?_)
  subst hg
  refine z_iload_n F dX8_film_0 rfl ?_
  refine z_callSi F (c_X8_isSheet J) zm_X8_isSheet zst_X8_isSheet ml_X8_227 rfl rfl (Nat.le_of_ble_eq_true rfl) dX8_film_1 (by omega) (fun r_1 M_1 h_1 => ?_)
  obtain ⟨e_1, rfl⟩ := h_1
  replace e_1 := Eq.symm e_1
  subst e_1
  refine z_if_eq (tgt := 14) F dX8_film_4 (by decide) (fun h_4 => ?_) (fun h_4 => ?_)
  · replace h_4 := bI_0.mp h_4
    refine z_iconst (v := (-1)) F dX8_film_14 (by decide) ?_
    refine z_iret F X dX8_film_15 ?_
    exact ⟨rfl, (if_pos (Or.inl (Classical.not_not.mp h_4))).symm⟩
  · replace h_4 := bI_1.mp h_4
    refine z_iload_n F dX8_film_7 rfl ?_
    refine z_callSi F (c_X8_isLane J) zm_X8_isLane zst_X8_isLane ml_X8_230 rfl rfl (Nat.le_of_ble_eq_true rfl) dX8_film_8 (by omega) (fun r_8 M_8 h_8 => ?_)
    obtain ⟨e_8, rfl⟩ := h_8
    replace e_8 := Eq.symm e_8
    subst e_8
    refine z_if_ne (tgt := 16) F dX8_film_11 (by decide) (fun h_11 => ?_) (fun h_11 => ?_)
    · replace h_11 := bI_1.mp h_11
      obtain ⟨j, hj, rfl⟩ := s4_in h_4
      refine z_bipush (v := 12) F dX8_film_16 (by decide) ?_
      refine z_aload_n F dX8_film_18 rfl ?_
      refine zg_X8_now F (by with_reducible assumption) fl_X8_16 dX8_film_19 (fun hk_19 => ?_)
      refine z_iconst (v := 3) F dX8_film_22 (by decide) ?_
      refine z_iald10n (q := 3) F (by with_reducible assumption) (by decide) (by rw [hz3]; omega) dX8_film_23 ?_
      refine z_isub F dX8_film_24 ?_
      refine z_istore (lv' := [_, _, _, _, _, _, _]) F dX8_film_25 (by decide) rfl rfl ?_
      refine z_aload_n F dX8_film_27 rfl ?_
      refine z_iload_n F dX8_film_28 rfl ?_
      refine z_iload_n F dX8_film_29 rfl ?_
      refine z_iload_n F dX8_film_30 rfl ?_
      refine z_iload F dX8_film_31 rfl ?_
      refine z_callVi F (c_X8_why J hk ho hj) zm_X8_why zv_X8_why ml_X8_235 (by with_reducible assumption) (by decide) rfl rfl rfl (Nat.le_of_ble_eq_true rfl) dX8_film_33 (by omega) (fun r_33 M_33 h_33 => ?_)
      obtain ⟨e_33, rfl⟩ := h_33
      replace e_33 := Eq.symm e_33
      subst e_33
      refine z_istore (lv' := [_, _, _, _, _, _, _]) F dX8_film_36 (by decide) rfl rfl ?_
      refine z_iload F dX8_film_38 rfl ?_
      refine z_if_ge (tgt := 46) F dX8_film_40 (by decide) (fun h_40 => absurd h_40 (by rw [hw j _ _ hj]; decide)) (fun h_40 => ?_)
      refine z_iload F dX8_film_43 rfl ?_
      refine z_iret F X dX8_film_45 ?_
      exact ⟨rfl, by rw [hw j _ _ hj, if_neg (fun q => q.elim h_4 h_11)]⟩
    · replace h_11 := bI_0.mp h_11
      refine z_iconst (v := (-1)) F dX8_film_14 (by decide) ?_
      refine z_iret F X dX8_film_15 ?_
      exact ⟨rfl, (if_pos (Or.inr (Classical.not_not.mp h_11))).symm⟩
theorem c_X8_deal0 {l : Launch} {w : zE} (J : zJ w) {M : zM} {o : Nat} {x ln i : Int32} (hk : zk o = 8) (ho : o = 138) (h : ∀ q, q < 4 → M.1 (o + 12) q = -1) : zCi l w yX8_deal cX8_deal 9 (some .int) 2 [.ref (w.2.2 o), .int x, .int ln, .int i] M (fun r M2 => M2 = M ∧ r = if (x < 0 ∨ 3 < x) ∨ (ln < 0 ∨ 3 < ln) then -1 else -11) := by
  obtain ⟨hz1, hz2, hz3, hz4, hz5, hz6, hz7, hz8, hz9, hz10, hz11, hz12, hz13, hz14, hz15⟩ := zn8 ho
  have hw : ∀ q b n, q < 4 → whyF (M.1 (o + 12) q) b ln i n = -11 := fun q b n hq => by rw [h q hq]; rfl
  refine zCi_of J zm_X8_deal [some (.ref (w.2.2 o)), some (.int x), some (.int ln), some (.int i), none, none, none, none, none] (Nat.le_of_ble_eq_true rfl) rfl (fun g hg F X => ?_)
  subst hg
  refine z_iload_n F dX8_deal_0 rfl ?_
  refine z_callSi F (c_X8_isSheet J) zm_X8_isSheet zst_X8_isSheet ml_X8_227 rfl rfl (Nat.le_of_ble_eq_true rfl) dX8_deal_1 (by omega) (fun r_1 M_1 h_1 => ?_)
  obtain ⟨e_1, rfl⟩ := h_1
  replace e_1 := Eq.symm e_1
  subst e_1
  refine z_if_eq (tgt := 14) F dX8_deal_4 (by decide) (fun h_4 => ?_) (fun h_4 => ?_)
  · replace h_4 := bI_0.mp h_4
    refine z_iconst (v := (-1)) F dX8_deal_14 (by decide) ?_
    refine z_iret F X dX8_deal_15 ?_
    exact ⟨rfl, (if_pos (Or.inl (Classical.not_not.mp h_4))).symm⟩
  · replace h_4 := bI_1.mp h_4
    refine z_iload_n F dX8_deal_7 rfl ?_
    refine z_callSi F (c_X8_isLane J) zm_X8_isLane zst_X8_isLane ml_X8_230 rfl rfl (Nat.le_of_ble_eq_true rfl) dX8_deal_8 (by omega) (fun r_8 M_8 h_8 => ?_)
    obtain ⟨e_8, rfl⟩ := h_8
    replace e_8 := Eq.symm e_8
    subst e_8
    refine z_if_ne (tgt := 16) F dX8_deal_11 (by decide) (fun h_11 => ?_) (fun h_11 => ?_)
    · replace h_11 := bI_1.mp h_11
      obtain ⟨j, hj, rfl⟩ := s4_in h_4
      refine z_aload_n F dX8_deal_16 rfl ?_
      refine z_iload_n F dX8_deal_17 rfl ?_
      refine z_iload_n F dX8_deal_18 rfl ?_
      refine z_iload_n F dX8_deal_19 rfl ?_
      refine z_aload_n F dX8_deal_20 rfl ?_
      refine zg_X8_people F (by with_reducible assumption) fl_X8_76 dX8_deal_21 ?_
      refine z_callVi F (c_X8_why J hk ho hj) zm_X8_why zv_X8_why ml_X8_235 (by with_reducible assumption) (by decide) rfl rfl rfl (Nat.le_of_ble_eq_true rfl) dX8_deal_24 (by omega) (fun r_24 M_24 h_24 => ?_)
      obtain ⟨e_24, rfl⟩ := h_24
      replace e_24 := Eq.symm e_24
      subst e_24
      refine z_istore (lv' := [_, _, _, _, _, _, _, _, _]) F dX8_deal_27 (by decide) rfl rfl ?_
      refine z_iload F dX8_deal_29 rfl ?_
      refine z_if_ge (tgt := 37) F dX8_deal_31 (by decide) (fun h_31 => absurd h_31 (by rw [hw j _ _ hj]; decide)) (fun h_31 => ?_)
      refine z_iload F dX8_deal_34 rfl ?_
      refine z_iret F X dX8_deal_36 ?_
      exact ⟨rfl, by rw [hw j _ _ hj, if_neg (fun q => q.elim h_4 h_11)]⟩
    · replace h_11 := bI_0.mp h_11
      refine z_iconst (v := (-1)) F dX8_deal_14 (by decide) ?_
      refine z_iret F X dX8_deal_15 ?_
      exact ⟨rfl, (if_pos (Or.inr (Classical.not_not.mp h_11))).symm⟩
theorem c_X8_seen0 {l : Launch} {w : zE} (J : zJ w) {M : zM} {o : Nat} {x ln i n : Int32} (hk : zk o = 8) (ho : o = 138) (h : ∀ q, q < 4 → M.1 (o + 12) q = -1) : zCi l w yX8_seen cX8_seen 10 (some .int) 2 [.ref (w.2.2 o), .int x, .int ln, .int i, .int n] M (fun r M2 => M2 = M ∧ r = if ((x < 0 ∨ 3 < x) ∨ (ln < 0 ∨ 3 < ln)) ∨ (n < 1 ∨ 8 < n) then -1 else -11) := by
  obtain ⟨hz1, hz2, hz3, hz4, hz5, hz6, hz7, hz8, hz9, hz10, hz11, hz12, hz13, hz14, hz15⟩ := zn8 ho
  have hw : ∀ q b n, q < 4 → whyF (M.1 (o + 12) q) b ln i n = -11 := fun q b n hq => by rw [h q hq]; rfl
  refine zCi_of J zm_X8_seen [some (.ref (w.2.2 o)), some (.int x), some (.int ln), some (.int i), some (.int n), none, none, none, none, none] (Nat.le_of_ble_eq_true rfl) rfl (fun g hg F X => ?_)
  subst hg
  refine z_iload_n F dX8_seen_0 rfl ?_
  refine z_callSi F (c_X8_isSheet J) zm_X8_isSheet zst_X8_isSheet ml_X8_227 rfl rfl (Nat.le_of_ble_eq_true rfl) dX8_seen_1 (by omega) (fun r_1 M_1 h_1 => ?_)
  obtain ⟨e_1, rfl⟩ := h_1
  replace e_1 := Eq.symm e_1
  subst e_1
  refine z_if_eq (tgt := 27) F dX8_seen_4 (by decide) (fun h_4 => ?_) (fun h_4 => ?_)
  · replace h_4 := bI_0.mp h_4
    refine z_iconst (v := (-1)) F dX8_seen_27 (by decide) ?_
    refine z_iret F X dX8_seen_28 ?_
    exact ⟨rfl, (if_pos (Or.inl (Or.inl (Classical.not_not.mp h_4)))).symm⟩
  · replace h_4 := bI_1.mp h_4
    refine z_iload_n F dX8_seen_7 rfl ?_
    refine z_callSi F (c_X8_isLane J) zm_X8_isLane zst_X8_isLane ml_X8_230 rfl rfl (Nat.le_of_ble_eq_true rfl) dX8_seen_8 (by omega) (fun r_8 M_8 h_8 => ?_)
    obtain ⟨e_8, rfl⟩ := h_8
    replace e_8 := Eq.symm e_8
    subst e_8
    refine z_if_eq (tgt := 27) F dX8_seen_11 (by decide) (fun h_11 => ?_) (fun h_11 => ?_)
    · replace h_11 := bI_0.mp h_11
      refine z_iconst (v := (-1)) F dX8_seen_27 (by decide) ?_
      refine z_iret F X dX8_seen_28 ?_
      exact ⟨rfl, (if_pos (Or.inl (Or.inr (Classical.not_not.mp h_11)))).symm⟩
    · replace h_11 := bI_1.mp h_11
      refine z_iload F dX8_seen_14 rfl ?_
      refine z_i2l F dX8_seen_16 ?_
      refine z_lconst (v := 1) F dX8_seen_17 (by decide) ?_
      refine z_ldc2 F dX8_seen_18 cl_X8_233 ?_
      refine z_callSi F (d_X8_in J (a := 1) (b := 8) (by decide) (by decide)) zm_X8_in zst_X8_in ml_X8_72 rfl rfl (Nat.le_of_ble_eq_true rfl) dX8_seen_21 (by omega) (fun r_21 M_21 h_21 => ?_)
      obtain ⟨e_21, rfl⟩ := h_21
      replace e_21 := Eq.symm e_21
      subst e_21
      refine z_if_ne (tgt := 29) F dX8_seen_24 (by decide) (fun h_24 => ?_) (fun h_24 => ?_)
      · replace h_24 := bI_1.mp h_24
        obtain ⟨j, hj, rfl⟩ := s4_in h_4
        refine z_aload_n F dX8_seen_29 rfl ?_
        refine z_iload_n F dX8_seen_30 rfl ?_
        refine z_iload_n F dX8_seen_31 rfl ?_
        refine z_iload_n F dX8_seen_32 rfl ?_
        refine z_iconst (v := 2) F dX8_seen_33 (by decide) ?_
        refine z_iload F dX8_seen_34 rfl ?_
        refine z_imul F dX8_seen_36 ?_
        refine z_callVi F (c_X8_why J hk ho hj) zm_X8_why zv_X8_why ml_X8_235 (by with_reducible assumption) (by decide) rfl rfl rfl (Nat.le_of_ble_eq_true rfl) dX8_seen_37 (by omega) (fun r_37 M_37 h_37 => ?_)
        obtain ⟨e_37, rfl⟩ := h_37
        replace e_37 := Eq.symm e_37
        subst e_37
        refine z_istore (lv' := [_, _, _, _, _, _, _, _, _, _]) F dX8_seen_40 (by decide) rfl rfl ?_
        refine z_iload F dX8_seen_42 rfl ?_
        refine z_if_ge (tgt := 50) F dX8_seen_44 (by decide) (fun h_44 => absurd h_44 (by rw [hw j _ _ hj]; decide)) (fun h_44 => ?_)
        refine z_iload F dX8_seen_47 rfl ?_
        refine z_iret F X dX8_seen_49 ?_
        exact ⟨rfl, by rw [hw j _ _ hj, if_neg (fun q => q.elim (fun q => q.elim h_4 h_11) (by grind))]⟩
      · replace h_24 := bI_0.mp h_24
        refine z_iconst (v := (-1)) F dX8_seen_27 (by decide) ?_
        refine z_iret F X dX8_seen_28 ?_
        exact ⟨rfl, (if_pos (Or.inr (by grind))).symm⟩
theorem c_X8_copy0 {l : Launch} {w : zE} (J : zJ w) {M : zM} {o : Nat} {x i y j n : Int32} (hk : zk o = 8) (ho : o = 138) (h : ∀ q, q < 4 → M.1 (o + 12) q = -1) : zCi l w yX8_copy cX8_copy 7 (some .int) 2 [.ref (w.2.2 o), .int x, .int i, .int y, .int j, .int n] M (fun r M2 => M2 = M ∧ r = if (x < 0 ∨ 3 < x) ∨ (y < 0 ∨ 3 < y) then -1 else -11) := by
  obtain ⟨hz1, hz2, hz3, hz4, hz5, hz6, hz7, hz8, hz9, hz10, hz11, hz12, hz13, hz14, hz15⟩ := zn8 ho
  refine zCi_of J zm_X8_copy [some (.ref (w.2.2 o)), some (.int x), some (.int i), some (.int y), some (.int j), some (.int n), none] (Nat.le_of_ble_eq_true rfl) rfl (fun g hg F X => ?_)
  subst hg
  refine z_iload_n F dX8_copy_0 rfl ?_
  refine z_callSi F (c_X8_isSheet J) zm_X8_isSheet zst_X8_isSheet ml_X8_227 rfl rfl (Nat.le_of_ble_eq_true rfl) dX8_copy_1 (by omega) (fun r_1 M_1 h_1 => ?_)
  obtain ⟨e_1, rfl⟩ := h_1
  replace e_1 := Eq.symm e_1
  subst e_1
  refine z_if_eq (tgt := 14) F dX8_copy_4 (by decide) (fun h_4 => ?_) (fun h_4 => ?_)
  · replace h_4 := bI_0.mp h_4
    refine z_iconst (v := (-1)) F dX8_copy_14 (by decide) ?_
    refine z_iret F X dX8_copy_15 ?_
    exact ⟨rfl, (if_pos (Or.inl (Classical.not_not.mp h_4))).symm⟩
  · replace h_4 := bI_1.mp h_4
    refine z_iload_n F dX8_copy_7 rfl ?_
    refine z_callSi F (c_X8_isSheet J) zm_X8_isSheet zst_X8_isSheet ml_X8_227 rfl rfl (Nat.le_of_ble_eq_true rfl) dX8_copy_8 (by omega) (fun r_8 M_8 h_8 => ?_)
    obtain ⟨e_8, rfl⟩ := h_8
    replace e_8 := Eq.symm e_8
    subst e_8
    refine z_if_ne (tgt := 16) F dX8_copy_11 (by decide) (fun h_11 => ?_) (fun h_11 => ?_)
    · replace h_11 := bI_1.mp h_11
      obtain ⟨q, hq, rfl⟩ := s4_in h_4
      refine z_aload_n F dX8_copy_16 rfl ?_
      refine zg_X8_lanes F (by with_reducible assumption) fl_X8_43 dX8_copy_17 (fun hk_17 => ?_)
      refine z_iload_n F dX8_copy_20 rfl ?_
      refine z_iald10n (q := q) F (by with_reducible assumption) (by first | with_reducible rfl | (simp only [n4, n2, n3, n5, n14, n16, na1, na2, na3, nI_add, nI_1, nI_pred]; done) | (simp only [n4, n2, n3, n5, n14, n16, na1, na2, na3, nI_add, nI_1, nI_pred, Nat.add_assoc, Nat.add_comm, Nat.add_left_comm]; done)) (by rw [hz12]; omega) dX8_copy_21 ?_
      refine z_if_lt (tgt := 34) F dX8_copy_22 (by decide) (fun h_22 => ?_) (fun h_22 => absurd h_22 (by rw [h q hq]; decide))
      refine z_bipush (v := (-11)) F dX8_copy_34 (by decide) ?_
      refine z_iret F X dX8_copy_36 ?_
      exact ⟨rfl, by rw [if_neg (fun q => q.elim h_4 h_11)]⟩
    · replace h_11 := bI_0.mp h_11
      refine z_iconst (v := (-1)) F dX8_copy_14 (by decide) ?_
      refine z_iret F X dX8_copy_15 ?_
      exact ⟨rfl, (if_pos (Or.inr (Classical.not_not.mp h_11))).symm⟩
/-- a row of the image -/
def ntL (f : zF1) (k0 : Nat) (g : zF1) : Nat → zF1
  | 0 => g
  | n + 1 => va_up (ntL f k0 g n) (k0 + n) (f n)
theorem c_X8_notesRow {l : Launch} {w : zE} (J : zJ w) {M : zM} {o b k0 : Nat} (hk : zk o = 8) (ho : o = 138) (hb : zk b = 10) (hne : b ≠ o + 11) (h0 : k0 + zn b ≤ 187) : zCi l w yX8_notesRow cX8_notesRow 4 (some .int) 0 [.ref (w.2.2 o), .ref (w.2.2 b), .int (nI k0)] M (fun r M2 => r = nI (k0 + zn b) ∧ M2 = za M (o + 11) (ntL (M.1 b) k0 (M.1 (o + 11)) (zn b))) := by
  obtain ⟨hz1, hz2, hz3, hz4, hz5, hz6, hz7, hz8, hz9, hz10, hz11, hz12, hz13, hz14, hz15⟩ := zn8 ho
  refine zCi_of J zm_X8_notesRow [some (.ref (w.2.2 o)), some (.ref (w.2.2 b)), some (.int (nI k0)), none] (Nat.le_of_ble_eq_true rfl) rfl (fun g hg F X => ?_)
  subst hg
  have key : ∀ (r k : Nat), k + r = zn b → ZW w g 4 2 [some (.ref (w.2.2 o)), some (.ref (w.2.2 b)), some (.int (nI k0)), some (.int (nI k))] [] (za M (o + 11) (ntL (M.1 b) k0 (M.1 (o + 11)) k)) := by
    intro r
    induction r with
    | zero =>
      intro k hkr
      obtain rfl : k = zn b := by omega
      refine z_iload_n F dX8_notesRow_2 rfl ?_
      refine z_aload_n F dX8_notesRow_3 rfl ?_
      refine z_alen10 F (by with_reducible assumption) dX8_notesRow_4 ?_
      refine z_ic_ge (tgt := 25) F dX8_notesRow_5 (by decide) (fun h_5 => ?_) (fun h_5 => absurd h_5 (fun q => absurd q (Int32.not_lt.mpr (Int32.le_refl _))))
      refine z_iload_n F dX8_notesRow_25 rfl ?_
      refine z_aload_n F dX8_notesRow_26 rfl ?_
      refine z_alen10 F (by with_reducible assumption) dX8_notesRow_27 ?_
      refine z_iadd F dX8_notesRow_28 ?_
      refine z_iret F X dX8_notesRow_29 ?_
      exact ⟨nI_add _ _, rfl⟩
    | succ r ih =>
      intro k hkr
      refine z_iload_n F dX8_notesRow_2 rfl ?_
      refine z_aload_n F dX8_notesRow_3 rfl ?_
      refine z_alen10 F (by with_reducible assumption) dX8_notesRow_4 ?_
      refine z_ic_ge (tgt := 25) F dX8_notesRow_5 (by decide) (fun h_5 => absurd h_5 (nI_ge (by omega) (by omega))) (fun h_5 => ?_)
      refine z_aload_n F dX8_notesRow_8 rfl ?_
      refine zg_X8_image F (by with_reducible assumption) fl_X8_40 dX8_notesRow_9 (fun hk_9 => ?_)
      refine z_iload_n F dX8_notesRow_12 rfl ?_
      refine z_iload_n F dX8_notesRow_13 rfl ?_
      refine z_iadd F dX8_notesRow_14 ?_
      refine z_aload_n F dX8_notesRow_15 rfl ?_
      refine z_iload_n F dX8_notesRow_16 rfl ?_
      refine z_iald10n (q := k) F (by with_reducible assumption) (by first | with_reducible rfl | (simp only [n4, n2, n3, n5, n14, n16, na1, na2, na3, nI_add, nI_1, nI_pred]; done) | (simp only [n4, n2, n3, n5, n14, n16, na1, na2, na3, nI_add, nI_1, nI_pred, Nat.add_assoc, Nat.add_comm, Nat.add_left_comm]; done)) (by omega) dX8_notesRow_17 ?_
      try simp only [za_off _ hne]
      refine z_iast10n (q := (k0 + k)) F (by with_reducible assumption) (by first | with_reducible rfl | (simp only [n4, n2, n3, n5, n14, n16, na1, na2, na3, nI_add, nI_1, nI_pred]; done) | (simp only [n4, n2, n3, n5, n14, n16, na1, na2, na3, nI_add, nI_1, nI_pred, Nat.add_assoc, Nat.add_comm, Nat.add_left_comm]; done)) (by rw [hz11]; omega) dX8_notesRow_18 ?_
      refine z_iincc (c := 1) (lv' := [_, _, _, _]) F dX8_notesRow_19 rfl (by decide) (by decide) rfl rfl ?_
      refine z_goto (tgt := 2) F dX8_notesRow_22 (by decide) ?_
      rw [nI_1, zs_zaa]
      exact ih (k + 1) (by omega)
  refine z_iconst (v := 0) F dX8_notesRow_0 (by decide) ?_
  refine z_istore_n (lv' := [_, _, _, _]) F dX8_notesRow_1 (by decide) rfl rfl ?_
  have K := key (zn b) 0 (by omega)
  rw [show ntL (M.1 b) k0 (M.1 (o + 11)) 0 = M.1 (o + 11) from rfl, za_self] at K
  exact K
theorem c_X8_image1 {l : Launch} {w : zE} (J : zJ w) {M : zM} {o : Nat} (hk : zk o = 8) (ho : o = 138) : zCi l w yX8_image cX8_image 2 (some .int) 1 [.ref (w.2.2 o)] M (fun r _ => r = 1) := by
  obtain ⟨hz1, hz2, hz3, hz4, hz5, hz6, hz7, hz8, hz9, hz10, hz11, hz12, hz13, hz14, hz15⟩ := zn8 ho
  refine zCi_of J zm_X8_image [some (.ref (w.2.2 o)), none] (Nat.le_of_ble_eq_true rfl) rfl (fun g hg F X => ?_)
  subst hg
  refine z_aload_n F dX8_image_0 rfl ?_
  refine zg_X8_image F (by with_reducible assumption) fl_X8_40 dX8_image_1 (fun hk_1 => ?_)
  refine z_iconst (v := 0) F dX8_image_4 (by decide) ?_
  refine z_aload_n F dX8_image_5 rfl ?_
  refine zg_X8_things F (by with_reducible assumption) fl_X8_69 dX8_image_6 ?_
  refine z_iast10n (q := 0) F (by with_reducible assumption) (by decide) (by rw [hz11]; omega) dX8_image_9 ?_
  refine z_aload_n F dX8_image_10 rfl ?_
  refine zg_X8_image F (by with_reducible assumption) fl_X8_40 dX8_image_11 (fun hk_11 => ?_)
  refine z_iconst (v := 1) F dX8_image_14 (by decide) ?_
  refine z_aload_n F dX8_image_15 rfl ?_
  refine zg_X8_people F (by with_reducible assumption) fl_X8_76 dX8_image_16 ?_
  refine z_iast10n (q := 1) F (by with_reducible assumption) (by decide) (by rw [hz11]; omega) dX8_image_19 ?_
  refine z_aload_n F dX8_image_20 rfl ?_
  refine zg_X8_image F (by with_reducible assumption) fl_X8_40 dX8_image_21 (fun hk_21 => ?_)
  refine z_iconst (v := 2) F dX8_image_24 (by decide) ?_
  refine z_aload_n F dX8_image_25 rfl ?_
  refine zg_X8_heed F (by with_reducible assumption) fl_X8_60 dX8_image_26 ?_
  refine z_iast10n (q := 2) F (by with_reducible assumption) (by decide) (by rw [hz11]; omega) dX8_image_29 ?_
  refine z_aload_n F dX8_image_30 rfl ?_
  refine zg_X8_image F (by with_reducible assumption) fl_X8_40 dX8_image_31 (fun hk_31 => ?_)
  refine z_iconst (v := 3) F dX8_image_34 (by decide) ?_
  refine z_aload_n F dX8_image_35 rfl ?_
  refine zg_X8_well F (by with_reducible assumption) fl_X8_56 dX8_image_36 ?_
  refine z_iast10n (q := 3) F (by with_reducible assumption) (by decide) (by rw [hz11]; omega) dX8_image_39 ?_
  refine z_aload_n F dX8_image_40 rfl ?_
  refine zg_X8_image F (by with_reducible assumption) fl_X8_40 dX8_image_41 (fun hk_41 => ?_)
  refine z_iconst (v := 4) F dX8_image_44 (by decide) ?_
  refine z_aload_n F dX8_image_45 rfl ?_
  refine zg_X8_undos F (by with_reducible assumption) fl_X8_66 dX8_image_46 ?_
  refine z_iast10n (q := 4) F (by with_reducible assumption) (by decide) (by rw [hz11]; omega) dX8_image_49 ?_
  refine z_aload_n F dX8_image_50 rfl ?_
  refine z_aload_n F dX8_image_51 rfl ?_
  refine zg_X8_thing F (by with_reducible assumption) fl_X8_7 dX8_image_52 (fun hk_52 => ?_)
  refine z_iconst (v := 5) F dX8_image_55 (by decide) ?_
  refine z_callVi F (c_X8_notesRow J (k0 := 5) hk ho hk_52 (by omega) (by rw [hz1]; decide)) zm_X8_notesRow zv_X8_notesRow ml_X8_216 (by with_reducible assumption) (by decide) rfl rfl rfl (Nat.le_of_ble_eq_true rfl) dX8_image_56 (by omega) (fun r_56 M_56 h_56 => ?_)
  obtain ⟨e_56, -⟩ := h_56
  simp only [hz1, hz2, hz3, hz7] at e_56
  subst e_56
  refine z_istore_n (lv' := [_, _]) F dX8_image_59 (by decide) rfl rfl ?_
  refine z_aload_n F dX8_image_60 rfl ?_
  refine z_aload_n F dX8_image_61 rfl ?_
  refine zg_X8_person F (by with_reducible assumption) fl_X8_13 dX8_image_62 (fun hk_62 => ?_)
  refine z_iload_n F dX8_image_65 rfl ?_
  refine z_callVi F (c_X8_notesRow J (k0 := 45) hk ho hk_62 (by omega) (by rw [hz2]; decide)) zm_X8_notesRow zv_X8_notesRow ml_X8_216 (by with_reducible assumption) (by decide) rfl rfl rfl (Nat.le_of_ble_eq_true rfl) dX8_image_66 (by omega) (fun r_66 M_66 h_66 => ?_)
  obtain ⟨e_66, -⟩ := h_66
  simp only [hz1, hz2, hz3, hz7] at e_66
  subst e_66
  refine z_istore_n (lv' := [_, _]) F dX8_image_69 (by decide) rfl rfl ?_
  refine z_aload_n F dX8_image_70 rfl ?_
  refine z_aload_n F dX8_image_71 rfl ?_
  refine zg_X8_now F (by with_reducible assumption) fl_X8_16 dX8_image_72 (fun hk_72 => ?_)
  refine z_iload_n F dX8_image_75 rfl ?_
  refine z_callVi F (c_X8_notesRow J (k0 := 61) hk ho hk_72 (by omega) (by rw [hz3]; decide)) zm_X8_notesRow zv_X8_notesRow ml_X8_216 (by with_reducible assumption) (by decide) rfl rfl rfl (Nat.le_of_ble_eq_true rfl) dX8_image_76 (by omega) (fun r_76 M_76 h_76 => ?_)
  obtain ⟨e_76, -⟩ := h_76
  simp only [hz1, hz2, hz3, hz7] at e_76
  subst e_76
  refine z_istore_n (lv' := [_, _]) F dX8_image_79 (by decide) rfl rfl ?_
  refine z_aload_n F dX8_image_80 rfl ?_
  refine z_aload_n F dX8_image_81 rfl ?_
  refine zg_X8_undone F (by with_reducible assumption) fl_X8_28 dX8_image_82 (fun hk_82 => ?_)
  refine z_iload_n F dX8_image_85 rfl ?_
  refine z_callVi F (c_X8_notesRow J (k0 := 75) hk ho hk_82 (by omega) (by rw [hz7]; decide)) zm_X8_notesRow zv_X8_notesRow ml_X8_216 (by with_reducible assumption) (by decide) rfl rfl rfl (Nat.le_of_ble_eq_true rfl) dX8_image_86 (by omega) (fun r_86 M_86 h_86 => ?_)
  obtain ⟨e_86, -⟩ := h_86
  simp only [hz1, hz2, hz3, hz7] at e_86
  subst e_86
  refine z_pop F dX8_image_89 rfl ?_
  refine z_aload_n F dX8_image_90 rfl ?_
  refine z_iconst (v := 1) F dX8_image_91 (by decide) ?_
  refine zp_X8_isImage F (by with_reducible assumption) fl_X8_220 (by decide) (by decide) dX8_image_92 ?_
  refine z_iconst (v := 1) F dX8_image_95 (by decide) ?_
  refine z_iret F X dX8_image_96 ?_
  rfl
