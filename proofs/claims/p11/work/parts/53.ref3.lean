theorem c_X8_told {l : Launch} {w : zE} (J : zJ w) {M : zM} {o np : Nat} {p k : Int32} (hk : zk o = 8) (ho : o = 138) (hnp : M.1 o 1 = nI np) (h8 : np ≤ 8) : zCi l w yX8_told cX8_told 3 (some .int) 2 [.ref (w.2.2 o), .int p, .int k] M (fun r M2 => M2 = M ∧ r = toldS (M.1 o) (M.1 (o + 2)) (M.1 (o + 3)) p k) := by
  obtain ⟨hz1, hz2, hz3, hz4, hz5, hz6, hz7, hz8, hz9, hz10, hz11, hz12, hz13, hz14, hz15⟩ := zn8 ho
  refine zCi_of J zm_X8_told [some (.ref (w.2.2 o)), some (.int p), some (.int k)] (Nat.le_of_ble_eq_true rfl) rfl (fun g hg F X => ?_)
  subst hg
  refine z_aload_n F dX8_told_0 rfl ?_
  refine z_iload_n F dX8_told_1 rfl ?_
  refine z_callVi F (c_X8_isPerson J hk hnp h8) zm_X8_isPerson zv_X8_isPerson ml_X8_111 (by with_reducible assumption) (by decide) rfl rfl rfl (Nat.le_of_ble_eq_true rfl) dX8_told_2 (by omega) (fun r_2 M_2 h_2 => ?_)
  obtain ⟨e_2, rfl⟩ := h_2
  replace e_2 := Eq.symm e_2
  subst e_2
  refine z_if_eq (tgt := 20) F dX8_told_5 (by decide) (fun h_5 => ?_) (fun h_5 => ?_)
  · replace h_5 := bI_0.mp h_5
    refine z_iconst (v := (-1)) F dX8_told_20 (by decide) ?_
    refine z_iret F X dX8_told_21 ?_
    refine ⟨rfl, ?_⟩
    unfold toldS
    grind
  · replace h_5 := bI_1.mp h_5
    refine z_iload_n F dX8_told_8 rfl ?_
    refine z_i2l F dX8_told_9 ?_
    refine z_lconst (v := 0) F dX8_told_10 (by decide) ?_
    refine z_ldc2 F dX8_told_11 cl_X8_115 ?_
    refine z_callSi F (d_X8_in J (a := 0) (b := 2) (by decide) (by decide)) zm_X8_in zst_X8_in ml_X8_72 rfl rfl (Nat.le_of_ble_eq_true rfl) dX8_told_14 (by omega) (fun r_14 M_14 h_14 => ?_)
    obtain ⟨e_14, rfl⟩ := h_14
    replace e_14 := Eq.symm e_14
    subst e_14
    refine z_if_ne (tgt := 22) F dX8_told_17 (by decide) (fun h_17 => ?_) (fun h_17 => ?_)
    · replace h_17 := bI_1.mp h_17
      obtain ⟨j, hj, rfl⟩ := n_in (n := np) (by rw [← hnp]; exact h_5) (by omega)
      have hc : (nI j).toNatClampNeg = j := nI_clamp (by omega)
      refine z_iload_n F dX8_told_22 rfl ?_
      refine z_if_ne (tgt := 37) F dX8_told_23 (by decide) (fun h_23 => ?_) (fun h_23 => ?_)
      · refine z_iload_n F dX8_told_37 rfl ?_
        refine z_iconst (v := 1) F dX8_told_38 (by decide) ?_
        refine z_ic_ne (tgt := 53) F dX8_told_39 (by decide) (fun h_39 => ?_) (fun h_39 => ?_)
        · refine z_aload_n F dX8_told_53 rfl ?_
          refine zg_X8_person F (by with_reducible assumption) fl_X8_13 dX8_told_54 (fun hk_54 => ?_)
          refine z_iconst (v := 2) F dX8_told_57 (by decide) ?_
          refine z_iload_n F dX8_told_58 rfl ?_
          refine z_imul F dX8_told_59 ?_
          refine z_iconst (v := 1) F dX8_told_60 (by decide) ?_
          refine z_iadd F dX8_told_61 ?_
          refine z_iald10n (q := ((2 * j) + 1)) F (by with_reducible assumption) (by first | with_reducible rfl | (simp only [n4, n2, n3, n5, n14, n16, na1, na2, na3, nI_add, nI_1, nI_pred]; done) | (simp only [n4, n2, n3, n5, n14, n16, na1, na2, na3, nI_add, nI_1, nI_pred, Nat.add_assoc, Nat.add_comm, Nat.add_left_comm]; done)) (by rw [hz2]; omega) dX8_told_62 ?_
          refine z_iret F X dX8_told_63 ?_
          refine ⟨rfl, ?_⟩
          unfold toldS
          rw [if_pos h_5, hc]
          grind
        · refine z_aload_n F dX8_told_42 rfl ?_
          refine zg_X8_now F (by with_reducible assumption) fl_X8_16 dX8_told_43 (fun hk_43 => ?_)
          refine z_iconst (v := 5) F dX8_told_46 (by decide) ?_
          refine z_iload_n F dX8_told_47 rfl ?_
          refine z_iadd F dX8_told_48 ?_
          refine z_iald10n (q := (5 + j)) F (by with_reducible assumption) (by first | with_reducible rfl | (simp only [n4, n2, n3, n5, n14, n16, na1, na2, na3, nI_add, nI_1, nI_pred]; done) | (simp only [n4, n2, n3, n5, n14, n16, na1, na2, na3, nI_add, nI_1, nI_pred, Nat.add_assoc, Nat.add_comm, Nat.add_left_comm]; done)) (by rw [hz3]; omega) dX8_told_49 ?_
          refine z_goto (tgt := 63) F dX8_told_50 (by decide) ?_
          refine z_iret F X dX8_told_63 ?_
          refine ⟨rfl, ?_⟩
          unfold toldS
          rw [if_pos h_5, hc]
          grind
      · refine z_aload_n F dX8_told_26 rfl ?_
        refine zg_X8_person F (by with_reducible assumption) fl_X8_13 dX8_told_27 (fun hk_27 => ?_)
        refine z_iconst (v := 2) F dX8_told_30 (by decide) ?_
        refine z_iload_n F dX8_told_31 rfl ?_
        refine z_imul F dX8_told_32 ?_
        refine z_iald10n (q := (2 * j)) F (by with_reducible assumption) (by first | with_reducible rfl | (simp only [n4, n2, n3, n5, n14, n16, na1, na2, na3, nI_add, nI_1, nI_pred]; done) | (simp only [n4, n2, n3, n5, n14, n16, na1, na2, na3, nI_add, nI_1, nI_pred, Nat.add_assoc, Nat.add_comm, Nat.add_left_comm]; done)) (by rw [hz2]; omega) dX8_told_33 ?_
        refine z_goto (tgt := 63) F dX8_told_34 (by decide) ?_
        refine z_iret F X dX8_told_63 ?_
        refine ⟨rfl, ?_⟩
        unfold toldS
        rw [if_pos h_5, hc]
        grind
    · replace h_17 := bI_0.mp h_17
      refine z_iconst (v := (-1)) F dX8_told_20 (by decide) ?_
      refine z_iret F X dX8_told_21 ?_
      refine ⟨rfl, ?_⟩
      unfold toldS
      grind
theorem c_X8_move {l : Launch} {w : zE} (J : zJ w) {M : zM} {o np : Nat} {p m : Int32} (hk : zk o = 8) (ho : o = 138) (hnp : M.1 o 1 = nI np) (h8 : np ≤ 8) : zCi l w yX8_move cX8_move 4 (some .int) 2 [.ref (w.2.2 o), .int p, .int m] M (fun r M2 => ((0 ≤ p ∧ p < M.1 o 1) ∧ ¬ (m < 0 ∨ 11 < m) ∧ r = M.1 (o + 2) (2 * p.toNatClampNeg) ∧ M2 = zs M (o + 2) (2 * p.toNatClampNeg) m) ∨ (¬ ((0 ≤ p ∧ p < M.1 o 1) ∧ ¬ (m < 0 ∨ 11 < m)) ∧ r = -1 ∧ M2 = M)) := by
  obtain ⟨hz1, hz2, hz3, hz4, hz5, hz6, hz7, hz8, hz9, hz10, hz11, hz12, hz13, hz14, hz15⟩ := zn8 ho
  refine zCi_of J zm_X8_move [some (.ref (w.2.2 o)), some (.int p), some (.int m), none] (Nat.le_of_ble_eq_true rfl) rfl (fun g hg F X => ?_)
  subst hg
  refine z_aload_n F dX8_move_0 rfl ?_
  refine z_iload_n F dX8_move_1 rfl ?_
  refine z_callVi F (c_X8_isPerson J hk hnp h8) zm_X8_isPerson zv_X8_isPerson ml_X8_111 (by with_reducible assumption) (by decide) rfl rfl rfl (Nat.le_of_ble_eq_true rfl) dX8_move_2 (by omega) (fun r_2 M_2 h_2 => ?_)
  obtain ⟨e_2, rfl⟩ := h_2
  replace e_2 := Eq.symm e_2
  subst e_2
  refine z_if_eq (tgt := 20) F dX8_move_5 (by decide) (fun h_5 => ?_) (fun h_5 => ?_)
  · replace h_5 := bI_0.mp h_5
    refine z_iconst (v := (-1)) F dX8_move_20 (by decide) ?_
    refine z_iret F X dX8_move_21 ?_
    exact Or.inr ⟨by grind, rfl, rfl⟩
  · replace h_5 := bI_1.mp h_5
    refine z_iload_n F dX8_move_8 rfl ?_
    refine z_i2l F dX8_move_9 ?_
    refine z_lconst (v := 0) F dX8_move_10 (by decide) ?_
    refine z_ldc2 F dX8_move_11 cl_X8_103 ?_
    refine z_callSi F (d_X8_in J (a := 0) (b := 11) (by decide) (by decide)) zm_X8_in zst_X8_in ml_X8_72 rfl rfl (Nat.le_of_ble_eq_true rfl) dX8_move_14 (by omega) (fun r_14 M_14 h_14 => ?_)
    obtain ⟨e_14, rfl⟩ := h_14
    replace e_14 := Eq.symm e_14
    subst e_14
    refine z_if_ne (tgt := 22) F dX8_move_17 (by decide) (fun h_17 => ?_) (fun h_17 => ?_)
    · replace h_17 := bI_1.mp h_17
      obtain ⟨j, hj, rfl⟩ := n_in (n := np) (by rw [← hnp]; exact h_5) (by omega)
      have hc : (nI j).toNatClampNeg = j := nI_clamp (by omega)
      refine z_aload_n F dX8_move_22 rfl ?_
      refine zg_X8_person F (by with_reducible assumption) fl_X8_13 dX8_move_23 (fun hk_23 => ?_)
      refine z_iconst (v := 2) F dX8_move_26 (by decide) ?_
      refine z_iload_n F dX8_move_27 rfl ?_
      refine z_imul F dX8_move_28 ?_
      refine z_iald10n (q := (2 * j)) F (by with_reducible assumption) (by first | with_reducible rfl | (simp only [n4, n2, n3, n5, n14, n16, na1, na2, na3, nI_add, nI_1, nI_pred]; done) | (simp only [n4, n2, n3, n5, n14, n16, na1, na2, na3, nI_add, nI_1, nI_pred, Nat.add_assoc, Nat.add_comm, Nat.add_left_comm]; done)) (by rw [hz2]; omega) dX8_move_29 ?_
      refine z_istore_n (lv' := [_, _, _, _]) F dX8_move_30 (by decide) rfl rfl ?_
      refine z_aload_n F dX8_move_31 rfl ?_
      refine zg_X8_person F (by with_reducible assumption) fl_X8_13 dX8_move_32 (fun hk_32 => ?_)
      refine z_iconst (v := 2) F dX8_move_35 (by decide) ?_
      refine z_iload_n F dX8_move_36 rfl ?_
      refine z_imul F dX8_move_37 ?_
      refine z_iload_n F dX8_move_38 rfl ?_
      refine z_iast10n (q := (2 * j)) F (by with_reducible assumption) (by first | with_reducible rfl | (simp only [n4, n2, n3, n5, n14, n16, na1, na2, na3, nI_add, nI_1, nI_pred]; done) | (simp only [n4, n2, n3, n5, n14, n16, na1, na2, na3, nI_add, nI_1, nI_pred, Nat.add_assoc, Nat.add_comm, Nat.add_left_comm]; done)) (by rw [hz2]; omega) dX8_move_39 ?_
      refine z_iload_n F dX8_move_40 rfl ?_
      refine z_iret F X dX8_move_41 ?_
      rw [hc]
      exact Or.inl ⟨h_5, by grind, rfl, rfl⟩
    · replace h_17 := bI_0.mp h_17
      refine z_iconst (v := (-1)) F dX8_move_20 (by decide) ?_
      refine z_iret F X dX8_move_21 ?_
      exact Or.inr ⟨by grind, rfl, rfl⟩
abbrev takR (T : zF1) (np : Nat) (x : Int32) : Prop := ¬ x = -4 ∧ ∃ p, p < np ∧ T (5 + p) = x
theorem c_X8_take {l : Launch} {w : zE} (J : zJ w) {M : zM} {o nt np : Nat} {x : Int32} (hk : zk o = 8) (ho : o = 138) (hnt : M.1 o 0 = nI nt) (h10 : nt ≤ 10) (hnp : M.1 o 1 = nI np) (h8 : np ≤ 8) : zCi l w yX8_take cX8_take 3 (some .int) 2 [.ref (w.2.2 o), .int x] M (fun r M2 => (takBad (M.1 o 0) x ∧ r = -1 ∧ M2 = M) ∨ (¬ takBad (M.1 o 0) x ∧ takR (M.1 (o + 3)) np x ∧ r = -2 ∧ M2 = M) ∨ (¬ takBad (M.1 o 0) x ∧ ¬ takR (M.1 (o + 3)) np x ∧ r = M.1 (o + 3) 0 ∧ M2 = zs (zs M (o + 3) 0 x) (o + 3) 1 0)) := by
  obtain ⟨hz1, hz2, hz3, hz4, hz5, hz6, hz7, hz8, hz9, hz10, hz11, hz12, hz13, hz14, hz15⟩ := zn8 ho
  have ew := whoR_per (T := M.1 (o + 3)) (x := x) h8
  refine zCi_of J zm_X8_take [some (.ref (w.2.2 o)), some (.int x), none] (Nat.le_of_ble_eq_true rfl) rfl (fun g hg F X => ?_)
  subst hg
  refine z_iload_n F dX8_take_0 rfl ?_
  refine z_bipush (v := (-4)) F dX8_take_1 (by decide) ?_
  refine z_ic_eq (tgt := 17) F dX8_take_3 (by decide) (fun h_3 => ?_) (fun h_3 => ?_)
  · refine z_iload_n F dX8_take_17 rfl ?_
    refine z_bipush (v := (-4)) F dX8_take_18 (by decide) ?_
    refine z_ic_eq (tgt := 44) F dX8_take_20 (by decide) (fun h_20 => ?_) (fun h_20 => ?_)
    · refine z_aload_n F dX8_take_44 rfl ?_
      refine zg_X8_now F (by with_reducible assumption) fl_X8_16 dX8_take_45 (fun hk_45 => ?_)
      refine z_iconst (v := 0) F dX8_take_48 (by decide) ?_
      refine z_iald10n (q := 0) F (by with_reducible assumption) (by decide) (by rw [hz3]; omega) dX8_take_49 ?_
      refine z_istore_n (lv' := [_, _, _]) F dX8_take_50 (by decide) rfl rfl ?_
      refine z_aload_n F dX8_take_51 rfl ?_
      refine zg_X8_now F (by with_reducible assumption) fl_X8_16 dX8_take_52 (fun hk_52 => ?_)
      refine z_iconst (v := 0) F dX8_take_55 (by decide) ?_
      refine z_iload_n F dX8_take_56 rfl ?_
      refine z_iast10n (q := 0) F (by with_reducible assumption) (by decide) (by rw [hz3]; omega) dX8_take_57 ?_
      refine z_aload_n F dX8_take_58 rfl ?_
      refine zg_X8_now F (by with_reducible assumption) fl_X8_16 dX8_take_59 (fun hk_59 => ?_)
      refine z_iconst (v := 1) F dX8_take_62 (by decide) ?_
      refine z_iconst (v := 0) F dX8_take_63 (by decide) ?_
      refine z_iast10n (q := 1) F (by with_reducible assumption) (by decide) (by rw [hz3]; omega) dX8_take_64 ?_
      refine z_iload_n F dX8_take_65 rfl ?_
      refine z_iret F X dX8_take_66 ?_
      refine Or.inr (Or.inr ⟨by grind, fun q => ?_, rfl, rfl⟩)
      have q2 := ew.mpr q.2
      grind
    · refine z_aload_n F dX8_take_23 rfl ?_
      refine z_iload_n F dX8_take_24 rfl ?_
      refine z_callVi F (c_X8_who J hk ho hnp h8) zm_X8_who zv_X8_who ml_X8_95 (by with_reducible assumption) (by decide) rfl rfl rfl (Nat.le_of_ble_eq_true rfl) dX8_take_25 (by omega) (fun r_25 M_25 h_25 => ?_)
      obtain ⟨e_25, rfl⟩ := h_25
      replace e_25 := Eq.symm e_25
      subst e_25
      refine z_if_lt (tgt := 44) F dX8_take_28 (by decide) (fun h_28 => ?_) (fun h_28 => ?_)
      · refine z_aload_n F dX8_take_44 rfl ?_
        refine zg_X8_now F (by with_reducible assumption) fl_X8_16 dX8_take_45 (fun hk_45 => ?_)
        refine z_iconst (v := 0) F dX8_take_48 (by decide) ?_
        refine z_iald10n (q := 0) F (by with_reducible assumption) (by decide) (by rw [hz3]; omega) dX8_take_49 ?_
        refine z_istore_n (lv' := [_, _, _]) F dX8_take_50 (by decide) rfl rfl ?_
        refine z_aload_n F dX8_take_51 rfl ?_
        refine zg_X8_now F (by with_reducible assumption) fl_X8_16 dX8_take_52 (fun hk_52 => ?_)
        refine z_iconst (v := 0) F dX8_take_55 (by decide) ?_
        refine z_iload_n F dX8_take_56 rfl ?_
        refine z_iast10n (q := 0) F (by with_reducible assumption) (by decide) (by rw [hz3]; omega) dX8_take_57 ?_
        refine z_aload_n F dX8_take_58 rfl ?_
        refine zg_X8_now F (by with_reducible assumption) fl_X8_16 dX8_take_59 (fun hk_59 => ?_)
        refine z_iconst (v := 1) F dX8_take_62 (by decide) ?_
        refine z_iconst (v := 0) F dX8_take_63 (by decide) ?_
        refine z_iast10n (q := 1) F (by with_reducible assumption) (by decide) (by rw [hz3]; omega) dX8_take_64 ?_
        refine z_iload_n F dX8_take_65 rfl ?_
        refine z_iret F X dX8_take_66 ?_
        refine Or.inr (Or.inr ⟨by grind, fun q => ?_, rfl, rfl⟩)
        have q2 := ew.mpr q.2
        grind
      · refine z_aload_n F dX8_take_31 rfl ?_
        refine z_iload_n F dX8_take_32 rfl ?_
        refine z_callVi F (c_X8_who J hk ho hnp h8) zm_X8_who zv_X8_who ml_X8_95 (by with_reducible assumption) (by decide) rfl rfl rfl (Nat.le_of_ble_eq_true rfl) dX8_take_33 (by omega) (fun r_33 M_33 h_33 => ?_)
        obtain ⟨e_33, rfl⟩ := h_33
        replace e_33 := Eq.symm e_33
        subst e_33
        refine z_bipush (v := 8) F dX8_take_36 (by decide) ?_
        refine z_ic_ge (tgt := 44) F dX8_take_38 (by decide) (fun h_38 => ?_) (fun h_38 => ?_)
        · refine z_aload_n F dX8_take_44 rfl ?_
          refine zg_X8_now F (by with_reducible assumption) fl_X8_16 dX8_take_45 (fun hk_45 => ?_)
          refine z_iconst (v := 0) F dX8_take_48 (by decide) ?_
          refine z_iald10n (q := 0) F (by with_reducible assumption) (by decide) (by rw [hz3]; omega) dX8_take_49 ?_
          refine z_istore_n (lv' := [_, _, _]) F dX8_take_50 (by decide) rfl rfl ?_
          refine z_aload_n F dX8_take_51 rfl ?_
          refine zg_X8_now F (by with_reducible assumption) fl_X8_16 dX8_take_52 (fun hk_52 => ?_)
          refine z_iconst (v := 0) F dX8_take_55 (by decide) ?_
          refine z_iload_n F dX8_take_56 rfl ?_
          refine z_iast10n (q := 0) F (by with_reducible assumption) (by decide) (by rw [hz3]; omega) dX8_take_57 ?_
          refine z_aload_n F dX8_take_58 rfl ?_
          refine zg_X8_now F (by with_reducible assumption) fl_X8_16 dX8_take_59 (fun hk_59 => ?_)
          refine z_iconst (v := 1) F dX8_take_62 (by decide) ?_
          refine z_iconst (v := 0) F dX8_take_63 (by decide) ?_
          refine z_iast10n (q := 1) F (by with_reducible assumption) (by decide) (by rw [hz3]; omega) dX8_take_64 ?_
          refine z_iload_n F dX8_take_65 rfl ?_
          refine z_iret F X dX8_take_66 ?_
          refine Or.inr (Or.inr ⟨by grind, fun q => ?_, rfl, rfl⟩)
          have q2 := ew.mpr q.2
          grind
        · refine z_bipush (v := (-2)) F dX8_take_41 (by decide) ?_
          refine z_iret F X dX8_take_43 ?_
          exact Or.inr (Or.inl ⟨by grind, ⟨by grind, ew.mp ⟨by grind, by grind⟩⟩, rfl, rfl⟩)
  · refine z_aload_n F dX8_take_6 rfl ?_
    refine z_iload_n F dX8_take_7 rfl ?_
    refine z_i2l F dX8_take_8 ?_
    refine z_callVi F (d_X8_isThing J hk hnt h10) zm_X8_isThing zv_X8_isThing ml_X8_89 (by with_reducible assumption) (by decide) rfl rfl rfl (Nat.le_of_ble_eq_true rfl) dX8_take_9 (by omega) (fun r_9 M_9 h_9 => ?_)
    obtain ⟨e_9, rfl⟩ := h_9
    replace e_9 := Eq.symm e_9
    subst e_9
    refine z_if_ne (tgt := 17) F dX8_take_12 (by decide) (fun h_12 => ?_) (fun h_12 => ?_)
    · replace h_12 := bI_1.mp h_12
      refine z_iload_n F dX8_take_17 rfl ?_
      refine z_bipush (v := (-4)) F dX8_take_18 (by decide) ?_
      refine z_ic_eq (tgt := 44) F dX8_take_20 (by decide) (fun h_20 => ?_) (fun h_20 => ?_)
      · refine z_aload_n F dX8_take_44 rfl ?_
        refine zg_X8_now F (by with_reducible assumption) fl_X8_16 dX8_take_45 (fun hk_45 => ?_)
        refine z_iconst (v := 0) F dX8_take_48 (by decide) ?_
        refine z_iald10n (q := 0) F (by with_reducible assumption) (by decide) (by rw [hz3]; omega) dX8_take_49 ?_
        refine z_istore_n (lv' := [_, _, _]) F dX8_take_50 (by decide) rfl rfl ?_
        refine z_aload_n F dX8_take_51 rfl ?_
        refine zg_X8_now F (by with_reducible assumption) fl_X8_16 dX8_take_52 (fun hk_52 => ?_)
        refine z_iconst (v := 0) F dX8_take_55 (by decide) ?_
        refine z_iload_n F dX8_take_56 rfl ?_
        refine z_iast10n (q := 0) F (by with_reducible assumption) (by decide) (by rw [hz3]; omega) dX8_take_57 ?_
        refine z_aload_n F dX8_take_58 rfl ?_
        refine zg_X8_now F (by with_reducible assumption) fl_X8_16 dX8_take_59 (fun hk_59 => ?_)
        refine z_iconst (v := 1) F dX8_take_62 (by decide) ?_
        refine z_iconst (v := 0) F dX8_take_63 (by decide) ?_
        refine z_iast10n (q := 1) F (by with_reducible assumption) (by decide) (by rw [hz3]; omega) dX8_take_64 ?_
        refine z_iload_n F dX8_take_65 rfl ?_
        refine z_iret F X dX8_take_66 ?_
        refine Or.inr (Or.inr ⟨by grind, fun q => ?_, rfl, rfl⟩)
        have q2 := ew.mpr q.2
        grind
      · refine z_aload_n F dX8_take_23 rfl ?_
        refine z_iload_n F dX8_take_24 rfl ?_
        refine z_callVi F (c_X8_who J hk ho hnp h8) zm_X8_who zv_X8_who ml_X8_95 (by with_reducible assumption) (by decide) rfl rfl rfl (Nat.le_of_ble_eq_true rfl) dX8_take_25 (by omega) (fun r_25 M_25 h_25 => ?_)
        obtain ⟨e_25, rfl⟩ := h_25
        replace e_25 := Eq.symm e_25
        subst e_25
        refine z_if_lt (tgt := 44) F dX8_take_28 (by decide) (fun h_28 => ?_) (fun h_28 => ?_)
        · refine z_aload_n F dX8_take_44 rfl ?_
          refine zg_X8_now F (by with_reducible assumption) fl_X8_16 dX8_take_45 (fun hk_45 => ?_)
          refine z_iconst (v := 0) F dX8_take_48 (by decide) ?_
          refine z_iald10n (q := 0) F (by with_reducible assumption) (by decide) (by rw [hz3]; omega) dX8_take_49 ?_
          refine z_istore_n (lv' := [_, _, _]) F dX8_take_50 (by decide) rfl rfl ?_
          refine z_aload_n F dX8_take_51 rfl ?_
          refine zg_X8_now F (by with_reducible assumption) fl_X8_16 dX8_take_52 (fun hk_52 => ?_)
          refine z_iconst (v := 0) F dX8_take_55 (by decide) ?_
          refine z_iload_n F dX8_take_56 rfl ?_
          refine z_iast10n (q := 0) F (by with_reducible assumption) (by decide) (by rw [hz3]; omega) dX8_take_57 ?_
          refine z_aload_n F dX8_take_58 rfl ?_
          refine zg_X8_now F (by with_reducible assumption) fl_X8_16 dX8_take_59 (fun hk_59 => ?_)
          refine z_iconst (v := 1) F dX8_take_62 (by decide) ?_
          refine z_iconst (v := 0) F dX8_take_63 (by decide) ?_
          refine z_iast10n (q := 1) F (by with_reducible assumption) (by decide) (by rw [hz3]; omega) dX8_take_64 ?_
          refine z_iload_n F dX8_take_65 rfl ?_
          refine z_iret F X dX8_take_66 ?_
          refine Or.inr (Or.inr ⟨by grind, fun q => ?_, rfl, rfl⟩)
          have q2 := ew.mpr q.2
          grind
        · refine z_aload_n F dX8_take_31 rfl ?_
          refine z_iload_n F dX8_take_32 rfl ?_
          refine z_callVi F (c_X8_who J hk ho hnp h8) zm_X8_who zv_X8_who ml_X8_95 (by with_reducible assumption) (by decide) rfl rfl rfl (Nat.le_of_ble_eq_true rfl) dX8_take_33 (by omega) (fun r_33 M_33 h_33 => ?_)
          obtain ⟨e_33, rfl⟩ := h_33
          replace e_33 := Eq.symm e_33
          subst e_33
          refine z_bipush (v := 8) F dX8_take_36 (by decide) ?_
          refine z_ic_ge (tgt := 44) F dX8_take_38 (by decide) (fun h_38 => ?_) (fun h_38 => ?_)
          · refine z_aload_n F dX8_take_44 rfl ?_
            refine zg_X8_now F (by with_reducible assumption) fl_X8_16 dX8_take_45 (fun hk_45 => ?_)
            refine z_iconst (v := 0) F dX8_take_48 (by decide) ?_
            refine z_iald10n (q := 0) F (by with_reducible assumption) (by decide) (by rw [hz3]; omega) dX8_take_49 ?_
            refine z_istore_n (lv' := [_, _, _]) F dX8_take_50 (by decide) rfl rfl ?_
            refine z_aload_n F dX8_take_51 rfl ?_
            refine zg_X8_now F (by with_reducible assumption) fl_X8_16 dX8_take_52 (fun hk_52 => ?_)
            refine z_iconst (v := 0) F dX8_take_55 (by decide) ?_
            refine z_iload_n F dX8_take_56 rfl ?_
            refine z_iast10n (q := 0) F (by with_reducible assumption) (by decide) (by rw [hz3]; omega) dX8_take_57 ?_
            refine z_aload_n F dX8_take_58 rfl ?_
            refine zg_X8_now F (by with_reducible assumption) fl_X8_16 dX8_take_59 (fun hk_59 => ?_)
            refine z_iconst (v := 1) F dX8_take_62 (by decide) ?_
            refine z_iconst (v := 0) F dX8_take_63 (by decide) ?_
            refine z_iast10n (q := 1) F (by with_reducible assumption) (by decide) (by rw [hz3]; omega) dX8_take_64 ?_
            refine z_iload_n F dX8_take_65 rfl ?_
            refine z_iret F X dX8_take_66 ?_
            refine Or.inr (Or.inr ⟨by grind, fun q => ?_, rfl, rfl⟩)
            have q2 := ew.mpr q.2
            grind
          · refine z_bipush (v := (-2)) F dX8_take_41 (by decide) ?_
            refine z_iret F X dX8_take_43 ?_
            exact Or.inr (Or.inl ⟨by grind, ⟨by grind, ew.mp ⟨by grind, by grind⟩⟩, rfl, rfl⟩)
    · replace h_12 := bI_0.mp h_12
      refine z_iconst (v := (-1)) F dX8_take_15 (by decide) ?_
      refine z_iret F X dX8_take_16 ?_
      exact Or.inl ⟨by grind, rfl, rfl⟩
theorem c_X8_count {l : Launch} {w : zE} (J : zJ w) {M : zM} {o : Nat} {k : Int32} (hk : zk o = 8) (ho : o = 138) : zCi l w yX8_count cX8_count 2 (some .int) 0 [.ref (w.2.2 o), .int k] M (fun r M2 => M2 = M ∧ r = cntS (rbM (M.1 o)) (M.1 (o + 3)) (M.1 o 20) k) := by
  obtain ⟨hz1, hz2, hz3, hz4, hz5, hz6, hz7, hz8, hz9, hz10, hz11, hz12, hz13, hz14, hz15⟩ := zn8 ho
  refine zCi_of J zm_X8_count [some (.ref (w.2.2 o)), some (.int k)] (Nat.le_of_ble_eq_true rfl) rfl (fun g hg F X => ?_)
  subst hg
  refine z_iload_n F dX8_count_0 rfl ?_
  refine z_tab10 F dX8_count_1 (tgt0 := 56) (tgt1 := 61) (tgt2 := 66) (tgt3 := 73) (tgt4 := 80) (tgt5 := 87) (tgt6 := 94) (tgt7 := 99) (tgt8 := 104) (tgt9 := 111) (dt := 116) (by decide) (by decide) (by decide) (by decide) (by decide) (by decide) (by decide) (by decide) (by decide) (by decide) (by decide) (fun h_1 => ?_) (fun h_1 => ?_) (fun h_1 => ?_) (fun h_1 => ?_) (fun h_1 => ?_) (fun h_1 => ?_) (fun h_1 => ?_) (fun h_1 => ?_) (fun h_1 => ?_) (fun h_1 => ?_) (fun h_1_0 h_1_1 h_1_2 h_1_3 h_1_4 h_1_5 h_1_6 h_1_7 h_1_8 h_1_9 => ?_)
  · refine z_aload_n F dX8_count_56 rfl ?_
    refine zg_X8_things F (by with_reducible assumption) fl_X8_69 dX8_count_57 ?_
    refine z_iret F X dX8_count_60 ?_
    refine ⟨rfl, ?_⟩
    unfold cntS
    first
      | (subst h_1; rfl)
      | (rw [if_neg h_1_0, if_neg h_1_1, if_neg h_1_2, if_neg h_1_3, if_neg h_1_4, if_neg h_1_5, if_neg h_1_6, if_neg h_1_7, if_neg h_1_8, if_neg h_1_9])
  · refine z_aload_n F dX8_count_61 rfl ?_
    refine zg_X8_people F (by with_reducible assumption) fl_X8_76 dX8_count_62 ?_
    refine z_iret F X dX8_count_65 ?_
    refine ⟨rfl, ?_⟩
    unfold cntS
    first
      | (subst h_1; rfl)
      | (rw [if_neg h_1_0, if_neg h_1_1, if_neg h_1_2, if_neg h_1_3, if_neg h_1_4, if_neg h_1_5, if_neg h_1_6, if_neg h_1_7, if_neg h_1_8, if_neg h_1_9])
  · refine z_aload_n F dX8_count_66 rfl ?_
    refine zg_X8_now F (by with_reducible assumption) fl_X8_16 dX8_count_67 (fun hk_67 => ?_)
    refine z_iconst (v := 3) F dX8_count_70 (by decide) ?_
    refine z_iald10n (q := 3) F (by with_reducible assumption) (by decide) (by rw [hz3]; omega) dX8_count_71 ?_
    refine z_iret F X dX8_count_72 ?_
    refine ⟨rfl, ?_⟩
    unfold cntS
    first
      | (subst h_1; rfl)
      | (rw [if_neg h_1_0, if_neg h_1_1, if_neg h_1_2, if_neg h_1_3, if_neg h_1_4, if_neg h_1_5, if_neg h_1_6, if_neg h_1_7, if_neg h_1_8, if_neg h_1_9])
  · refine z_aload_n F dX8_count_73 rfl ?_
    refine zg_X8_now F (by with_reducible assumption) fl_X8_16 dX8_count_74 (fun hk_74 => ?_)
    refine z_iconst (v := 0) F dX8_count_77 (by decide) ?_
    refine z_iald10n (q := 0) F (by with_reducible assumption) (by decide) (by rw [hz3]; omega) dX8_count_78 ?_
    refine z_iret F X dX8_count_79 ?_
    refine ⟨rfl, ?_⟩
    unfold cntS
    first
      | (subst h_1; rfl)
      | (rw [if_neg h_1_0, if_neg h_1_1, if_neg h_1_2, if_neg h_1_3, if_neg h_1_4, if_neg h_1_5, if_neg h_1_6, if_neg h_1_7, if_neg h_1_8, if_neg h_1_9])
  · refine z_aload_n F dX8_count_80 rfl ?_
    refine zg_X8_now F (by with_reducible assumption) fl_X8_16 dX8_count_81 (fun hk_81 => ?_)
    refine z_iconst (v := 1) F dX8_count_84 (by decide) ?_
    refine z_iald10n (q := 1) F (by with_reducible assumption) (by decide) (by rw [hz3]; omega) dX8_count_85 ?_
    refine z_iret F X dX8_count_86 ?_
    refine ⟨rfl, ?_⟩
    unfold cntS
    first
      | (subst h_1; rfl)
      | (rw [if_neg h_1_0, if_neg h_1_1, if_neg h_1_2, if_neg h_1_3, if_neg h_1_4, if_neg h_1_5, if_neg h_1_6, if_neg h_1_7, if_neg h_1_8, if_neg h_1_9])
  · refine z_aload_n F dX8_count_87 rfl ?_
    refine zg_X8_now F (by with_reducible assumption) fl_X8_16 dX8_count_88 (fun hk_88 => ?_)
    refine z_iconst (v := 2) F dX8_count_91 (by decide) ?_
    refine z_iald10n (q := 2) F (by with_reducible assumption) (by decide) (by rw [hz3]; omega) dX8_count_92 ?_
    refine z_iret F X dX8_count_93 ?_
    refine ⟨rfl, ?_⟩
    unfold cntS
    first
      | (subst h_1; rfl)
      | (rw [if_neg h_1_0, if_neg h_1_1, if_neg h_1_2, if_neg h_1_3, if_neg h_1_4, if_neg h_1_5, if_neg h_1_6, if_neg h_1_7, if_neg h_1_8, if_neg h_1_9])
  · refine z_aload_n F dX8_count_94 rfl ?_
    refine zg_X8_heed F (by with_reducible assumption) fl_X8_60 dX8_count_95 ?_
    refine z_iret F X dX8_count_98 ?_
    refine ⟨rfl, ?_⟩
    unfold cntS
    first
      | (subst h_1; rfl)
      | (rw [if_neg h_1_0, if_neg h_1_1, if_neg h_1_2, if_neg h_1_3, if_neg h_1_4, if_neg h_1_5, if_neg h_1_6, if_neg h_1_7, if_neg h_1_8, if_neg h_1_9])
  · refine z_aload_n F dX8_count_99 rfl ?_
    refine zg_X8_well F (by with_reducible assumption) fl_X8_56 dX8_count_100 ?_
    refine z_iret F X dX8_count_103 ?_
    refine ⟨rfl, ?_⟩
    unfold cntS
    first
      | (subst h_1; rfl)
      | (rw [if_neg h_1_0, if_neg h_1_1, if_neg h_1_2, if_neg h_1_3, if_neg h_1_4, if_neg h_1_5, if_neg h_1_6, if_neg h_1_7, if_neg h_1_8, if_neg h_1_9])
  · refine z_aload_n F dX8_count_104 rfl ?_
    refine zg_X8_now F (by with_reducible assumption) fl_X8_16 dX8_count_105 (fun hk_105 => ?_)
    refine z_iconst (v := 4) F dX8_count_108 (by decide) ?_
    refine z_iald10n (q := 4) F (by with_reducible assumption) (by decide) (by rw [hz3]; omega) dX8_count_109 ?_
    refine z_iret F X dX8_count_110 ?_
    refine ⟨rfl, ?_⟩
    unfold cntS
    first
      | (subst h_1; rfl)
      | (rw [if_neg h_1_0, if_neg h_1_1, if_neg h_1_2, if_neg h_1_3, if_neg h_1_4, if_neg h_1_5, if_neg h_1_6, if_neg h_1_7, if_neg h_1_8, if_neg h_1_9])
  · refine z_aload_n F dX8_count_111 rfl ?_
    refine zg_X8_undos F (by with_reducible assumption) fl_X8_66 dX8_count_112 ?_
    refine z_iret F X dX8_count_115 ?_
    refine ⟨rfl, ?_⟩
    unfold cntS
    first
      | (subst h_1; rfl)
      | (rw [if_neg h_1_0, if_neg h_1_1, if_neg h_1_2, if_neg h_1_3, if_neg h_1_4, if_neg h_1_5, if_neg h_1_6, if_neg h_1_7, if_neg h_1_8, if_neg h_1_9])
  · refine z_iconst (v := (-1)) F dX8_count_116 (by decide) ?_
    refine z_iret F X dX8_count_117 ?_
    refine ⟨rfl, ?_⟩
    unfold cntS
    first
      | (subst h_1; rfl)
      | (rw [if_neg h_1_0, if_neg h_1_1, if_neg h_1_2, if_neg h_1_3, if_neg h_1_4, if_neg h_1_5, if_neg h_1_6, if_neg h_1_7, if_neg h_1_8, if_neg h_1_9])
theorem c_X8_heed {l : Launch} {w : zE} (J : zJ w) {M : zM} {o : Nat} {v : Int32} (hk : zk o = 8) : zCi l w yX8_heed cX8_heed 3 (some .int) 1 [.ref (w.2.2 o), .int v] M (fun r M2 => ((v < 0 ∨ 99 < v) ∧ r = -1 ∧ M2 = M) ∨ (¬ (v < 0 ∨ 99 < v) ∧ r = M.1 o 5 ∧ M2 = zs M o 5 v)) := by
  refine zCi_of J zm_X8_heed [some (.ref (w.2.2 o)), some (.int v), none] (Nat.le_of_ble_eq_true rfl) rfl (fun g hg F X => ?_)
  subst hg
  refine z_iload_n F dX8_heed_0 rfl ?_
  refine z_i2l F dX8_heed_1 ?_
  refine z_lconst (v := 0) F dX8_heed_2 (by decide) ?_
  refine z_ldc2 F dX8_heed_3 cl_X8_81 ?_
  refine z_callSi F (d_X8_in J (a := 0) (b := 99) (by decide) (by decide)) zm_X8_in zst_X8_in ml_X8_72 rfl rfl (Nat.le_of_ble_eq_true rfl) dX8_heed_6 (by omega) (fun r_6 M_6 h_6 => ?_)
  obtain ⟨e_6, rfl⟩ := h_6
  replace e_6 := Eq.symm e_6
  subst e_6
  refine z_if_ne (tgt := 14) F dX8_heed_9 (by decide) (fun h_9 => ?_) (fun h_9 => ?_)
  · replace h_9 := bI_1.mp h_9
    refine z_aload_n F dX8_heed_14 rfl ?_
    refine zg_X8_heed F (by with_reducible assumption) fl_X8_60 dX8_heed_15 ?_
    refine z_istore_n (lv' := [_, _, _]) F dX8_heed_18 (by decide) rfl rfl ?_
    refine z_aload_n F dX8_heed_19 rfl ?_
    refine z_iload_n F dX8_heed_20 rfl ?_
    refine zp_X8_heed F (by with_reducible assumption) fl_X8_60 dX8_heed_21 ?_
    refine z_iload_n F dX8_heed_24 rfl ?_
    refine z_iret F X dX8_heed_25 ?_
    exact Or.inr ⟨by grind, rfl, rfl⟩
  · replace h_9 := bI_0.mp h_9
    refine z_iconst (v := (-1)) F dX8_heed_12 (by decide) ?_
    refine z_iret F X dX8_heed_13 ?_
    exact Or.inl ⟨by grind, rfl, rfl⟩
theorem c_X8_well {l : Launch} {w : zE} (J : zJ w) {M : zM} {o : Nat} {v : Int32} (hk : zk o = 8) : zCi l w yX8_well cX8_well 3 (some .int) 1 [.ref (w.2.2 o), .int v] M (fun r M2 => ((¬ v = -4 ∧ (v < 0 ∨ 11 < v)) ∧ r = -1 ∧ M2 = M) ∨ (¬ (¬ v = -4 ∧ (v < 0 ∨ 11 < v)) ∧ r = M.1 o 6 ∧ M2 = zs M o 6 v)) := by
  refine zCi_of J zm_X8_well [some (.ref (w.2.2 o)), some (.int v), none] (Nat.le_of_ble_eq_true rfl) rfl (fun g hg F X => ?_)
  subst hg
  refine z_iload_n F dX8_well_0 rfl ?_
  refine z_bipush (v := (-4)) F dX8_well_1 (by decide) ?_
  refine z_ic_eq (tgt := 20) F dX8_well_3 (by decide) (fun h_3 => ?_) (fun h_3 => ?_)
  · refine z_aload_n F dX8_well_20 rfl ?_
    refine zg_X8_well F (by with_reducible assumption) fl_X8_56 dX8_well_21 ?_
    refine z_istore_n (lv' := [_, _, _]) F dX8_well_24 (by decide) rfl rfl ?_
    refine z_aload_n F dX8_well_25 rfl ?_
    refine z_iload_n F dX8_well_26 rfl ?_
    refine zp_X8_well F (by with_reducible assumption) fl_X8_56 dX8_well_27 ?_
    refine z_iload_n F dX8_well_30 rfl ?_
    refine z_iret F X dX8_well_31 ?_
    exact Or.inr ⟨by grind, rfl, rfl⟩
  · refine z_iload_n F dX8_well_6 rfl ?_
    refine z_i2l F dX8_well_7 ?_
    refine z_lconst (v := 0) F dX8_well_8 (by decide) ?_
    refine z_ldc2 F dX8_well_9 cl_X8_103 ?_
    refine z_callSi F (d_X8_in J (a := 0) (b := 11) (by decide) (by decide)) zm_X8_in zst_X8_in ml_X8_72 rfl rfl (Nat.le_of_ble_eq_true rfl) dX8_well_12 (by omega) (fun r_12 M_12 h_12 => ?_)
    obtain ⟨e_12, rfl⟩ := h_12
    replace e_12 := Eq.symm e_12
    subst e_12
    refine z_if_ne (tgt := 20) F dX8_well_15 (by decide) (fun h_15 => ?_) (fun h_15 => ?_)
    · replace h_15 := bI_1.mp h_15
      refine z_aload_n F dX8_well_20 rfl ?_
      refine zg_X8_well F (by with_reducible assumption) fl_X8_56 dX8_well_21 ?_
      refine z_istore_n (lv' := [_, _, _]) F dX8_well_24 (by decide) rfl rfl ?_
      refine z_aload_n F dX8_well_25 rfl ?_
      refine z_iload_n F dX8_well_26 rfl ?_
      refine zp_X8_well F (by with_reducible assumption) fl_X8_56 dX8_well_27 ?_
      refine z_iload_n F dX8_well_30 rfl ?_
      refine z_iret F X dX8_well_31 ?_
      exact Or.inr ⟨by grind, rfl, rfl⟩
    · replace h_15 := bI_0.mp h_15
      refine z_iconst (v := (-1)) F dX8_well_18 (by decide) ?_
      refine z_iret F X dX8_well_19 ?_
      exact Or.inl ⟨by grind, rfl, rfl⟩
theorem c_X8_again {l : Launch} {w : zE} (J : zJ w) {M : zM} {o : Nat} (hk : zk o = 8) (ho : o = 138) : zCi l w yX8_again cX8_again 2 (some .int) 0 [.ref (w.2.2 o)] M (fun r M2 => r = M.1 (o + 3) 3 ∧ M2 = zs M (o + 3) 3 0) := by
  obtain ⟨hz1, hz2, hz3, hz4, hz5, hz6, hz7, hz8, hz9, hz10, hz11, hz12, hz13, hz14, hz15⟩ := zn8 ho
  refine zCi_of J zm_X8_again [some (.ref (w.2.2 o)), none] (Nat.le_of_ble_eq_true rfl) rfl (fun g hg F X => ?_)
  subst hg
  refine z_aload_n F dX8_again_0 rfl ?_
  refine zg_X8_now F (by with_reducible assumption) fl_X8_16 dX8_again_1 (fun hk_1 => ?_)
  refine z_iconst (v := 3) F dX8_again_4 (by decide) ?_
  refine z_iald10n (q := 3) F (by with_reducible assumption) (by decide) (by rw [hz3]; omega) dX8_again_5 ?_
  refine z_istore_n (lv' := [_, _]) F dX8_again_6 (by decide) rfl rfl ?_
  refine z_aload_n F dX8_again_7 rfl ?_
  refine zg_X8_now F (by with_reducible assumption) fl_X8_16 dX8_again_8 (fun hk_8 => ?_)
  refine z_iconst (v := 3) F dX8_again_11 (by decide) ?_
  refine z_iconst (v := 0) F dX8_again_12 (by decide) ?_
  refine z_iast10n (q := 3) F (by with_reducible assumption) (by decide) (by rw [hz3]; omega) dX8_again_13 ?_
  refine z_iload_n F dX8_again_14 rfl ?_
  refine z_iret F X dX8_again_15 ?_
  exact ⟨rfl, rfl⟩
theorem c_X8_type {l : Launch} {w : zE} (J : zJ w) {M : zM} {o len : Nat} {c : Int32} (hk : zk o = 8) (ho : o = 138) (hl : M.1 o 10 = nI len) (h120 : len ≤ 120) : zCi l w yX8_type cX8_type 2 (some .int) 1 [.ref (w.2.2 o), .int c] M (fun r M2 => ((c < 32 ∨ 126 < c) ∧ r = -1 ∧ M2 = M) ∨ (¬ (c < 32 ∨ 126 < c) ∧ len = 120 ∧ r = -3 ∧ M2 = M) ∨ (¬ (c < 32 ∨ 126 < c) ∧ len < 120 ∧ r = nI (len + 1) ∧ M2 = zs (zs M (o + 4) len c) o 10 (nI (len + 1)))) := by
  obtain ⟨hz1, hz2, hz3, hz4, hz5, hz6, hz7, hz8, hz9, hz10, hz11, hz12, hz13, hz14, hz15⟩ := zn8 ho
  have e1 : ∀ M q v, (zs M (o + 4) q v).1 o = M.1 o := fun M q v => zs_off _ (by omega)
  have e2 : ∀ M v, (zs M o 10 v).1 o 10 = v := fun M v => by rw [zs_at, va_up_self]
  refine zCi_of J zm_X8_type [some (.ref (w.2.2 o)), some (.int c)] (Nat.le_of_ble_eq_true rfl) rfl (fun g hg F X => ?_)
  subst hg
  refine z_iload_n F dX8_type_0 rfl ?_
  refine z_i2l F dX8_type_1 ?_
  refine z_ldc2 F dX8_type_2 cl_X8_117 ?_
  refine z_ldc2 F dX8_type_5 cl_X8_119 ?_
  refine z_callSi F (d_X8_in J (a := 32) (b := 126) (by decide) (by decide)) zm_X8_in zst_X8_in ml_X8_72 rfl rfl (Nat.le_of_ble_eq_true rfl) dX8_type_8 (by omega) (fun r_8 M_8 h_8 => ?_)
  obtain ⟨e_8, rfl⟩ := h_8
  replace e_8 := Eq.symm e_8
  subst e_8
  refine z_if_ne (tgt := 16) F dX8_type_11 (by decide) (fun h_11 => ?_) (fun h_11 => ?_)
  · replace h_11 := bI_1.mp h_11
    try simp only [e1, e2, hl] at h_11
    refine z_aload_n F dX8_type_16 rfl ?_
    refine zg_X8_taped F (by with_reducible assumption) fl_X8_121 dX8_type_17 ?_
    try simp only [e1, e2, hl]
    refine z_bipush (v := 120) F dX8_type_20 (by decide) ?_
    refine z_ic_ne (tgt := 28) F dX8_type_22 (by decide) (fun h_22 => ?_) (fun h_22 => ?_)
    · try simp only [e1, e2, hl] at h_22
      have h120' : len < 120 := by
        have : len ≠ 120 := fun e => h_22 (by rw [e]; rfl)
        omega
      refine z_aload_n F dX8_type_28 rfl ?_
      refine zg_X8_tape F (by with_reducible assumption) fl_X8_19 dX8_type_29 (fun hk_29 => ?_)
      refine z_aload_n F dX8_type_32 rfl ?_
      refine zg_X8_taped F (by with_reducible assumption) fl_X8_121 dX8_type_33 ?_
      try simp only [e1, e2, hl]
      refine z_iload_n F dX8_type_36 rfl ?_
      refine z_iast10n (q := len) F (by with_reducible assumption) (by first | with_reducible rfl | (simp only [n4, n2, n3, n5, n14, n16, na1, na2, na3, nI_add, nI_1, nI_pred]; done) | (simp only [n4, n2, n3, n5, n14, n16, na1, na2, na3, nI_add, nI_1, nI_pred, Nat.add_assoc, Nat.add_comm, Nat.add_left_comm]; done)) (by rw [hz4]; omega) dX8_type_37 ?_
      refine z_aload_n F dX8_type_38 rfl ?_
      refine z_dup F dX8_type_39 rfl ?_
      refine zg_X8_taped F (by with_reducible assumption) fl_X8_121 dX8_type_40 ?_
      try simp only [e1, e2, hl]
      refine z_iconst (v := 1) F dX8_type_43 (by decide) ?_
      refine z_iadd F dX8_type_44 ?_
      refine zp_X8_taped F (by with_reducible assumption) fl_X8_121 dX8_type_45 ?_
      refine z_aload_n F dX8_type_48 rfl ?_
      refine zg_X8_taped F (by with_reducible assumption) fl_X8_121 dX8_type_49 ?_
      try simp only [e1, e2, hl]
      refine z_iret F X dX8_type_52 ?_
      rw [nI_1]
      exact Or.inr (Or.inr ⟨by grind, h120', rfl, rfl⟩)
    · try simp only [e1, e2, hl] at h_22
      refine z_bipush (v := (-3)) F dX8_type_25 (by decide) ?_
      refine z_iret F X dX8_type_27 ?_
      exact Or.inr (Or.inl ⟨by grind, (nI_eq (b := 120) (by omega) (by decide)).mp h_22, rfl, rfl⟩)
  · replace h_11 := bI_0.mp h_11
    try simp only [e1, e2, hl] at h_11
    refine z_iconst (v := (-1)) F dX8_type_14 (by decide) ?_
    refine z_iret F X dX8_type_15 ?_
    exact Or.inl ⟨by grind, rfl, rfl⟩
/-- his start -/
def startT (T : zF1) : zF1 := fun q => if q = 0 then -4 else if q < 5 then 0 else if q < 14 then -4 else T q
def stT (T : zF1) (k : Nat) : zF1 := fun q => if k ≤ q then T q else startT T q
theorem stT_s (T : zF1) (k : Nat) {v : Int32} (hv : v = startT T k) : va_up (stT T k) k v = stT T (k + 1) := by
  funext q
  unfold va_up stT
  by_cases e : q = k
  · subst e
    rw [if_pos rfl, if_neg (by omega), hv]
  · rw [if_neg e]
    by_cases e2 : k ≤ q
    · exact (if_pos e2).trans (if_pos (show k + 1 ≤ q by omega)).symm
    · exact (if_neg e2).trans (if_neg (show ¬ k + 1 ≤ q by omega)).symm
theorem c_X8_starts {l : Launch} {w : zE} (J : zJ w) {M : zM} {o : Nat} (hk : zk o = 8) (ho : o = 138) : zCv l w yX8_starts cX8_starts 2 0 [.ref (w.2.2 o)] M (fun M2 => M2 = zs (za M (o + 3) (startT (M.1 (o + 3)))) o 20 0) := by
  obtain ⟨hz1, hz2, hz3, hz4, hz5, hz6, hz7, hz8, hz9, hz10, hz11, hz12, hz13, hz14, hz15⟩ := zn8 ho
  refine zCv_of J zm_X8_starts [some (.ref (w.2.2 o)), none] (Nat.le_of_ble_eq_true rfl) rfl (fun g hg F X => ?_)
  subst hg
  have key2 : ∀ (j k : Nat), k + j = 14 → 5 ≤ k → ZW w g 2 30 [some (.ref (w.2.2 o)), some (.int (nI k))] [] (za M (o + 3) (stT (M.1 (o + 3)) k)) := by
    intro j
    induction j with
    | zero =>
      intro k hkj h5
      have e : k = 14 := by omega
      subst e
      have e2 : stT (M.1 (o + 3)) 14 = startT (M.1 (o + 3)) := by
        funext q
        unfold stT startT
        by_cases h : 14 ≤ q
        · rw [if_pos h, if_neg (by omega), if_neg (by omega), if_neg (by omega)]
        · rw [if_neg h]
      rw [e2]
      refine z_iload_n F dX8_starts_30 rfl ?_
      refine z_bipush (v := 14) F dX8_starts_31 (by decide) ?_
      refine z_ic_ge (tgt := 50) F dX8_starts_33 (by decide) (fun h_33 => ?_) (fun h_33 => absurd h_33 (by decide))
      refine z_aload_n F dX8_starts_50 rfl ?_
      refine z_iconst (v := 0) F dX8_starts_51 (by decide) ?_
      refine zp_X8_undos F (by with_reducible assumption) fl_X8_66 dX8_starts_52 ?_
      refine z_vret F X dX8_starts_55 ?_
      rfl
    | succ j ih =>
      intro k hkj h5
      have ih2 := ih (k + 1) (by omega) (by omega)
      rw [← nI_1, ← stT_s (M.1 (o + 3)) k (v := -4) (by unfold startT; rw [if_neg (by omega), if_neg (by omega), if_pos (by omega)])] at ih2
      refine z_iload_n F dX8_starts_30 rfl ?_
      refine z_bipush (v := 14) F dX8_starts_31 (by decide) ?_
      refine z_ic_ge (tgt := 50) F dX8_starts_33 (by decide) (fun h_33 => absurd h_33 (nle (nI_lt (b := 14) (by omega) (by decide)))) (fun h_33 => ?_)
      refine z_aload_n F dX8_starts_36 rfl ?_
      refine zg_X8_now F (by with_reducible assumption) fl_X8_16 dX8_starts_37 (fun hk_37 => ?_)
      refine z_iload_n F dX8_starts_40 rfl ?_
      refine z_bipush (v := (-4)) F dX8_starts_41 (by decide) ?_
      refine z_iast10n (q := k) F (by with_reducible assumption) (by first | with_reducible rfl | (simp only [n4, n2, n3, n5, n14, n16, na1, na2, na3, nI_add, nI_1, nI_pred]; done) | (simp only [n4, n2, n3, n5, n14, n16, na1, na2, na3, nI_add, nI_1, nI_pred, Nat.add_assoc, Nat.add_comm, Nat.add_left_comm]; done)) (by rw [hz3]; omega) dX8_starts_43 ?_
      refine z_iincc (c := 1) (lv' := [_, _]) F dX8_starts_44 rfl (by decide) (by decide) rfl rfl ?_
      refine z_goto (tgt := 30) F dX8_starts_47 (by decide) ?_
      rw [zs_za, za_at, za_za]
      exact ih2
  have key1 : ∀ (j k : Nat), k + j = 5 → 1 ≤ k → ZW w g 2 10 [some (.ref (w.2.2 o)), some (.int (nI k))] [] (za M (o + 3) (stT (M.1 (o + 3)) k)) := by
    intro j
    induction j with
    | zero =>
      intro k hkj h5
      have e : k = 5 := by omega
      subst e
      refine z_iload_n F dX8_starts_10 rfl ?_
      refine z_iconst (v := 5) F dX8_starts_11 (by decide) ?_
      refine z_ic_ge (tgt := 28) F dX8_starts_12 (by decide) (fun h_12 => ?_) (fun h_12 => absurd h_12 (by decide))
      refine z_iconst (v := 5) F dX8_starts_28 (by decide) ?_
      refine z_istore_n (lv' := [_, _]) F dX8_starts_29 (by decide) rfl rfl ?_
      exact key2 9 5 (by omega) (by omega)
    | succ j ih =>
      intro k hkj h5
      have ih2 := ih (k + 1) (by omega) (by omega)
      rw [← nI_1, ← stT_s (M.1 (o + 3)) k (v := 0) (by unfold startT; rw [if_neg (by omega), if_pos (by omega)])] at ih2
      refine z_iload_n F dX8_starts_10 rfl ?_
      refine z_iconst (v := 5) F dX8_starts_11 (by decide) ?_
      refine z_ic_ge (tgt := 28) F dX8_starts_12 (by decide) (fun h_12 => absurd h_12 (nle (nI_lt (b := 5) (by omega) (by decide)))) (fun h_12 => ?_)
      refine z_aload_n F dX8_starts_15 rfl ?_
      refine zg_X8_now F (by with_reducible assumption) fl_X8_16 dX8_starts_16 (fun hk_16 => ?_)
      refine z_iload_n F dX8_starts_19 rfl ?_
      refine z_iconst (v := 0) F dX8_starts_20 (by decide) ?_
      refine z_iast10n (q := k) F (by with_reducible assumption) (by first | with_reducible rfl | (simp only [n4, n2, n3, n5, n14, n16, na1, na2, na3, nI_add, nI_1, nI_pred]; done) | (simp only [n4, n2, n3, n5, n14, n16, na1, na2, na3, nI_add, nI_1, nI_pred, Nat.add_assoc, Nat.add_comm, Nat.add_left_comm]; done)) (by rw [hz3]; omega) dX8_starts_21 ?_
      refine z_iincc (c := 1) (lv' := [_, _]) F dX8_starts_22 rfl (by decide) (by decide) rfl rfl ?_
      refine z_goto (tgt := 10) F dX8_starts_25 (by decide) ?_
      rw [zs_za, za_at, za_za]
      exact ih2
  refine z_aload_n F dX8_starts_0 rfl ?_
  refine zg_X8_now F (by with_reducible assumption) fl_X8_16 dX8_starts_1 (fun hk_1 => ?_)
  refine z_iconst (v := 0) F dX8_starts_4 (by decide) ?_
  refine z_bipush (v := (-4)) F dX8_starts_5 (by decide) ?_
  refine z_iast10n (q := 0) F (by with_reducible assumption) (by decide) (by rw [hz3]; omega) dX8_starts_7 ?_
  refine z_iconst (v := 1) F dX8_starts_8 (by decide) ?_
  refine z_istore_n (lv' := [_, _]) F dX8_starts_9 (by decide) rfl rfl ?_
  have k0 := key1 4 1 (by omega) (by omega)
  rw [← stT_s (M.1 (o + 3)) 0 (v := -4) rfl] at k0
  exact k0
