abbrev perBad (nt m x g : Int32) : Prop := (m < 0 ∨ 11 < m) ∨ (¬ x = -4 ∧ ¬ (0 ≤ x ∧ x < nt)) ∨ (g < 0 ∨ 20 < g)
abbrev perHad (T : zF1) (np : Nat) (x : Int32) : Prop := ¬ x = -4 ∧ ¬ whoF T np x = -4
theorem c_X7_person {l : Launch} {w : zE} (J : zJ w) {M : zM} {o np : Nat} {m x g2 : Int32} (hk : zk o = 7) (hnp : M.1 (o + 1 + 1) 1 = nI np) (h8 : np ≤ 8) : zCi l w yX7_person cX7_person 4 (some .int) 2 [.ref (w.2.2 o), .int m, .int x, .int g2] M (fun r M2 => (perBad (M.1 (o + 1 + 1) 0) m x g2 ∧ r = -1 ∧ M2 = M) ∨ (¬ perBad (M.1 (o + 1 + 1) 0) m x g2 ∧ perHad (M.1 (o + 1 + 15)) np x ∧ r = -2 ∧ M2 = M) ∨ (¬ perBad (M.1 (o + 1 + 1) 0) m x g2 ∧ ¬ perHad (M.1 (o + 1 + 15)) np x ∧ np = 8 ∧ r = -3 ∧ M2 = M) ∨ (¬ perBad (M.1 (o + 1 + 1) 0) m x g2 ∧ ¬ perHad (M.1 (o + 1 + 15)) np x ∧ np < 8 ∧ r = nI np ∧ M2 = zs (zs (zs (zs (zs M (o + 1) 3 0) (o + 1 + 1 + 12) (2 * np) m) (o + 1 + 1 + 12) (2 * np + 1) g2) (o + 1 + 15) (5 + np) x) (o + 1 + 1) 1 (nI (np + 1)))) := by
  have e1 : (zs M (o + 1) 3 0).1 (o + 1 + 1) = M.1 (o + 1 + 1) := zs_off _ (by omega)
  refine zCi_of J zm_X7_person [some (.ref (w.2.2 o)), some (.int m), some (.int x), some (.int g2)] (Nat.le_of_ble_eq_true rfl) rfl (fun g hg F X => ?_)
  subst hg
  refine z_iload_n F dX7_person_0 rfl ?_
  refine z_bipush (v := 11) F dX7_person_1 (by decide) ?_
  refine z_callSi F (c_X7_isNot J) zm_X7_isNot zst_X7_isNot ml_X7_40 rfl rfl (Nat.le_of_ble_eq_true rfl) dX7_person_3 (by omega) (fun r_3 M_3 h_3 => ?_)
  obtain ⟨e_3, rfl⟩ := h_3
  replace e_3 := Eq.symm e_3
  subst e_3
  refine z_if_ne (tgt := 26) F dX7_person_6 (by decide) (fun h_6 => ?_) (fun h_6 => ?_)
  · replace h_6 := bI_1.mp h_6
    refine z_iconst (v := (-1)) F dX7_person_26 (by decide) ?_
    refine z_iret F X dX7_person_27 ?_
    refine Or.inl ⟨?_, rfl, rfl⟩
    first | exact Or.inl h_6 | exact Or.inr (Or.inl h_14) | exact Or.inr (Or.inr h_23)
  · replace h_6 := bI_0.mp h_6
    refine z_aload_n F dX7_person_9 rfl ?_
    refine z_iload_n F dX7_person_10 rfl ?_
    refine z_callVi F (c_X7_isNoThingOrNone J hk) zm_X7_isNoThingOrNone zv_X7_isNoThingOrNone ml_X7_95 (by with_reducible assumption) (by decide) rfl rfl rfl (Nat.le_of_ble_eq_true rfl) dX7_person_11 (by omega) (fun r_11 M_11 h_11 => ?_)
    obtain ⟨e_11, rfl⟩ := h_11
    replace e_11 := Eq.symm e_11
    subst e_11
    refine z_if_ne (tgt := 26) F dX7_person_14 (by decide) (fun h_14 => ?_) (fun h_14 => ?_)
    · replace h_14 := bI_1.mp h_14
      refine z_iconst (v := (-1)) F dX7_person_26 (by decide) ?_
      refine z_iret F X dX7_person_27 ?_
      refine Or.inl ⟨?_, rfl, rfl⟩
      first | exact Or.inl h_6 | exact Or.inr (Or.inl h_14) | exact Or.inr (Or.inr h_23)
    · replace h_14 := bI_0.mp h_14
      refine z_iload_n F dX7_person_17 rfl ?_
      refine z_bipush (v := 20) F dX7_person_18 (by decide) ?_
      refine z_callSi F (c_X7_isNot J) zm_X7_isNot zst_X7_isNot ml_X7_40 rfl rfl (Nat.le_of_ble_eq_true rfl) dX7_person_20 (by omega) (fun r_20 M_20 h_20 => ?_)
      obtain ⟨e_20, rfl⟩ := h_20
      replace e_20 := Eq.symm e_20
      subst e_20
      refine z_if_eq (tgt := 28) F dX7_person_23 (by decide) (fun h_23 => ?_) (fun h_23 => ?_)
      · replace h_23 := bI_0.mp h_23
        refine z_iload_n F dX7_person_28 rfl ?_
        refine z_bipush (v := (-4)) F dX7_person_29 (by decide) ?_
        refine z_ic_eq (tgt := 45) F dX7_person_31 (by decide) (fun h_31 => ?_) (fun h_31 => ?_)
        · refine z_aload_n F dX7_person_45 rfl ?_
          refine zg_X7_now F (by with_reducible assumption) fl_X7_10 dX7_person_46 (fun hk_46 => ?_)
          refine zg_X6_road F (by with_reducible assumption) fl_X7_44 dX7_person_49 (fun hk_49 => ?_)
          refine zg_X1_personCount F (by with_reducible assumption) fl_X7_101 dX7_person_52 ?_
          refine z_bipush (v := 8) F dX7_person_55 (by decide) ?_
          refine z_ic_lt (tgt := 63) F dX7_person_57 (by decide) (fun h_57 => ?_) (fun h_57 => ?_)
          · refine z_aload_n F dX7_person_63 rfl ?_
            refine zg_X7_now F (by with_reducible assumption) fl_X7_10 dX7_person_64 (fun hk_64 => ?_)
            refine z_iconst (v := 0) F dX7_person_67 (by decide) ?_
            refine zp_X6_known F (by with_reducible assumption) fl_X7_54 dX7_person_68 ?_
            refine z_aload_n F dX7_person_71 rfl ?_
            refine zg_X7_now F (by with_reducible assumption) fl_X7_10 dX7_person_72 (fun hk_72 => ?_)
            refine zg_X6_road F (by with_reducible assumption) fl_X7_44 dX7_person_75 (fun hk_75 => ?_)
            refine z_iload_n F dX7_person_78 rfl ?_
            refine z_iload_n F dX7_person_79 rfl ?_
            refine z_iload_n F dX7_person_80 rfl ?_
            refine z_aload_n F dX7_person_81 rfl ?_
            refine zg_X7_now F (by with_reducible assumption) fl_X7_10 dX7_person_82 (fun hk_82 => ?_)
            refine zg_X6_trip F (by with_reducible assumption) fl_X7_83 dX7_person_85 (fun hk_85 => ?_)
            refine z_callVi F (c_X1_addPerson J (by with_reducible assumption) (by with_reducible assumption) (n := np) (by rw [e1]; exact hnp) (by omega)) zm_X1_addPerson zv_X1_addPerson ml_X7_104 (by with_reducible assumption) (by decide) rfl rfl rfl (Nat.le_of_ble_eq_true rfl) dX7_person_88 (by omega) (fun r_88 M_88 h_88 => ?_)
            obtain ⟨e_88, rfl⟩ := h_88
            replace e_88 := Eq.symm e_88
            subst e_88
            refine z_iret F X dX7_person_91 ?_
            refine Or.inr (Or.inr (Or.inr ⟨fun q => q.elim h_6 (fun q => q.elim h_14 h_23), ?_, ?_, rfl, rfl⟩))
            · first | exact fun q => q.1 h_31 | exact fun q => h_39 q.2
            · rw [hnp] at h_57
              exact (nI_ltI (b := 8) (by omega) (by decide)).mp h_57
          · refine z_bipush (v := (-3)) F dX7_person_60 (by decide) ?_
            refine z_iret F X dX7_person_62 ?_
            refine Or.inr (Or.inr (Or.inl ⟨fun q => q.elim h_6 (fun q => q.elim h_14 h_23), ?_, ?_, rfl, rfl⟩))
            · first | exact fun q => q.1 h_31 | exact fun q => h_39 q.2
            · rw [hnp] at h_57
              have := (nI_leI (a := 8) (by decide) (by omega)).mp h_57
              omega
        · refine z_aload_n F dX7_person_34 rfl ?_
          refine z_iload_n F dX7_person_35 rfl ?_
          refine z_callVi F (c_X7_isHad J hk hnp (by omega)) zm_X7_isHad zv_X7_isHad ml_X7_98 (by with_reducible assumption) (by decide) rfl rfl rfl (Nat.le_of_ble_eq_true rfl) dX7_person_36 (by omega) (fun r_36 M_36 h_36 => ?_)
          obtain ⟨e_36, rfl⟩ := h_36
          replace e_36 := Eq.symm e_36
          subst e_36
          refine z_if_eq (tgt := 45) F dX7_person_39 (by decide) (fun h_39 => ?_) (fun h_39 => ?_)
          · replace h_39 := bI_0.mp h_39
            refine z_aload_n F dX7_person_45 rfl ?_
            refine zg_X7_now F (by with_reducible assumption) fl_X7_10 dX7_person_46 (fun hk_46 => ?_)
            refine zg_X6_road F (by with_reducible assumption) fl_X7_44 dX7_person_49 (fun hk_49 => ?_)
            refine zg_X1_personCount F (by with_reducible assumption) fl_X7_101 dX7_person_52 ?_
            refine z_bipush (v := 8) F dX7_person_55 (by decide) ?_
            refine z_ic_lt (tgt := 63) F dX7_person_57 (by decide) (fun h_57 => ?_) (fun h_57 => ?_)
            · refine z_aload_n F dX7_person_63 rfl ?_
              refine zg_X7_now F (by with_reducible assumption) fl_X7_10 dX7_person_64 (fun hk_64 => ?_)
              refine z_iconst (v := 0) F dX7_person_67 (by decide) ?_
              refine zp_X6_known F (by with_reducible assumption) fl_X7_54 dX7_person_68 ?_
              refine z_aload_n F dX7_person_71 rfl ?_
              refine zg_X7_now F (by with_reducible assumption) fl_X7_10 dX7_person_72 (fun hk_72 => ?_)
              refine zg_X6_road F (by with_reducible assumption) fl_X7_44 dX7_person_75 (fun hk_75 => ?_)
              refine z_iload_n F dX7_person_78 rfl ?_
              refine z_iload_n F dX7_person_79 rfl ?_
              refine z_iload_n F dX7_person_80 rfl ?_
              refine z_aload_n F dX7_person_81 rfl ?_
              refine zg_X7_now F (by with_reducible assumption) fl_X7_10 dX7_person_82 (fun hk_82 => ?_)
              refine zg_X6_trip F (by with_reducible assumption) fl_X7_83 dX7_person_85 (fun hk_85 => ?_)
              refine z_callVi F (c_X1_addPerson J (by with_reducible assumption) (by with_reducible assumption) (n := np) (by rw [e1]; exact hnp) (by omega)) zm_X1_addPerson zv_X1_addPerson ml_X7_104 (by with_reducible assumption) (by decide) rfl rfl rfl (Nat.le_of_ble_eq_true rfl) dX7_person_88 (by omega) (fun r_88 M_88 h_88 => ?_)
              obtain ⟨e_88, rfl⟩ := h_88
              replace e_88 := Eq.symm e_88
              subst e_88
              refine z_iret F X dX7_person_91 ?_
              refine Or.inr (Or.inr (Or.inr ⟨fun q => q.elim h_6 (fun q => q.elim h_14 h_23), ?_, ?_, rfl, rfl⟩))
              · first | exact fun q => q.1 h_31 | exact fun q => h_39 q.2
              · rw [hnp] at h_57
                exact (nI_ltI (b := 8) (by omega) (by decide)).mp h_57
            · refine z_bipush (v := (-3)) F dX7_person_60 (by decide) ?_
              refine z_iret F X dX7_person_62 ?_
              refine Or.inr (Or.inr (Or.inl ⟨fun q => q.elim h_6 (fun q => q.elim h_14 h_23), ?_, ?_, rfl, rfl⟩))
              · first | exact fun q => q.1 h_31 | exact fun q => h_39 q.2
              · rw [hnp] at h_57
                have := (nI_leI (a := 8) (by decide) (by omega)).mp h_57
                omega
          · replace h_39 := bI_1.mp h_39
            refine z_bipush (v := (-2)) F dX7_person_42 (by decide) ?_
            refine z_iret F X dX7_person_44 ?_
            exact Or.inr (Or.inl ⟨fun q => q.elim h_6 (fun q => q.elim h_14 h_23), ⟨h_31, h_39⟩, rfl, rfl⟩)
      · replace h_23 := bI_1.mp h_23
        refine z_iconst (v := (-1)) F dX7_person_26 (by decide) ?_
        refine z_iret F X dX7_person_27 ?_
        refine Or.inl ⟨?_, rfl, rfl⟩
        first | exact Or.inl h_6 | exact Or.inr (Or.inl h_14) | exact Or.inr (Or.inr h_23)
def toldS (rb pe T : zF1) (p k : Int32) : Int32 := if 0 ≤ p ∧ p < rb 1 then (if k = 0 then pe (2 * p.toNatClampNeg) else if k = 1 then T (5 + p.toNatClampNeg) else if k = 2 then pe (2 * p.toNatClampNeg + 1) else -1) else -1
theorem c_X7_told {l : Launch} {w : zE} (J : zJ w) {M : zM} {o : Nat} {p k : Int32} (hk : zk o = 7) (h8 : M.1 (o + 1 + 1) 1 ≤ 8) : zCi l w yX7_told cX7_told 3 (some .int) 1 [.ref (w.2.2 o), .int p, .int k] M (fun r M2 => M2 = M ∧ r = toldS (M.1 (o + 1 + 1)) (M.1 (o + 1 + 1 + 12)) (M.1 (o + 1 + 15)) p k) := by
  refine zCi_of J zm_X7_told [some (.ref (w.2.2 o)), some (.int p), some (.int k)] (Nat.le_of_ble_eq_true rfl) rfl (fun g hg F X => ?_)
  subst hg
  refine z_aload_n F dX7_told_0 rfl ?_
  refine zg_X7_now F (by with_reducible assumption) fl_X7_10 dX7_told_1 (fun hk_1 => ?_)
  refine zg_X6_road F (by with_reducible assumption) fl_X7_44 dX7_told_4 (fun hk_4 => ?_)
  refine z_iload_n F dX7_told_7 rfl ?_
  refine z_callVi F (c_X1_isPerson J (by with_reducible assumption)) zm_X1_isPerson zv_X1_isPerson ml_X7_108 (by with_reducible assumption) (by decide) rfl rfl rfl (Nat.le_of_ble_eq_true rfl) dX7_told_8 (by omega) (fun r_8 M_8 h_8 => ?_)
  obtain ⟨e_8, rfl⟩ := h_8
  replace e_8 := Eq.symm e_8
  subst e_8
  refine z_if_ne (tgt := 16) F dX7_told_11 (by decide) (fun h_11 => ?_) (fun h_11 => ?_)
  · replace h_11 := bI_1.mp h_11
    refine z_iload_n F dX7_told_16 rfl ?_
    refine z_tab3 F dX7_told_17 (tgt0 := 44) (tgt1 := 57) (tgt2 := 70) (dt := 83) (by decide) (by decide) (by decide) (by decide) (fun h_17 => ?_) (fun h_17 => ?_) (fun h_17 => ?_) (fun h_17_0 h_17_1 h_17_2 => ?_)
    · refine z_aload_n F dX7_told_44 rfl ?_
      refine zg_X7_now F (by with_reducible assumption) fl_X7_10 dX7_told_45 (fun hk_45 => ?_)
      refine zg_X6_road F (by with_reducible assumption) fl_X7_44 dX7_told_48 (fun hk_48 => ?_)
      refine zg_X1_where F (by with_reducible assumption) fl_X7_111 dX7_told_51 (fun hk_51 => ?_)
      refine z_iload_n F dX7_told_54 rfl ?_
      refine z_iald12 F (by with_reducible assumption) (vpl 9 (by decide) ⟨h_11.1, Int32.lt_of_lt_of_le h_11.2 (Int32.le_trans h8 (by decide))⟩) dX7_told_55 ?_
      refine z_iret F X dX7_told_56 ?_
      refine ⟨rfl, ?_⟩
      rw [toldS, if_pos h_11]
      first
        | (subst h_17; rfl)
        | (rw [if_neg h_17_0, if_neg h_17_1, if_neg h_17_2])
    · refine z_aload_n F dX7_told_57 rfl ?_
      refine zg_X7_now F (by with_reducible assumption) fl_X7_10 dX7_told_58 (fun hk_58 => ?_)
      refine zg_X6_trip F (by with_reducible assumption) fl_X7_83 dX7_told_61 (fun hk_61 => ?_)
      refine zg_X5_theirs F (by with_reducible assumption) fl_X7_115 dX7_told_64 (fun hk_64 => ?_)
      refine z_iload_n F dX7_told_67 rfl ?_
      refine z_iald11 F (by with_reducible assumption) (vpl 9 (by decide) ⟨h_11.1, Int32.lt_of_lt_of_le h_11.2 (Int32.le_trans h8 (by decide))⟩) dX7_told_68 ?_
      refine z_iret F X dX7_told_69 ?_
      refine ⟨rfl, ?_⟩
      rw [toldS, if_pos h_11]
      first
        | (subst h_17; rfl)
        | (rw [if_neg h_17_0, if_neg h_17_1, if_neg h_17_2])
    · refine z_aload_n F dX7_told_70 rfl ?_
      refine zg_X7_now F (by with_reducible assumption) fl_X7_10 dX7_told_71 (fun hk_71 => ?_)
      refine zg_X6_road F (by with_reducible assumption) fl_X7_44 dX7_told_74 (fun hk_74 => ?_)
      refine zg_X1_margin F (by with_reducible assumption) fl_X7_120 dX7_told_77 (fun hk_77 => ?_)
      refine z_iload_n F dX7_told_80 rfl ?_
      refine z_iald13 F (by with_reducible assumption) (vpl 9 (by decide) ⟨h_11.1, Int32.lt_of_lt_of_le h_11.2 (Int32.le_trans h8 (by decide))⟩) dX7_told_81 ?_
      refine z_iret F X dX7_told_82 ?_
      refine ⟨rfl, ?_⟩
      rw [toldS, if_pos h_11]
      first
        | (subst h_17; rfl)
        | (rw [if_neg h_17_0, if_neg h_17_1, if_neg h_17_2])
    · refine z_iconst (v := (-1)) F dX7_told_83 (by decide) ?_
      refine z_iret F X dX7_told_84 ?_
      refine ⟨rfl, ?_⟩
      rw [toldS, if_pos h_11]
      first
        | (subst h_17; rfl)
        | (rw [if_neg h_17_0, if_neg h_17_1, if_neg h_17_2])
  · replace h_11 := bI_0.mp h_11
    refine z_iconst (v := (-1)) F dX7_told_14 (by decide) ?_
    refine z_iret F X dX7_told_15 ?_
    exact ⟨rfl, by rw [toldS, if_neg h_11]⟩
theorem c_X7_move {l : Launch} {w : zE} (J : zJ w) {M : zM} {o : Nat} {p m : Int32} (hk : zk o = 7) (h8 : M.1 (o + 1 + 1) 1 ≤ 8) : zCi l w yX7_move cX7_move 4 (some .int) 1 [.ref (w.2.2 o), .int p, .int m] M (fun r M2 => ((0 ≤ p ∧ p < M.1 (o + 1 + 1) 1) ∧ ¬ (m < 0 ∨ 11 < m) ∧ r = M.1 (o + 1 + 1 + 12) (2 * p.toNatClampNeg) ∧ M2 = zs M (o + 1 + 1 + 12) (2 * p.toNatClampNeg) m) ∨ (¬ ((0 ≤ p ∧ p < M.1 (o + 1 + 1) 1) ∧ ¬ (m < 0 ∨ 11 < m)) ∧ r = -1 ∧ M2 = M)) := by
  refine zCi_of J zm_X7_move [some (.ref (w.2.2 o)), some (.int p), some (.int m), none] (Nat.le_of_ble_eq_true rfl) rfl (fun g hg F X => ?_)
  subst hg
  refine z_aload_n F dX7_move_0 rfl ?_
  refine zg_X7_now F (by with_reducible assumption) fl_X7_10 dX7_move_1 (fun hk_1 => ?_)
  refine zg_X6_road F (by with_reducible assumption) fl_X7_44 dX7_move_4 (fun hk_4 => ?_)
  refine z_iload_n F dX7_move_7 rfl ?_
  refine z_callVi F (c_X1_isPerson J (by with_reducible assumption)) zm_X1_isPerson zv_X1_isPerson ml_X7_108 (by with_reducible assumption) (by decide) rfl rfl rfl (Nat.le_of_ble_eq_true rfl) dX7_move_8 (by omega) (fun r_8 M_8 h_8 => ?_)
  obtain ⟨e_8, rfl⟩ := h_8
  replace e_8 := Eq.symm e_8
  subst e_8
  refine z_if_eq (tgt := 23) F dX7_move_11 (by decide) (fun h_11 => ?_) (fun h_11 => ?_)
  · replace h_11 := bI_0.mp h_11
    refine z_iconst (v := (-1)) F dX7_move_23 (by decide) ?_
    refine z_iret F X dX7_move_24 ?_
    refine Or.inr ⟨?_, rfl, rfl⟩
    first | exact fun q => h_11 q.1 | exact fun q => q.2 h_20
  · replace h_11 := bI_1.mp h_11
    refine z_iload_n F dX7_move_14 rfl ?_
    refine z_bipush (v := 11) F dX7_move_15 (by decide) ?_
    refine z_callSi F (c_X7_isNot J) zm_X7_isNot zst_X7_isNot ml_X7_40 rfl rfl (Nat.le_of_ble_eq_true rfl) dX7_move_17 (by omega) (fun r_17 M_17 h_17 => ?_)
    obtain ⟨e_17, rfl⟩ := h_17
    replace e_17 := Eq.symm e_17
    subst e_17
    refine z_if_eq (tgt := 25) F dX7_move_20 (by decide) (fun h_20 => ?_) (fun h_20 => ?_)
    · replace h_20 := bI_0.mp h_20
      refine z_aload_n F dX7_move_25 rfl ?_
      refine zg_X7_now F (by with_reducible assumption) fl_X7_10 dX7_move_26 (fun hk_26 => ?_)
      refine zg_X6_road F (by with_reducible assumption) fl_X7_44 dX7_move_29 (fun hk_29 => ?_)
      refine zg_X1_where F (by with_reducible assumption) fl_X7_111 dX7_move_32 (fun hk_32 => ?_)
      refine z_iload_n F dX7_move_35 rfl ?_
      refine z_iald12 F (by with_reducible assumption) (vpl 9 (by decide) ⟨h_11.1, Int32.lt_of_lt_of_le h_11.2 (Int32.le_trans h8 (by decide))⟩) dX7_move_36 ?_
      refine z_istore_n (lv' := [_, _, _, _]) F dX7_move_37 (by decide) rfl rfl ?_
      refine z_aload_n F dX7_move_38 rfl ?_
      refine zg_X7_now F (by with_reducible assumption) fl_X7_10 dX7_move_39 (fun hk_39 => ?_)
      refine zg_X6_road F (by with_reducible assumption) fl_X7_44 dX7_move_42 (fun hk_42 => ?_)
      refine zg_X1_where F (by with_reducible assumption) fl_X7_111 dX7_move_45 (fun hk_45 => ?_)
      refine z_iload_n F dX7_move_48 rfl ?_
      refine z_iload_n F dX7_move_49 rfl ?_
      refine z_iast12 F (by with_reducible assumption) (vpl 9 (by decide) ⟨h_11.1, Int32.lt_of_lt_of_le h_11.2 (Int32.le_trans h8 (by decide))⟩) dX7_move_50 ?_
      refine z_iload_n F dX7_move_51 rfl ?_
      refine z_iret F X dX7_move_52 ?_
      exact Or.inl ⟨h_11, h_20, rfl, rfl⟩
    · replace h_20 := bI_1.mp h_20
      refine z_iconst (v := (-1)) F dX7_move_23 (by decide) ?_
      refine z_iret F X dX7_move_24 ?_
      refine Or.inr ⟨?_, rfl, rfl⟩
      first | exact fun q => h_11 q.1 | exact fun q => q.2 h_20
abbrev takBad (nt x : Int32) : Prop := ¬ x = -4 ∧ ¬ (0 ≤ x ∧ x < nt)
abbrev takHad (T : zF1) (np : Nat) (x : Int32) : Prop := ¬ x = -4 ∧ ¬ x = T 0 ∧ ¬ whoF T np x = -4
theorem c_X7_take {l : Launch} {w : zE} (J : zJ w) {M : zM} {o np : Nat} {x : Int32} (hk : zk o = 7) (hnp : M.1 (o + 1 + 1) 1 = nI np) (h8 : np ≤ 8) : zCi l w yX7_take cX7_take 3 (some .int) 2 [.ref (w.2.2 o), .int x] M (fun r M2 => (takBad (M.1 (o + 1 + 1) 0) x ∧ r = -1 ∧ M2 = M) ∨ (¬ takBad (M.1 (o + 1 + 1) 0) x ∧ takHad (M.1 (o + 1 + 15)) np x ∧ r = -2 ∧ M2 = M) ∨ (¬ takBad (M.1 (o + 1 + 1) 0) x ∧ ¬ takHad (M.1 (o + 1 + 15)) np x ∧ r = M.1 (o + 1 + 15) 0 ∧ M2 = zs (zs M (o + 1 + 15) 0 x) (o + 1 + 15) 1 0)) := by
  refine zCi_of J zm_X7_take [some (.ref (w.2.2 o)), some (.int x), none] (Nat.le_of_ble_eq_true rfl) rfl (fun g hg F X => ?_)
  subst hg
  refine z_aload_n F dX7_take_0 rfl ?_
  refine z_iload_n F dX7_take_1 rfl ?_
  refine z_callVi F (c_X7_isNoThingOrNone J hk) zm_X7_isNoThingOrNone zv_X7_isNoThingOrNone ml_X7_95 (by with_reducible assumption) (by decide) rfl rfl rfl (Nat.le_of_ble_eq_true rfl) dX7_take_2 (by omega) (fun r_2 M_2 h_2 => ?_)
  obtain ⟨e_2, rfl⟩ := h_2
  replace e_2 := Eq.symm e_2
  subst e_2
  refine z_if_eq (tgt := 10) F dX7_take_5 (by decide) (fun h_5 => ?_) (fun h_5 => ?_)
  · replace h_5 := bI_0.mp h_5
    refine z_aload_n F dX7_take_10 rfl ?_
    refine zg_X7_now F (by with_reducible assumption) fl_X7_10 dX7_take_11 (fun hk_11 => ?_)
    refine zg_X6_trip F (by with_reducible assumption) fl_X7_83 dX7_take_14 (fun hk_14 => ?_)
    refine zg_X5_his F (by with_reducible assumption) fl_X7_123 dX7_take_17 ?_
    refine z_istore_n (lv' := [_, _, _]) F dX7_take_20 (by decide) rfl rfl ?_
    refine z_iload_n F dX7_take_21 rfl ?_
    refine z_bipush (v := (-4)) F dX7_take_22 (by decide) ?_
    refine z_ic_eq (tgt := 43) F dX7_take_24 (by decide) (fun h_24 => ?_) (fun h_24 => ?_)
    · refine z_aload_n F dX7_take_43 rfl ?_
      refine zg_X7_now F (by with_reducible assumption) fl_X7_10 dX7_take_44 (fun hk_44 => ?_)
      refine zg_X6_trip F (by with_reducible assumption) fl_X7_83 dX7_take_47 (fun hk_47 => ?_)
      refine z_iload_n F dX7_take_50 rfl ?_
      refine z_callVv F (c_X5_hasNew J (by with_reducible assumption)) zm_X5_hasNew zv_X5_hasNew ml_X7_126 (by with_reducible assumption) (by decide) rfl rfl rfl (Nat.le_of_ble_eq_true rfl) dX7_take_51 (by omega) (fun M_51 h_51 => ?_)
      replace h_51 := Eq.symm h_51
      subst h_51
      refine z_iload_n F dX7_take_54 rfl ?_
      refine z_iret F X dX7_take_55 ?_
      refine Or.inr (Or.inr ⟨h_5, ?_, rfl, rfl⟩)
      first | exact fun q => q.1 h_24 | exact fun q => q.2.1 h_29 | exact fun q => h_37 q.2.2
    · refine z_iload_n F dX7_take_27 rfl ?_
      refine z_iload_n F dX7_take_28 rfl ?_
      refine z_ic_eq (tgt := 43) F dX7_take_29 (by decide) (fun h_29 => ?_) (fun h_29 => ?_)
      · refine z_aload_n F dX7_take_43 rfl ?_
        refine zg_X7_now F (by with_reducible assumption) fl_X7_10 dX7_take_44 (fun hk_44 => ?_)
        refine zg_X6_trip F (by with_reducible assumption) fl_X7_83 dX7_take_47 (fun hk_47 => ?_)
        refine z_iload_n F dX7_take_50 rfl ?_
        refine z_callVv F (c_X5_hasNew J (by with_reducible assumption)) zm_X5_hasNew zv_X5_hasNew ml_X7_126 (by with_reducible assumption) (by decide) rfl rfl rfl (Nat.le_of_ble_eq_true rfl) dX7_take_51 (by omega) (fun M_51 h_51 => ?_)
        replace h_51 := Eq.symm h_51
        subst h_51
        refine z_iload_n F dX7_take_54 rfl ?_
        refine z_iret F X dX7_take_55 ?_
        refine Or.inr (Or.inr ⟨h_5, ?_, rfl, rfl⟩)
        first | exact fun q => q.1 h_24 | exact fun q => q.2.1 h_29 | exact fun q => h_37 q.2.2
      · refine z_aload_n F dX7_take_32 rfl ?_
        refine z_iload_n F dX7_take_33 rfl ?_
        refine z_callVi F (c_X7_isHad J hk hnp (by omega)) zm_X7_isHad zv_X7_isHad ml_X7_98 (by with_reducible assumption) (by decide) rfl rfl rfl (Nat.le_of_ble_eq_true rfl) dX7_take_34 (by omega) (fun r_34 M_34 h_34 => ?_)
        obtain ⟨e_34, rfl⟩ := h_34
        replace e_34 := Eq.symm e_34
        subst e_34
        refine z_if_eq (tgt := 43) F dX7_take_37 (by decide) (fun h_37 => ?_) (fun h_37 => ?_)
        · replace h_37 := bI_0.mp h_37
          refine z_aload_n F dX7_take_43 rfl ?_
          refine zg_X7_now F (by with_reducible assumption) fl_X7_10 dX7_take_44 (fun hk_44 => ?_)
          refine zg_X6_trip F (by with_reducible assumption) fl_X7_83 dX7_take_47 (fun hk_47 => ?_)
          refine z_iload_n F dX7_take_50 rfl ?_
          refine z_callVv F (c_X5_hasNew J (by with_reducible assumption)) zm_X5_hasNew zv_X5_hasNew ml_X7_126 (by with_reducible assumption) (by decide) rfl rfl rfl (Nat.le_of_ble_eq_true rfl) dX7_take_51 (by omega) (fun M_51 h_51 => ?_)
          replace h_51 := Eq.symm h_51
          subst h_51
          refine z_iload_n F dX7_take_54 rfl ?_
          refine z_iret F X dX7_take_55 ?_
          refine Or.inr (Or.inr ⟨h_5, ?_, rfl, rfl⟩)
          first | exact fun q => q.1 h_24 | exact fun q => q.2.1 h_29 | exact fun q => h_37 q.2.2
        · replace h_37 := bI_1.mp h_37
          refine z_bipush (v := (-2)) F dX7_take_40 (by decide) ?_
          refine z_iret F X dX7_take_42 ?_
          exact Or.inr (Or.inl ⟨h_5, ⟨h_24, h_29, h_37⟩, rfl, rfl⟩)
  · replace h_5 := bI_1.mp h_5
    refine z_iconst (v := (-1)) F dX7_take_8 (by decide) ?_
    refine z_iret F X dX7_take_9 ?_
    exact Or.inl ⟨h_5, rfl, rfl⟩
def cntS (rb T : zF1) (kn k : Int32) : Int32 := if k = 0 then rb 0 else if k = 1 then rb 1 else if k = 2 then T 3 else if k = 3 then T 0 else if k = 4 then T 1 else if k = 5 then T 2 else if k = 6 then rb 2 else if k = 7 then rb 3 else if k = 8 then T 4 else if k = 9 then kn else -1
theorem c_X7_count {l : Launch} {w : zE} (J : zJ w) {M : zM} {o : Nat} {k : Int32} (hk : zk o = 7) : zCi l w yX7_count cX7_count 2 (some .int) 0 [.ref (w.2.2 o), .int k] M (fun r M2 => M2 = M ∧ r = cntS (M.1 (o + 1 + 1)) (M.1 (o + 1 + 15)) (M.1 (o + 1) 3) k) := by
  refine zCi_of J zm_X7_count [some (.ref (w.2.2 o)), some (.int k)] (Nat.le_of_ble_eq_true rfl) rfl (fun g hg F X => ?_)
  subst hg
  refine z_iload_n F dX7_count_0 rfl ?_
  refine z_tab10 F dX7_count_1 (tgt0 := 56) (tgt1 := 67) (tgt2 := 78) (tgt3 := 89) (tgt4 := 100) (tgt5 := 111) (tgt6 := 122) (tgt7 := 133) (tgt8 := 144) (tgt9 := 155) (dt := 163) (by decide) (by decide) (by decide) (by decide) (by decide) (by decide) (by decide) (by decide) (by decide) (by decide) (by decide) (fun h_1 => ?_) (fun h_1 => ?_) (fun h_1 => ?_) (fun h_1 => ?_) (fun h_1 => ?_) (fun h_1 => ?_) (fun h_1 => ?_) (fun h_1 => ?_) (fun h_1 => ?_) (fun h_1 => ?_) (fun h_1_0 h_1_1 h_1_2 h_1_3 h_1_4 h_1_5 h_1_6 h_1_7 h_1_8 h_1_9 => ?_)
  · refine z_aload_n F dX7_count_56 rfl ?_
    refine zg_X7_now F (by with_reducible assumption) fl_X7_10 dX7_count_57 (fun hk_57 => ?_)
    refine zg_X6_road F (by with_reducible assumption) fl_X7_44 dX7_count_60 (fun hk_60 => ?_)
    refine zg_X1_thingCount F (by with_reducible assumption) fl_X7_48 dX7_count_63 ?_
    refine z_iret F X dX7_count_66 ?_
    refine ⟨rfl, ?_⟩
    unfold cntS
    first
      | (subst h_1; rfl)
      | (rw [if_neg h_1_0, if_neg h_1_1, if_neg h_1_2, if_neg h_1_3, if_neg h_1_4, if_neg h_1_5, if_neg h_1_6, if_neg h_1_7, if_neg h_1_8, if_neg h_1_9])
  · refine z_aload_n F dX7_count_67 rfl ?_
    refine zg_X7_now F (by with_reducible assumption) fl_X7_10 dX7_count_68 (fun hk_68 => ?_)
    refine zg_X6_road F (by with_reducible assumption) fl_X7_44 dX7_count_71 (fun hk_71 => ?_)
    refine zg_X1_personCount F (by with_reducible assumption) fl_X7_101 dX7_count_74 ?_
    refine z_iret F X dX7_count_77 ?_
    refine ⟨rfl, ?_⟩
    unfold cntS
    first
      | (subst h_1; rfl)
      | (rw [if_neg h_1_0, if_neg h_1_1, if_neg h_1_2, if_neg h_1_3, if_neg h_1_4, if_neg h_1_5, if_neg h_1_6, if_neg h_1_7, if_neg h_1_8, if_neg h_1_9])
  · refine z_aload_n F dX7_count_78 rfl ?_
    refine zg_X7_now F (by with_reducible assumption) fl_X7_10 dX7_count_79 (fun hk_79 => ?_)
    refine zg_X6_trip F (by with_reducible assumption) fl_X7_83 dX7_count_82 (fun hk_82 => ?_)
    refine zg_X5_ahead F (by with_reducible assumption) fl_X7_130 dX7_count_85 ?_
    refine z_iret F X dX7_count_88 ?_
    refine ⟨rfl, ?_⟩
    unfold cntS
    first
      | (subst h_1; rfl)
      | (rw [if_neg h_1_0, if_neg h_1_1, if_neg h_1_2, if_neg h_1_3, if_neg h_1_4, if_neg h_1_5, if_neg h_1_6, if_neg h_1_7, if_neg h_1_8, if_neg h_1_9])
  · refine z_aload_n F dX7_count_89 rfl ?_
    refine zg_X7_now F (by with_reducible assumption) fl_X7_10 dX7_count_90 (fun hk_90 => ?_)
    refine zg_X6_trip F (by with_reducible assumption) fl_X7_83 dX7_count_93 (fun hk_93 => ?_)
    refine zg_X5_his F (by with_reducible assumption) fl_X7_123 dX7_count_96 ?_
    refine z_iret F X dX7_count_99 ?_
    refine ⟨rfl, ?_⟩
    unfold cntS
    first
      | (subst h_1; rfl)
      | (rw [if_neg h_1_0, if_neg h_1_1, if_neg h_1_2, if_neg h_1_3, if_neg h_1_4, if_neg h_1_5, if_neg h_1_6, if_neg h_1_7, if_neg h_1_8, if_neg h_1_9])
  · refine z_aload_n F dX7_count_100 rfl ?_
    refine zg_X7_now F (by with_reducible assumption) fl_X7_10 dX7_count_101 (fun hk_101 => ?_)
    refine zg_X6_trip F (by with_reducible assumption) fl_X7_83 dX7_count_104 (fun hk_104 => ?_)
    refine zg_X5_n F (by with_reducible assumption) fl_X7_133 dX7_count_107 ?_
    refine z_iret F X dX7_count_110 ?_
    refine ⟨rfl, ?_⟩
    unfold cntS
    first
      | (subst h_1; rfl)
      | (rw [if_neg h_1_0, if_neg h_1_1, if_neg h_1_2, if_neg h_1_3, if_neg h_1_4, if_neg h_1_5, if_neg h_1_6, if_neg h_1_7, if_neg h_1_8, if_neg h_1_9])
  · refine z_aload_n F dX7_count_111 rfl ?_
    refine zg_X7_now F (by with_reducible assumption) fl_X7_10 dX7_count_112 (fun hk_112 => ?_)
    refine zg_X6_trip F (by with_reducible assumption) fl_X7_83 dX7_count_115 (fun hk_115 => ?_)
    refine zg_X5_mind F (by with_reducible assumption) fl_X7_136 dX7_count_118 ?_
    refine z_iret F X dX7_count_121 ?_
    refine ⟨rfl, ?_⟩
    unfold cntS
    first
      | (subst h_1; rfl)
      | (rw [if_neg h_1_0, if_neg h_1_1, if_neg h_1_2, if_neg h_1_3, if_neg h_1_4, if_neg h_1_5, if_neg h_1_6, if_neg h_1_7, if_neg h_1_8, if_neg h_1_9])
  · refine z_aload_n F dX7_count_122 rfl ?_
    refine zg_X7_now F (by with_reducible assumption) fl_X7_10 dX7_count_123 (fun hk_123 => ?_)
    refine zg_X6_road F (by with_reducible assumption) fl_X7_44 dX7_count_126 (fun hk_126 => ?_)
    refine zg_X1_heed F (by with_reducible assumption) fl_X7_139 dX7_count_129 ?_
    refine z_iret F X dX7_count_132 ?_
    refine ⟨rfl, ?_⟩
    unfold cntS
    first
      | (subst h_1; rfl)
      | (rw [if_neg h_1_0, if_neg h_1_1, if_neg h_1_2, if_neg h_1_3, if_neg h_1_4, if_neg h_1_5, if_neg h_1_6, if_neg h_1_7, if_neg h_1_8, if_neg h_1_9])
  · refine z_aload_n F dX7_count_133 rfl ?_
    refine zg_X7_now F (by with_reducible assumption) fl_X7_10 dX7_count_134 (fun hk_134 => ?_)
    refine zg_X6_road F (by with_reducible assumption) fl_X7_44 dX7_count_137 (fun hk_137 => ?_)
    refine zg_X1_well F (by with_reducible assumption) fl_X7_142 dX7_count_140 ?_
    refine z_iret F X dX7_count_143 ?_
    refine ⟨rfl, ?_⟩
    unfold cntS
    first
      | (subst h_1; rfl)
      | (rw [if_neg h_1_0, if_neg h_1_1, if_neg h_1_2, if_neg h_1_3, if_neg h_1_4, if_neg h_1_5, if_neg h_1_6, if_neg h_1_7, if_neg h_1_8, if_neg h_1_9])
  · refine z_aload_n F dX7_count_144 rfl ?_
    refine zg_X7_now F (by with_reducible assumption) fl_X7_10 dX7_count_145 (fun hk_145 => ?_)
    refine zg_X6_trip F (by with_reducible assumption) fl_X7_83 dX7_count_148 (fun hk_148 => ?_)
    refine zg_X5_changes F (by with_reducible assumption) fl_X7_145 dX7_count_151 ?_
    refine z_iret F X dX7_count_154 ?_
    refine ⟨rfl, ?_⟩
    unfold cntS
    first
      | (subst h_1; rfl)
      | (rw [if_neg h_1_0, if_neg h_1_1, if_neg h_1_2, if_neg h_1_3, if_neg h_1_4, if_neg h_1_5, if_neg h_1_6, if_neg h_1_7, if_neg h_1_8, if_neg h_1_9])
  · refine z_aload_n F dX7_count_155 rfl ?_
    refine zg_X7_now F (by with_reducible assumption) fl_X7_10 dX7_count_156 (fun hk_156 => ?_)
    refine zg_X6_known F (by with_reducible assumption) fl_X7_54 dX7_count_159 ?_
    refine z_iret F X dX7_count_162 ?_
    refine ⟨rfl, ?_⟩
    unfold cntS
    first
      | (subst h_1; rfl)
      | (rw [if_neg h_1_0, if_neg h_1_1, if_neg h_1_2, if_neg h_1_3, if_neg h_1_4, if_neg h_1_5, if_neg h_1_6, if_neg h_1_7, if_neg h_1_8, if_neg h_1_9])
  · refine z_iconst (v := (-1)) F dX7_count_163 (by decide) ?_
    refine z_iret F X dX7_count_164 ?_
    refine ⟨rfl, ?_⟩
    unfold cntS
    first
      | (subst h_1; rfl)
      | (rw [if_neg h_1_0, if_neg h_1_1, if_neg h_1_2, if_neg h_1_3, if_neg h_1_4, if_neg h_1_5, if_neg h_1_6, if_neg h_1_7, if_neg h_1_8, if_neg h_1_9])
theorem c_X7_heed {l : Launch} {w : zE} (J : zJ w) {M : zM} {o : Nat} {v : Int32} (hk : zk o = 7) : zCi l w yX7_heed cX7_heed 3 (some .int) 1 [.ref (w.2.2 o), .int v] M (fun r M2 => ((v < 0 ∨ 99 < v) ∧ r = -1 ∧ M2 = M) ∨ (¬ (v < 0 ∨ 99 < v) ∧ r = M.1 (o + 1 + 1) 2 ∧ M2 = zs M (o + 1 + 1) 2 v)) := by
  refine zCi_of J zm_X7_heed [some (.ref (w.2.2 o)), some (.int v), none] (Nat.le_of_ble_eq_true rfl) rfl (fun g hg F X => ?_)
  subst hg
  refine z_iload_n F dX7_heed_0 rfl ?_
  refine z_bipush (v := 99) F dX7_heed_1 (by decide) ?_
  refine z_callSi F (c_X7_isNot J) zm_X7_isNot zst_X7_isNot ml_X7_40 rfl rfl (Nat.le_of_ble_eq_true rfl) dX7_heed_3 (by omega) (fun r_3 M_3 h_3 => ?_)
  obtain ⟨e_3, rfl⟩ := h_3
  replace e_3 := Eq.symm e_3
  subst e_3
  refine z_if_eq (tgt := 11) F dX7_heed_6 (by decide) (fun h_6 => ?_) (fun h_6 => ?_)
  · replace h_6 := bI_0.mp h_6
    refine z_aload_n F dX7_heed_11 rfl ?_
    refine zg_X7_now F (by with_reducible assumption) fl_X7_10 dX7_heed_12 (fun hk_12 => ?_)
    refine zg_X6_road F (by with_reducible assumption) fl_X7_44 dX7_heed_15 (fun hk_15 => ?_)
    refine zg_X1_heed F (by with_reducible assumption) fl_X7_139 dX7_heed_18 ?_
    refine z_istore_n (lv' := [_, _, _]) F dX7_heed_21 (by decide) rfl rfl ?_
    refine z_aload_n F dX7_heed_22 rfl ?_
    refine zg_X7_now F (by with_reducible assumption) fl_X7_10 dX7_heed_23 (fun hk_23 => ?_)
    refine zg_X6_road F (by with_reducible assumption) fl_X7_44 dX7_heed_26 (fun hk_26 => ?_)
    refine z_iload_n F dX7_heed_29 rfl ?_
    refine zp_X1_heed F (by with_reducible assumption) fl_X7_139 dX7_heed_30 ?_
    refine z_iload_n F dX7_heed_33 rfl ?_
    refine z_iret F X dX7_heed_34 ?_
    exact Or.inr ⟨h_6, rfl, rfl⟩
  · replace h_6 := bI_1.mp h_6
    refine z_iconst (v := (-1)) F dX7_heed_9 (by decide) ?_
    refine z_iret F X dX7_heed_10 ?_
    exact Or.inl ⟨h_6, rfl, rfl⟩
theorem c_X7_well {l : Launch} {w : zE} (J : zJ w) {M : zM} {o : Nat} {v : Int32} (hk : zk o = 7) : zCi l w yX7_well cX7_well 3 (some .int) 1 [.ref (w.2.2 o), .int v] M (fun r M2 => ((¬ v = -4 ∧ (v < 0 ∨ 11 < v)) ∧ r = -1 ∧ M2 = M) ∨ (¬ (¬ v = -4 ∧ (v < 0 ∨ 11 < v)) ∧ r = M.1 (o + 1 + 1) 3 ∧ M2 = zs M (o + 1 + 1) 3 v)) := by
  refine zCi_of J zm_X7_well [some (.ref (w.2.2 o)), some (.int v), none] (Nat.le_of_ble_eq_true rfl) rfl (fun g hg F X => ?_)
  subst hg
  refine z_iload_n F dX7_well_0 rfl ?_
  refine z_bipush (v := (-4)) F dX7_well_1 (by decide) ?_
  refine z_ic_eq (tgt := 17) F dX7_well_3 (by decide) (fun h_3 => ?_) (fun h_3 => ?_)
  · refine z_aload_n F dX7_well_17 rfl ?_
    refine zg_X7_now F (by with_reducible assumption) fl_X7_10 dX7_well_18 (fun hk_18 => ?_)
    refine zg_X6_road F (by with_reducible assumption) fl_X7_44 dX7_well_21 (fun hk_21 => ?_)
    refine zg_X1_well F (by with_reducible assumption) fl_X7_142 dX7_well_24 ?_
    refine z_istore_n (lv' := [_, _, _]) F dX7_well_27 (by decide) rfl rfl ?_
    refine z_aload_n F dX7_well_28 rfl ?_
    refine zg_X7_now F (by with_reducible assumption) fl_X7_10 dX7_well_29 (fun hk_29 => ?_)
    refine zg_X6_road F (by with_reducible assumption) fl_X7_44 dX7_well_32 (fun hk_32 => ?_)
    refine z_iload_n F dX7_well_35 rfl ?_
    refine zp_X1_well F (by with_reducible assumption) fl_X7_142 dX7_well_36 ?_
    refine z_iload_n F dX7_well_39 rfl ?_
    refine z_iret F X dX7_well_40 ?_
    refine Or.inr ⟨?_, rfl, rfl⟩
    first | exact fun q => q.1 h_3 | exact fun q => h_12 q.2
  · refine z_iload_n F dX7_well_6 rfl ?_
    refine z_bipush (v := 11) F dX7_well_7 (by decide) ?_
    refine z_callSi F (c_X7_isNot J) zm_X7_isNot zst_X7_isNot ml_X7_40 rfl rfl (Nat.le_of_ble_eq_true rfl) dX7_well_9 (by omega) (fun r_9 M_9 h_9 => ?_)
    obtain ⟨e_9, rfl⟩ := h_9
    replace e_9 := Eq.symm e_9
    subst e_9
    refine z_if_eq (tgt := 17) F dX7_well_12 (by decide) (fun h_12 => ?_) (fun h_12 => ?_)
    · replace h_12 := bI_0.mp h_12
      refine z_aload_n F dX7_well_17 rfl ?_
      refine zg_X7_now F (by with_reducible assumption) fl_X7_10 dX7_well_18 (fun hk_18 => ?_)
      refine zg_X6_road F (by with_reducible assumption) fl_X7_44 dX7_well_21 (fun hk_21 => ?_)
      refine zg_X1_well F (by with_reducible assumption) fl_X7_142 dX7_well_24 ?_
      refine z_istore_n (lv' := [_, _, _]) F dX7_well_27 (by decide) rfl rfl ?_
      refine z_aload_n F dX7_well_28 rfl ?_
      refine zg_X7_now F (by with_reducible assumption) fl_X7_10 dX7_well_29 (fun hk_29 => ?_)
      refine zg_X6_road F (by with_reducible assumption) fl_X7_44 dX7_well_32 (fun hk_32 => ?_)
      refine z_iload_n F dX7_well_35 rfl ?_
      refine zp_X1_well F (by with_reducible assumption) fl_X7_142 dX7_well_36 ?_
      refine z_iload_n F dX7_well_39 rfl ?_
      refine z_iret F X dX7_well_40 ?_
      refine Or.inr ⟨?_, rfl, rfl⟩
      first | exact fun q => q.1 h_3 | exact fun q => h_12 q.2
    · replace h_12 := bI_1.mp h_12
      refine z_iconst (v := (-1)) F dX7_well_15 (by decide) ?_
      refine z_iret F X dX7_well_16 ?_
      exact Or.inl ⟨⟨h_3, h_12⟩, rfl, rfl⟩
theorem c_X7_type {l : Launch} {w : zE} (J : zJ w) {M : zM} {o len : Nat} {c : Int32} (hk : zk o = 7) (hl : M.1 (o + 69) 1 = nI len) (h120 : len ≤ 120) : zCi l w yX7_type cX7_type 2 (some .int) 0 [.ref (w.2.2 o), .int c] M (fun r M2 => ((c < 32 ∨ 126 < c) ∧ r = -1 ∧ M2 = M) ∨ (¬ (c < 32 ∨ 126 < c) ∧ len = 120 ∧ r = -3 ∧ M2 = M) ∨ (¬ (c < 32 ∨ 126 < c) ∧ len < 120 ∧ r = nI (len + 1) ∧ M2 = zs (zs M (o + 69 + 1) len c) (o + 69) 1 (nI (len + 1)))) := by
  have hpc : (nI len).toNatClampNeg = len := nI_clamp (by omega)
  have e1 : ∀ v, (zs M (o + 69 + 1) len v).1 (o + 69) = M.1 (o + 69) := fun v => zs_off _ (by omega)
  refine zCi_of J zm_X7_type [some (.ref (w.2.2 o)), some (.int c)] (Nat.le_of_ble_eq_true rfl) rfl (fun g hg F X => ?_)
  subst hg
  refine z_iload_n F dX7_type_0 rfl ?_
  refine z_bipush (v := 32) F dX7_type_1 (by decide) ?_
  refine z_ic_lt (tgt := 12) F dX7_type_3 (by decide) (fun h_3 => ?_) (fun h_3 => ?_)
  · try simp only [hl, e1, zs_at, va_up_self, nI_1] at h_3
    refine z_iconst (v := (-1)) F dX7_type_12 (by decide) ?_
    refine z_iret F X dX7_type_13 ?_
    refine Or.inl ⟨?_, rfl, rfl⟩
    first | exact Or.inl h_3 | exact Or.inr h_9
  · try simp only [hl, e1, zs_at, va_up_self, nI_1] at h_3
    refine z_iload_n F dX7_type_6 rfl ?_
    refine z_bipush (v := 126) F dX7_type_7 (by decide) ?_
    refine z_ic_le (tgt := 14) F dX7_type_9 (by decide) (fun h_9 => ?_) (fun h_9 => ?_)
    · try simp only [hl, e1, zs_at, va_up_self, nI_1] at h_9
      refine z_aload_n F dX7_type_14 rfl ?_
      refine zg_X7_tape F (by with_reducible assumption) fl_X7_22 dX7_type_15 (fun hk_15 => ?_)
      refine zg_X3_length F (by with_reducible assumption) fl_X7_148 dX7_type_18 ?_
      try simp only [hl, e1, zs_at, va_up_self, nI_1]
      refine z_bipush (v := 120) F dX7_type_21 (by decide) ?_
      refine z_ic_lt (tgt := 29) F dX7_type_23 (by decide) (fun h_23 => ?_) (fun h_23 => ?_)
      · try simp only [hl, e1, zs_at, va_up_self, nI_1] at h_23
        refine z_aload_n F dX7_type_29 rfl ?_
        refine zg_X7_tape F (by with_reducible assumption) fl_X7_22 dX7_type_30 (fun hk_30 => ?_)
        refine zg_X3_letters F (by with_reducible assumption) fl_X7_151 dX7_type_33 (fun hk_33 => ?_)
        refine z_aload_n F dX7_type_36 rfl ?_
        refine zg_X7_tape F (by with_reducible assumption) fl_X7_22 dX7_type_37 (fun hk_37 => ?_)
        refine zg_X3_length F (by with_reducible assumption) fl_X7_148 dX7_type_40 ?_
        try simp only [hl, e1, zs_at, va_up_self, nI_1]
        refine z_iload_n F dX7_type_43 rfl ?_
        refine z_i2c F dX7_type_44 ?_
        have hcn : ∃ k, k < 128 ∧ c = nI k := by
          obtain ⟨k, hk1, hk2⟩ := nI_of2 (x := c) (M := 126) (n := 126) (by decide) (Int32.not_lt.mpr (Int32.le_trans (by decide) h_3)) h_9
          exact ⟨k, by omega, hk2⟩
        obtain ⟨k, hk1, hk2⟩ := hcn
        have hcc : (c.toUInt32 % 65536).toInt32 = c := by rw [hk2]; exact (by decide +kernel : ∀ k, k < 128 → ((nI k).toUInt32 % 65536).toInt32 = nI k) k hk1
        have hcv : vp_nar .char c = c := by rw [hk2]; exact (by decide +kernel : ∀ k, k < 128 → vp_nar .char (nI k) = nI k) k hk1
        have hlt : len < 120 := (nI_ltI (b := 120) (by omega) (by decide)).mp h_23
        rw [hcc]
        refine z_cast9 F (by with_reducible assumption) (vp_in_nI hlt (by decide)) hcv dX7_type_45 ?_
        rw [hpc]
        refine z_aload_n F dX7_type_46 rfl ?_
        refine zg_X7_tape F (by with_reducible assumption) fl_X7_22 dX7_type_47 (fun hk_47 => ?_)
        refine z_dup F dX7_type_50 rfl ?_
        refine zg_X3_length F (by with_reducible assumption) fl_X7_148 dX7_type_51 ?_
        try simp only [hl, e1, zs_at, va_up_self, nI_1]
        refine z_iconst (v := 1) F dX7_type_54 (by decide) ?_
        refine z_iadd F dX7_type_55 ?_
        refine zp_X3_length F (by with_reducible assumption) fl_X7_148 dX7_type_56 ?_
        refine z_aload_n F dX7_type_59 rfl ?_
        refine zg_X7_tape F (by with_reducible assumption) fl_X7_22 dX7_type_60 (fun hk_60 => ?_)
        refine zg_X3_length F (by with_reducible assumption) fl_X7_148 dX7_type_63 ?_
        try simp only [hl, e1, zs_at, va_up_self, nI_1]
        refine z_iret F X dX7_type_66 ?_
        exact Or.inr (Or.inr ⟨fun q => q.elim (nlt h_3) (nlt h_9), hlt, rfl, rfl⟩)
      · try simp only [hl, e1, zs_at, va_up_self, nI_1] at h_23
        refine z_bipush (v := (-3)) F dX7_type_26 (by decide) ?_
        refine z_iret F X dX7_type_28 ?_
        refine Or.inr (Or.inl ⟨fun q => q.elim (nlt h_3) (nlt h_9), ?_, rfl, rfl⟩)
        have := (nI_leI (a := 120) (by decide) (by omega)).mp h_23
        omega
    · try simp only [hl, e1, zs_at, va_up_self, nI_1] at h_9
      refine z_iconst (v := (-1)) F dX7_type_12 (by decide) ?_
      refine z_iret F X dX7_type_13 ?_
      refine Or.inl ⟨?_, rfl, rfl⟩
      first | exact Or.inl h_3 | exact Or.inr h_9
theorem c_X7_again {l : Launch} {w : zE} (J : zJ w) {M : zM} {o : Nat} (hk : zk o = 7) : zCi l w yX7_again cX7_again 2 (some .int) 0 [.ref (w.2.2 o)] M (fun r M2 => r = M.1 (o + 1 + 15) 3 ∧ M2 = zs M (o + 1 + 15) 3 0) := by
  refine zCi_of J zm_X7_again [some (.ref (w.2.2 o)), none] (Nat.le_of_ble_eq_true rfl) rfl (fun g hg F X => ?_)
  subst hg
  refine z_aload_n F dX7_again_0 rfl ?_
  refine zg_X7_now F (by with_reducible assumption) fl_X7_10 dX7_again_1 (fun hk_1 => ?_)
  refine zg_X6_trip F (by with_reducible assumption) fl_X7_83 dX7_again_4 (fun hk_4 => ?_)
  refine zg_X5_ahead F (by with_reducible assumption) fl_X7_130 dX7_again_7 ?_
  refine z_istore_n (lv' := [_, _]) F dX7_again_10 (by decide) rfl rfl ?_
  refine z_aload_n F dX7_again_11 rfl ?_
  refine zg_X7_now F (by with_reducible assumption) fl_X7_10 dX7_again_12 (fun hk_12 => ?_)
  refine zg_X6_trip F (by with_reducible assumption) fl_X7_83 dX7_again_15 (fun hk_15 => ?_)
  refine z_iconst (v := 0) F dX7_again_18 (by decide) ?_
  refine zp_X5_ahead F (by with_reducible assumption) fl_X7_130 dX7_again_19 ?_
  refine z_iload_n F dX7_again_22 rfl ?_
  refine z_iret F X dX7_again_23 ?_
  exact ⟨rfl, rfl⟩
theorem c_X7_undo {l : Launch} {w : zE} (J : zJ w) {M : zM} {o k : Nat} (hk : zk o = 7) (hp : pmF (M.1 (o + 1 + 17))) (hn : M.1 (o + 1) 3 = nI k) (h8 : k ≤ 8) : zCi l w yX7_undo cX7_undo 1 (some .int) 3 [.ref (w.2.2 o)] M (fun r M2 => (k = 0 ∧ r = -4 ∧ M2 = M) ∨ (∃ j, k = j + 1 ∧ r = nI j ∧ M2 = za (zs M (o + 1) 3 (nI j)) (o + 1 + 15) (M.1 (o + 1 + 18 + 2 * (M.1 (o + 1 + 17) j).toNatClampNeg)))) := by
  refine zCi_of J zm_X7_undo [some (.ref (w.2.2 o))] (Nat.le_of_ble_eq_true rfl) rfl (fun g hg F X => ?_)
  subst hg
  match k, h8, hn with
  | 0, h8, hn =>
    refine z_aload_n F dX7_undo_0 rfl ?_
    refine zg_X7_now F (by with_reducible assumption) fl_X7_10 dX7_undo_1 (fun hk_1 => ?_)
    refine zg_X6_known F (by with_reducible assumption) fl_X7_54 dX7_undo_4 ?_
    try simp only [hn]
    refine z_if_gt (tgt := 13) F dX7_undo_7 (by decide) (fun h_7 => absurd h_7 (by decide)) (fun h_7 => ?_)
    refine z_bipush (v := (-4)) F dX7_undo_10 (by decide) ?_
    refine z_iret F X dX7_undo_12 ?_
    exact Or.inl ⟨rfl, rfl, rfl⟩
  | j + 1, h8, hn =>
    have hj : 0 < nI (j + 1) := nI_lt (a := 0) (by omega) (by omega)
    refine z_aload_n F dX7_undo_0 rfl ?_
    refine zg_X7_now F (by with_reducible assumption) fl_X7_10 dX7_undo_1 (fun hk_1 => ?_)
    refine zg_X6_known F (by with_reducible assumption) fl_X7_54 dX7_undo_4 ?_
    try simp only [hn, za_off _ (show o + 1 ≠ o + 1 + 15 by omega), zs_at, va_up_self]
    refine z_if_gt (tgt := 13) F dX7_undo_7 (by decide) (fun h_7 => ?_) (fun h_7 => absurd h_7 (Int32.not_le.mpr hj))
    refine z_aload_n F dX7_undo_13 rfl ?_
    refine zg_X7_now F (by with_reducible assumption) fl_X7_10 dX7_undo_14 (fun hk_14 => ?_)
    refine z_callVv F (c_X6_stepBack J (by with_reducible assumption) hp hn (by omega)) zm_X6_stepBack zv_X6_stepBack ml_X7_178 (by with_reducible assumption) (by decide) rfl rfl rfl (Nat.le_of_ble_eq_true rfl) dX7_undo_17 (by omega) (fun M_17 h_17 => ?_)
    replace h_17 := Eq.symm h_17
    subst h_17
    refine z_aload_n F dX7_undo_20 rfl ?_
    refine zg_X7_now F (by with_reducible assumption) fl_X7_10 dX7_undo_21 (fun hk_21 => ?_)
    refine zg_X6_known F (by with_reducible assumption) fl_X7_54 dX7_undo_24 ?_
    try simp only [hn, za_off _ (show o + 1 ≠ o + 1 + 15 by omega), zs_at, va_up_self]
    refine z_iret F X dX7_undo_27 ?_
    exact Or.inr ⟨j, rfl, rfl, rfl⟩
theorem c_X7_go {l : Launch} {w : zE} (J : zJ w) {M : zM} {o k np : Nat} (hk : zk o = 7) (hp : pmF (M.1 (o + 1 + 17))) (hn : M.1 (o + 1) 3 = nI k) (h8 : k ≤ 8) (hnt : M.1 (o + 1 + 1) 0 ≤ 10) (hnp : M.1 (o + 1 + 1) 1 = nI np) (hnp9 : np ≤ 8) : zCi l w yX7_go cX7_go 1 (some .int) 4 [.ref (w.2.2 o)] M (fun r M2 => (12 ≤ M.1 (o + 1 + 15) 3 ∧ r = -2 ∧ M2 = M) ∨ (M.1 (o + 1 + 15) 3 < 12 ∧ ∃ rf, r = (passF (M.1 (o + 1 + 1)) (M.1 (o + 1 + 1 + 1)) (M.1 (o + 1 + 1 + 12)) np 1 (M.1 (o + 1 + 15), M.1 (o + 1 + 15 + 1) 0)).1 4 - M.1 (o + 1 + 15) 4 ∧ M2 = zt (remF M (o + 1) k) (o + 1 + 15) (passF (M.1 (o + 1 + 1)) (M.1 (o + 1 + 1 + 1)) (M.1 (o + 1 + 1 + 12)) np 1 (M.1 (o + 1 + 15), M.1 (o + 1 + 15 + 1) 0)).1 rf)) := by
  have q0 : ∀ b, b ≠ o + 1 → (b < o + 1 + 17 ∨ o + 1 + 34 ≤ b) → (remF M (o + 1) k).1 b = M.1 b := by
    intro b h1 h2
    unfold remF
    have l0 := hp.lt (k := 0) (by decide)
    split
    · next hc =>
      have lk := hp.lt hc
      rw [zs_off _ h1, za_off _ (by omega)]
    · rw [zs_off _ h1, za_off _ (by omega), za_off _ (by omega)]
  refine zCi_of J zm_X7_go [some (.ref (w.2.2 o))] (Nat.le_of_ble_eq_true rfl) rfl (fun g hg F X => ?_)
  subst hg
  refine z_aload_n F dX7_go_0 rfl ?_
  refine zg_X7_now F (by with_reducible assumption) fl_X7_10 dX7_go_1 (fun hk_1 => ?_)
  refine zg_X6_trip F (by with_reducible assumption) fl_X7_83 dX7_go_4 (fun hk_4 => ?_)
  refine zg_X5_ahead F (by with_reducible assumption) fl_X7_130 dX7_go_7 ?_
  refine z_bipush (v := 12) F dX7_go_10 (by decide) ?_
  refine z_ic_lt (tgt := 18) F dX7_go_12 (by decide) (fun h_12 => ?_) (fun h_12 => ?_)
  · refine z_aload_n F dX7_go_18 rfl ?_
    refine zg_X7_now F (by with_reducible assumption) fl_X7_10 dX7_go_19 (fun hk_19 => ?_)
    refine z_callVv F (c_X6_remember J (by with_reducible assumption) hp hn h8) zm_X6_remember zv_X6_remember ml_X7_171 (by with_reducible assumption) (by decide) rfl rfl rfl (Nat.le_of_ble_eq_true rfl) dX7_go_22 (by omega) (fun M_22 h_22 => ?_)
    replace h_22 := Eq.symm h_22
    subst h_22
    refine z_aload_n F dX7_go_25 rfl ?_
    refine zg_X7_now F (by with_reducible assumption) fl_X7_10 dX7_go_26 (fun hk_26 => ?_)
    refine zg_X6_road F (by with_reducible assumption) fl_X7_44 dX7_go_29 (fun hk_29 => ?_)
    refine z_aload_n F dX7_go_32 rfl ?_
    refine zg_X7_now F (by with_reducible assumption) fl_X7_10 dX7_go_33 (fun hk_33 => ?_)
    refine zg_X6_trip F (by with_reducible assumption) fl_X7_83 dX7_go_36 (fun hk_36 => ?_)
    refine z_iconst (v := 1) F dX7_go_39 (by decide) ?_
    refine z_callVi F (c_X1_pass J (by with_reducible assumption) (by with_reducible assumption) (by rw [q0 _ (by omega) (by omega)]; exact hnt) (np := np) (by rw [q0 _ (by omega) (by omega)]; exact hnp) (by omega)) zm_X1_pass zv_X1_pass ml_X7_174 (by with_reducible assumption) (by decide) rfl rfl rfl (Nat.le_of_ble_eq_true rfl) dX7_go_40 (by omega) (fun r_40 M_40 h_40 => ?_)
    obtain ⟨e_40, rfl⟩ := h_40
    replace e_40 := Eq.symm e_40
    subst e_40
    refine z_iret F X dX7_go_43 ?_
    rw [q0 (o + 1 + 1) (by omega) (by omega), q0 (o + 1 + 1 + 1) (by omega) (by omega), q0 (o + 1 + 1 + 12) (by omega) (by omega), q0 (o + 1 + 15) (by omega) (by omega), q0 (o + 1 + 15 + 1) (by omega) (by omega)]
    exact Or.inr ⟨h_12, _, rfl, rfl⟩
  · refine z_bipush (v := (-2)) F dX7_go_15 (by decide) ?_
    refine z_iret F X dX7_go_17 ?_
    exact Or.inl ⟨h_12, rfl, rfl⟩
