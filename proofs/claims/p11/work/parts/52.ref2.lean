theorem n_in {x : Int32} {n : Nat} (h : 0 ≤ x ∧ x < nI n) (hn : n < 2 ^ 31) : ∃ j, j < n ∧ x = nI j := by
  obtain ⟨j, hj, rfl⟩ := nI_of (Int32.not_lt.mpr h.1)
  exact ⟨j, (nI_ltI hj hn).mp h.2, rfl⟩
/-- who has it, the last one who does -/
def whoR (T : zF1) (x : Int32) : Nat → Int32
  | 0 => if T 0 = x then 8 else -4
  | p + 1 => if T (5 + p) = x then nI p else whoR T x p
theorem c_X8_who {l : Launch} {w : zE} (J : zJ w) {M : zM} {o np : Nat} {x : Int32} (hk : zk o = 8) (ho : o = 138) (hnp : M.1 o 1 = nI np) (h8 : np ≤ 8) : zCi l w yX8_who cX8_who 4 (some .int) 0 [.ref (w.2.2 o), .int x] M (fun r M2 => M2 = M ∧ r = whoR (M.1 (o + 3)) x np) := by
  obtain ⟨hz1, hz2, hz3, hz4, hz5, hz6, hz7, hz8, hz9, hz10, hz11, hz12, hz13, hz14, hz15⟩ := zn8 ho
  refine zCi_of J zm_X8_who [some (.ref (w.2.2 o)), some (.int x), none, none] (Nat.le_of_ble_eq_true rfl) rfl (fun g hg F X => ?_)
  subst hg
  have key : ∀ (j k : Nat), k + j = np → ZW w g 4 20 [some (.ref (w.2.2 o)), some (.int x), some (.int (whoR (M.1 (o + 3)) x k)), some (.int (nI k))] [] M := by
    intro j
    induction j with
    | zero =>
      intro k hkj
      have e : k = np := by omega
      subst e
      refine z_iload_n F dX8_who_20 rfl ?_
      refine z_aload_n F dX8_who_21 rfl ?_
      refine zg_X8_people F (by with_reducible assumption) fl_X8_76 dX8_who_22 ?_
      try simp only [hnp]
      refine z_ic_ge (tgt := 52) F dX8_who_25 (by decide) (fun h_25 => ?_) (fun h_25 => absurd h_25 (nlt (Int32.le_refl _)))
      refine z_iload_n F dX8_who_52 rfl ?_
      refine z_iret F X dX8_who_53 ?_
      exact ⟨rfl, rfl⟩
    | succ j ih =>
      intro k hkj
      refine z_iload_n F dX8_who_20 rfl ?_
      refine z_aload_n F dX8_who_21 rfl ?_
      refine zg_X8_people F (by with_reducible assumption) fl_X8_76 dX8_who_22 ?_
      try simp only [hnp]
      refine z_ic_ge (tgt := 52) F dX8_who_25 (by decide) (fun h_25 => absurd h_25 (nle (nI_lt (by omega) (by omega)))) (fun h_25 => ?_)
      refine z_aload_n F dX8_who_28 rfl ?_
      refine zg_X8_now F (by with_reducible assumption) fl_X8_16 dX8_who_29 (fun hk_29 => ?_)
      refine z_iconst (v := 5) F dX8_who_32 (by decide) ?_
      refine z_iload_n F dX8_who_33 rfl ?_
      refine z_iadd F dX8_who_34 ?_
      refine z_iald10n (q := (5 + k)) F (by with_reducible assumption) (by first | with_reducible rfl | (simp only [n4, n2, n3, n5, n14, n16, na1, na2, na3, nI_add, nI_1, nI_pred]; done) | (simp only [n4, n2, n3, n5, n14, n16, na1, na2, na3, nI_add, nI_1, nI_pred, Nat.add_assoc, Nat.add_comm, Nat.add_left_comm]; done)) (by rw [hz3]; omega) dX8_who_35 ?_
      try simp only [hnp]
      refine z_iload_n F dX8_who_36 rfl ?_
      refine z_ic_ne (tgt := 44) F dX8_who_37 (by decide) (fun h_37 => ?_) (fun h_37 => ?_)
      · try simp only [hnp] at h_37
        refine z_iload_n F dX8_who_44 rfl ?_
        refine z_istore_n (lv' := [_, _, _, _]) F dX8_who_45 (by decide) rfl rfl ?_
        refine z_iincc (c := 1) (lv' := [_, _, _, _]) F dX8_who_46 rfl (by decide) (by decide) rfl rfl ?_
        refine z_goto (tgt := 20) F dX8_who_49 (by decide) ?_
        have k1 := ih (k + 1) (by omega)
        rw [whoR, if_neg h_37, ← nI_1] at k1
        exact k1
      · try simp only [hnp] at h_37
        refine z_iload_n F dX8_who_40 rfl ?_
        refine z_goto (tgt := 45) F dX8_who_41 (by decide) ?_
        refine z_istore_n (lv' := [_, _, _, _]) F dX8_who_45 (by decide) rfl rfl ?_
        refine z_iincc (c := 1) (lv' := [_, _, _, _]) F dX8_who_46 rfl (by decide) (by decide) rfl rfl ?_
        refine z_goto (tgt := 20) F dX8_who_49 (by decide) ?_
        have k1 := ih (k + 1) (by omega)
        rw [whoR, if_pos h_37, ← nI_1] at k1
        exact k1
  refine z_aload_n F dX8_who_0 rfl ?_
  refine zg_X8_now F (by with_reducible assumption) fl_X8_16 dX8_who_1 (fun hk_1 => ?_)
  refine z_iconst (v := 0) F dX8_who_4 (by decide) ?_
  refine z_iald10n (q := 0) F (by with_reducible assumption) (by decide) (by rw [hz3]; omega) dX8_who_5 ?_
  refine z_iload_n F dX8_who_6 rfl ?_
  refine z_ic_ne (tgt := 15) F dX8_who_7 (by decide) (fun h_7 => ?_) (fun h_7 => ?_)
  · refine z_bipush (v := (-4)) F dX8_who_15 (by decide) ?_
    refine z_istore_n (lv' := [_, _, _, _]) F dX8_who_17 (by decide) rfl rfl ?_
    refine z_iconst (v := 0) F dX8_who_18 (by decide) ?_
    refine z_istore_n (lv' := [_, _, _, _]) F dX8_who_19 (by decide) rfl rfl ?_
    have k0 := key np 0 (by omega)
    rw [whoR, if_neg h_7] at k0
    exact k0
  · refine z_bipush (v := 8) F dX8_who_10 (by decide) ?_
    refine z_goto (tgt := 17) F dX8_who_12 (by decide) ?_
    refine z_istore_n (lv' := [_, _, _, _]) F dX8_who_17 (by decide) rfl rfl ?_
    refine z_iconst (v := 0) F dX8_who_18 (by decide) ?_
    refine z_istore_n (lv' := [_, _, _, _]) F dX8_who_19 (by decide) rfl rfl ?_
    have k0 := key np 0 (by omega)
    rw [whoR, if_pos h_7] at k0
    exact k0
theorem c_X8_thingComes {l : Launch} {w : zE} (J : zJ w) {M : zM} {o nt : Nat} {a b c d : Int32} (hk : zk o = 8) (ho : o = 138) (hnt : M.1 o 0 = nI nt) (h10 : nt < 10) : zCv l w yX8_thingComes cX8_thingComes 5 0 [.ref (w.2.2 o), .int a, .int b, .int c, .int d] M (fun M2 => M2 = zs (za M (o + 1) (setF (M.1 (o + 1)) nt a b c d)) o 0 (nI (nt + 1))) := by
  obtain ⟨hz1, hz2, hz3, hz4, hz5, hz6, hz7, hz8, hz9, hz10, hz11, hz12, hz13, hz14, hz15⟩ := zn8 ho
  have e1 : ∀ M q v, (zs M (o + 1) q v).1 o = M.1 o := fun M q v => zs_off _ (by omega)
  refine zCv_of J zm_X8_thingComes [some (.ref (w.2.2 o)), some (.int a), some (.int b), some (.int c), some (.int d)] (Nat.le_of_ble_eq_true rfl) rfl (fun g hg F X => ?_)
  subst hg
  refine z_aload_n F dX8_thingComes_0 rfl ?_
  refine zg_X8_thing F (by with_reducible assumption) fl_X8_7 dX8_thingComes_1 (fun hk_1 => ?_)
  refine z_iconst (v := 4) F dX8_thingComes_4 (by decide) ?_
  refine z_aload_n F dX8_thingComes_5 rfl ?_
  refine zg_X8_things F (by with_reducible assumption) fl_X8_69 dX8_thingComes_6 ?_
  try simp only [e1, hnt]
  refine z_imul F dX8_thingComes_9 ?_
  refine z_iload_n F dX8_thingComes_10 rfl ?_
  refine z_iast10n (q := (4 * nt)) F (by with_reducible assumption) (by first | with_reducible rfl | (simp only [n4, n2, n3, n5, n14, n16, na1, na2, na3, nI_add, nI_1, nI_pred]; done) | (simp only [n4, n2, n3, n5, n14, n16, na1, na2, na3, nI_add, nI_1, nI_pred, Nat.add_assoc, Nat.add_comm, Nat.add_left_comm]; done)) (by rw [hz1]; omega) dX8_thingComes_11 ?_
  refine z_aload_n F dX8_thingComes_12 rfl ?_
  refine zg_X8_thing F (by with_reducible assumption) fl_X8_7 dX8_thingComes_13 (fun hk_13 => ?_)
  refine z_iconst (v := 4) F dX8_thingComes_16 (by decide) ?_
  refine z_aload_n F dX8_thingComes_17 rfl ?_
  refine zg_X8_things F (by with_reducible assumption) fl_X8_69 dX8_thingComes_18 ?_
  try simp only [e1, hnt]
  refine z_imul F dX8_thingComes_21 ?_
  refine z_iconst (v := 1) F dX8_thingComes_22 (by decide) ?_
  refine z_iadd F dX8_thingComes_23 ?_
  refine z_iload_n F dX8_thingComes_24 rfl ?_
  refine z_iast10n (q := ((4 * nt) + 1)) F (by with_reducible assumption) (by first | with_reducible rfl | (simp only [n4, n2, n3, n5, n14, n16, na1, na2, na3, nI_add, nI_1, nI_pred]; done) | (simp only [n4, n2, n3, n5, n14, n16, na1, na2, na3, nI_add, nI_1, nI_pred, Nat.add_assoc, Nat.add_comm, Nat.add_left_comm]; done)) (by rw [hz1]; omega) dX8_thingComes_25 ?_
  refine z_aload_n F dX8_thingComes_26 rfl ?_
  refine zg_X8_thing F (by with_reducible assumption) fl_X8_7 dX8_thingComes_27 (fun hk_27 => ?_)
  refine z_iconst (v := 4) F dX8_thingComes_30 (by decide) ?_
  refine z_aload_n F dX8_thingComes_31 rfl ?_
  refine zg_X8_things F (by with_reducible assumption) fl_X8_69 dX8_thingComes_32 ?_
  try simp only [e1, hnt]
  refine z_imul F dX8_thingComes_35 ?_
  refine z_iconst (v := 2) F dX8_thingComes_36 (by decide) ?_
  refine z_iadd F dX8_thingComes_37 ?_
  refine z_iload_n F dX8_thingComes_38 rfl ?_
  refine z_iast10n (q := ((4 * nt) + 2)) F (by with_reducible assumption) (by first | with_reducible rfl | (simp only [n4, n2, n3, n5, n14, n16, na1, na2, na3, nI_add, nI_1, nI_pred]; done) | (simp only [n4, n2, n3, n5, n14, n16, na1, na2, na3, nI_add, nI_1, nI_pred, Nat.add_assoc, Nat.add_comm, Nat.add_left_comm]; done)) (by rw [hz1]; omega) dX8_thingComes_39 ?_
  refine z_aload_n F dX8_thingComes_40 rfl ?_
  refine zg_X8_thing F (by with_reducible assumption) fl_X8_7 dX8_thingComes_41 (fun hk_41 => ?_)
  refine z_iconst (v := 4) F dX8_thingComes_44 (by decide) ?_
  refine z_aload_n F dX8_thingComes_45 rfl ?_
  refine zg_X8_things F (by with_reducible assumption) fl_X8_69 dX8_thingComes_46 ?_
  try simp only [e1, hnt]
  refine z_imul F dX8_thingComes_49 ?_
  refine z_iconst (v := 3) F dX8_thingComes_50 (by decide) ?_
  refine z_iadd F dX8_thingComes_51 ?_
  refine z_iload F dX8_thingComes_52 rfl ?_
  refine z_iast10n (q := ((4 * nt) + 3)) F (by with_reducible assumption) (by first | with_reducible rfl | (simp only [n4, n2, n3, n5, n14, n16, na1, na2, na3, nI_add, nI_1, nI_pred]; done) | (simp only [n4, n2, n3, n5, n14, n16, na1, na2, na3, nI_add, nI_1, nI_pred, Nat.add_assoc, Nat.add_comm, Nat.add_left_comm]; done)) (by rw [hz1]; omega) dX8_thingComes_54 ?_
  refine z_aload_n F dX8_thingComes_55 rfl ?_
  refine z_dup F dX8_thingComes_56 rfl ?_
  refine zg_X8_things F (by with_reducible assumption) fl_X8_69 dX8_thingComes_57 ?_
  try simp only [e1, hnt]
  refine z_iconst (v := 1) F dX8_thingComes_60 (by decide) ?_
  refine z_iadd F dX8_thingComes_61 ?_
  refine zp_X8_things F (by with_reducible assumption) fl_X8_69 dX8_thingComes_62 ?_
  refine z_vret F X dX8_thingComes_65 ?_
  rw [nI_1]
  unfold setF
  simp only [zs_za, za_at, za_za]
theorem c_X8_thing {l : Launch} {w : zE} (J : zJ w) {M : zM} {o nt : Nat} {a b c d : Int32} (hk : zk o = 8) (ho : o = 138) (hnt : M.1 o 0 = nI nt) (h10 : nt ≤ 10) : zCi l w yX8_thing cX8_thing 5 (some .int) 1 [.ref (w.2.2 o), .int a, .int b, .int c, .int d] M (fun r M2 => (thgBad a b c d ∧ r = -1 ∧ M2 = M) ∨ (¬ thgBad a b c d ∧ nt = 10 ∧ r = -3 ∧ M2 = M) ∨ (¬ thgBad a b c d ∧ nt < 10 ∧ r = nI nt ∧ M2 = zs (zs (za M (o + 1) (setF (M.1 (o + 1)) nt a b c d)) o 0 (nI (nt + 1))) o 20 0)) := by
  have e1 : ∀ M v, (zs (zs M o 0 v) o 20 0).1 o 0 = v := fun M v => by rw [zs_at, va_up_ne _ _ (by decide), zs_at, va_up_self]
  refine zCi_of J zm_X8_thing [some (.ref (w.2.2 o)), some (.int a), some (.int b), some (.int c), some (.int d)] (Nat.le_of_ble_eq_true rfl) rfl (fun g hg F X => ?_)
  subst hg
  refine z_iload_n F dX8_thing_0 rfl ?_
  refine z_i2l F dX8_thing_1 ?_
  refine z_lconst (v := 0) F dX8_thing_2 (by decide) ?_
  refine z_ldc2 F dX8_thing_3 cl_X8_79 ?_
  refine z_callSi F (d_X8_in J (a := 0) (b := 3) (by decide) (by decide)) zm_X8_in zst_X8_in ml_X8_72 rfl rfl (Nat.le_of_ble_eq_true rfl) dX8_thing_6 (by omega) (fun r_6 M_6 h_6 => ?_)
  obtain ⟨e_6, rfl⟩ := h_6
  replace e_6 := Eq.symm e_6
  subst e_6
  refine z_if_eq (tgt := 49) F dX8_thing_9 (by decide) (fun h_9 => ?_) (fun h_9 => ?_)
  · replace h_9 := bI_0.mp h_9
    try simp only [e1, hnt] at h_9
    refine z_iconst (v := (-1)) F dX8_thing_49 (by decide) ?_
    refine z_iret F X dX8_thing_50 ?_
    exact Or.inl ⟨by grind, rfl, rfl⟩
  · replace h_9 := bI_1.mp h_9
    try simp only [e1, hnt] at h_9
    refine z_iload_n F dX8_thing_12 rfl ?_
    refine z_i2l F dX8_thing_13 ?_
    refine z_lconst (v := 0) F dX8_thing_14 (by decide) ?_
    refine z_ldc2 F dX8_thing_15 cl_X8_81 ?_
    refine z_callSi F (d_X8_in J (a := 0) (b := 99) (by decide) (by decide)) zm_X8_in zst_X8_in ml_X8_72 rfl rfl (Nat.le_of_ble_eq_true rfl) dX8_thing_18 (by omega) (fun r_18 M_18 h_18 => ?_)
    obtain ⟨e_18, rfl⟩ := h_18
    replace e_18 := Eq.symm e_18
    subst e_18
    refine z_if_eq (tgt := 49) F dX8_thing_21 (by decide) (fun h_21 => ?_) (fun h_21 => ?_)
    · replace h_21 := bI_0.mp h_21
      try simp only [e1, hnt] at h_21
      refine z_iconst (v := (-1)) F dX8_thing_49 (by decide) ?_
      refine z_iret F X dX8_thing_50 ?_
      exact Or.inl ⟨by grind, rfl, rfl⟩
    · replace h_21 := bI_1.mp h_21
      try simp only [e1, hnt] at h_21
      refine z_iload_n F dX8_thing_24 rfl ?_
      refine z_i2l F dX8_thing_25 ?_
      refine z_lconst (v := 0) F dX8_thing_26 (by decide) ?_
      refine z_ldc2 F dX8_thing_27 cl_X8_83 ?_
      refine z_callSi F (d_X8_in J (a := 0) (b := 30) (by decide) (by decide)) zm_X8_in zst_X8_in ml_X8_72 rfl rfl (Nat.le_of_ble_eq_true rfl) dX8_thing_30 (by omega) (fun r_30 M_30 h_30 => ?_)
      obtain ⟨e_30, rfl⟩ := h_30
      replace e_30 := Eq.symm e_30
      subst e_30
      refine z_if_eq (tgt := 49) F dX8_thing_33 (by decide) (fun h_33 => ?_) (fun h_33 => ?_)
      · replace h_33 := bI_0.mp h_33
        try simp only [e1, hnt] at h_33
        refine z_iconst (v := (-1)) F dX8_thing_49 (by decide) ?_
        refine z_iret F X dX8_thing_50 ?_
        exact Or.inl ⟨by grind, rfl, rfl⟩
      · replace h_33 := bI_1.mp h_33
        try simp only [e1, hnt] at h_33
        refine z_iload F dX8_thing_36 rfl ?_
        refine z_i2l F dX8_thing_38 ?_
        refine z_lconst (v := 0) F dX8_thing_39 (by decide) ?_
        refine z_ldc2 F dX8_thing_40 cl_X8_83 ?_
        refine z_callSi F (d_X8_in J (a := 0) (b := 30) (by decide) (by decide)) zm_X8_in zst_X8_in ml_X8_72 rfl rfl (Nat.le_of_ble_eq_true rfl) dX8_thing_43 (by omega) (fun r_43 M_43 h_43 => ?_)
        obtain ⟨e_43, rfl⟩ := h_43
        replace e_43 := Eq.symm e_43
        subst e_43
        refine z_if_ne (tgt := 51) F dX8_thing_46 (by decide) (fun h_46 => ?_) (fun h_46 => ?_)
        · replace h_46 := bI_1.mp h_46
          try simp only [e1, hnt] at h_46
          refine z_aload_n F dX8_thing_51 rfl ?_
          refine zg_X8_things F (by with_reducible assumption) fl_X8_69 dX8_thing_52 ?_
          try simp only [e1, hnt]
          refine z_bipush (v := 10) F dX8_thing_55 (by decide) ?_
          refine z_ic_ne (tgt := 63) F dX8_thing_57 (by decide) (fun h_57 => ?_) (fun h_57 => ?_)
          · try simp only [e1, hnt] at h_57
            have h10' : nt < 10 := by
              have : nt ≠ 10 := fun e => h_57 (by rw [e]; rfl)
              omega
            refine z_aload_n F dX8_thing_63 rfl ?_
            refine z_iload_n F dX8_thing_64 rfl ?_
            refine z_iload_n F dX8_thing_65 rfl ?_
            refine z_iload_n F dX8_thing_66 rfl ?_
            refine z_iload F dX8_thing_67 rfl ?_
            refine z_callVv F (c_X8_thingComes J hk ho hnt h10') zm_X8_thingComes zv_X8_thingComes ml_X8_85 (by with_reducible assumption) (by decide) rfl rfl rfl (Nat.le_of_ble_eq_true rfl) dX8_thing_69 (by omega) (fun M_69 h_69 => ?_)
            replace h_69 := Eq.symm h_69
            subst h_69
            refine z_aload_n F dX8_thing_72 rfl ?_
            refine z_iconst (v := 0) F dX8_thing_73 (by decide) ?_
            refine zp_X8_undos F (by with_reducible assumption) fl_X8_66 dX8_thing_74 ?_
            refine z_aload_n F dX8_thing_77 rfl ?_
            refine zg_X8_things F (by with_reducible assumption) fl_X8_69 dX8_thing_78 ?_
            try simp only [e1, hnt]
            refine z_iconst (v := 1) F dX8_thing_81 (by decide) ?_
            refine z_isub F dX8_thing_82 ?_
            refine z_iret F X dX8_thing_83 ?_
            rw [nI_pred]
            exact Or.inr (Or.inr ⟨by grind, h10', rfl, rfl⟩)
          · try simp only [e1, hnt] at h_57
            refine z_bipush (v := (-3)) F dX8_thing_60 (by decide) ?_
            refine z_iret F X dX8_thing_62 ?_
            exact Or.inr (Or.inl ⟨by grind, (nI_eq (b := 10) (by omega) (by decide)).mp h_57, rfl, rfl⟩)
        · replace h_46 := bI_0.mp h_46
          try simp only [e1, hnt] at h_46
          refine z_iconst (v := (-1)) F dX8_thing_49 (by decide) ?_
          refine z_iret F X dX8_thing_50 ?_
          exact Or.inl ⟨by grind, rfl, rfl⟩
def ofR (rb th T : zF1) (np : Nat) (x k : Int32) : Int32 := if 0 ≤ x ∧ x < rb 0 then (if k = 0 then th (4 * x.toNatClampNeg) else if k = 1 then th (4 * x.toNatClampNeg + 1) else if k = 2 then th (4 * x.toNatClampNeg + 2) else if k = 3 then th (4 * x.toNatClampNeg + 3) else if k = 4 then whoR T x np else -1) else -1
theorem c_X8_of {l : Launch} {w : zE} (J : zJ w) {M : zM} {o nt np : Nat} {x k : Int32} (hk : zk o = 8) (ho : o = 138) (hnt : M.1 o 0 = nI nt) (h10 : nt ≤ 10) (hnp : M.1 o 1 = nI np) (h8 : np ≤ 8) : zCi l w yX8_of cX8_of 3 (some .int) 2 [.ref (w.2.2 o), .int x, .int k] M (fun r M2 => M2 = M ∧ r = ofR (M.1 o) (M.1 (o + 1)) (M.1 (o + 3)) np x k) := by
  obtain ⟨hz1, hz2, hz3, hz4, hz5, hz6, hz7, hz8, hz9, hz10, hz11, hz12, hz13, hz14, hz15⟩ := zn8 ho
  refine zCi_of J zm_X8_of [some (.ref (w.2.2 o)), some (.int x), some (.int k)] (Nat.le_of_ble_eq_true rfl) rfl (fun g hg F X => ?_)
  subst hg
  refine z_aload_n F dX8_of_0 rfl ?_
  refine z_iload_n F dX8_of_1 rfl ?_
  refine z_i2l F dX8_of_2 ?_
  refine z_callVi F (d_X8_isThing J hk hnt h10) zm_X8_isThing zv_X8_isThing ml_X8_89 (by with_reducible assumption) (by decide) rfl rfl rfl (Nat.le_of_ble_eq_true rfl) dX8_of_3 (by omega) (fun r_3 M_3 h_3 => ?_)
  obtain ⟨e_3, rfl⟩ := h_3
  replace e_3 := Eq.symm e_3
  subst e_3
  refine z_if_eq (tgt := 21) F dX8_of_6 (by decide) (fun h_6 => ?_) (fun h_6 => ?_)
  · replace h_6 := bI_0.mp h_6
    refine z_iconst (v := (-1)) F dX8_of_21 (by decide) ?_
    refine z_iret F X dX8_of_22 ?_
    refine ⟨rfl, ?_⟩
    unfold ofR
    grind
  · replace h_6 := bI_1.mp h_6
    refine z_iload_n F dX8_of_9 rfl ?_
    refine z_i2l F dX8_of_10 ?_
    refine z_lconst (v := 0) F dX8_of_11 (by decide) ?_
    refine z_ldc2 F dX8_of_12 cl_X8_93 ?_
    refine z_callSi F (d_X8_in J (a := 0) (b := 4) (by decide) (by decide)) zm_X8_in zst_X8_in ml_X8_72 rfl rfl (Nat.le_of_ble_eq_true rfl) dX8_of_15 (by omega) (fun r_15 M_15 h_15 => ?_)
    obtain ⟨e_15, rfl⟩ := h_15
    replace e_15 := Eq.symm e_15
    subst e_15
    refine z_if_ne (tgt := 23) F dX8_of_18 (by decide) (fun h_18 => ?_) (fun h_18 => ?_)
    · replace h_18 := bI_1.mp h_18
      refine z_iload_n F dX8_of_23 rfl ?_
      refine z_iconst (v := 4) F dX8_of_24 (by decide) ?_
      refine z_ic_ne (tgt := 36) F dX8_of_25 (by decide) (fun h_25 => ?_) (fun h_25 => ?_)
      · obtain ⟨j, hj, rfl⟩ := n_in (n := nt) (by rw [← hnt]; exact h_6) (by omega)
        obtain ⟨q, hq, rfl⟩ := nI_of2 (n := 4) (M := 4) (by decide) (Int32.not_lt.mpr h_18.1) h_18.2
        have hq4 : q ≠ 4 := fun e => h_25 (by rw [e]; rfl)
        refine z_aload_n F dX8_of_36 rfl ?_
        refine zg_X8_thing F (by with_reducible assumption) fl_X8_7 dX8_of_37 (fun hk_37 => ?_)
        refine z_iconst (v := 4) F dX8_of_40 (by decide) ?_
        refine z_iload_n F dX8_of_41 rfl ?_
        refine z_imul F dX8_of_42 ?_
        refine z_iload_n F dX8_of_43 rfl ?_
        refine z_iadd F dX8_of_44 ?_
        refine z_iald10n (q := ((4 * j) + q)) F (by with_reducible assumption) (by first | with_reducible rfl | (simp only [n4, n2, n3, n5, n14, n16, na1, na2, na3, nI_add, nI_1, nI_pred]; done) | (simp only [n4, n2, n3, n5, n14, n16, na1, na2, na3, nI_add, nI_1, nI_pred, Nat.add_assoc, Nat.add_comm, Nat.add_left_comm]; done)) (by rw [hz1]; omega) dX8_of_45 ?_
        refine z_iret F X dX8_of_46 ?_
        refine ⟨rfl, ?_⟩
        have hc : (nI j).toNatClampNeg = j := nI_clamp (by omega)
        unfold ofR
        rw [if_pos h_6, hc]
        match q, hq, hq4 with
        | 0, _, _ => rfl
        | 1, _, _ => rfl
        | 2, _, _ => rfl
        | 3, _, _ => rfl
        | 4, _, h => exact absurd rfl h
      · refine z_aload_n F dX8_of_28 rfl ?_
        refine z_iload_n F dX8_of_29 rfl ?_
        refine z_callVi F (c_X8_who J hk ho hnp h8) zm_X8_who zv_X8_who ml_X8_95 (by with_reducible assumption) (by decide) rfl rfl rfl (Nat.le_of_ble_eq_true rfl) dX8_of_30 (by omega) (fun r_30 M_30 h_30 => ?_)
        obtain ⟨e_30, rfl⟩ := h_30
        replace e_30 := Eq.symm e_30
        subst e_30
        refine z_goto (tgt := 46) F dX8_of_33 (by decide) ?_
        refine z_iret F X dX8_of_46 ?_
        refine ⟨rfl, ?_⟩
        subst h_25
        unfold ofR
        rw [if_pos h_6]
        rfl
    · replace h_18 := bI_0.mp h_18
      refine z_iconst (v := (-1)) F dX8_of_21 (by decide) ?_
      refine z_iret F X dX8_of_22 ?_
      refine ⟨rfl, ?_⟩
      unfold ofR
      grind
theorem c_X8_felt {l : Launch} {w : zE} (J : zJ w) {M : zM} {o nt : Nat} {x n k : Int32} (hk : zk o = 8) (ho : o = 138) (hnt : M.1 o 0 = nI nt) (h10 : nt ≤ 10) (kd : kdOK (M.1 (o + 1))) : zCi l w yX8_felt cX8_felt 4 (some .int) 2 [.ref (w.2.2 o), .int x, .int n, .int k] M (fun r M2 => M2 = M ∧ r = fltS (M.1 o) (M.1 (o + 1)) x n k) := by
  refine zCi_of J zm_X8_felt [some (.ref (w.2.2 o)), some (.int x), some (.int n), some (.int k)] (Nat.le_of_ble_eq_true rfl) rfl (fun g hg F X => ?_)
  subst hg
  refine z_aload_n F dX8_felt_0 rfl ?_
  refine z_iload_n F dX8_felt_1 rfl ?_
  refine z_i2l F dX8_felt_2 ?_
  refine z_callVi F (d_X8_isThing J hk hnt h10) zm_X8_isThing zv_X8_isThing ml_X8_89 (by with_reducible assumption) (by decide) rfl rfl rfl (Nat.le_of_ble_eq_true rfl) dX8_felt_3 (by omega) (fun r_3 M_3 h_3 => ?_)
  obtain ⟨e_3, rfl⟩ := h_3
  replace e_3 := Eq.symm e_3
  subst e_3
  refine z_if_eq (tgt := 41) F dX8_felt_6 (by decide) (fun h_6 => ?_) (fun h_6 => ?_)
  · replace h_6 := bI_0.mp h_6
    refine z_iconst (v := (-1)) F dX8_felt_41 (by decide) ?_
    refine z_iret F X dX8_felt_42 ?_
    refine ⟨rfl, ?_⟩
    unfold fltS
    grind
  · replace h_6 := bI_1.mp h_6
    refine z_iload_n F dX8_felt_9 rfl ?_
    refine z_i2l F dX8_felt_10 ?_
    refine z_lconst (v := 0) F dX8_felt_11 (by decide) ?_
    refine z_ldc2 F dX8_felt_12 cl_X8_81 ?_
    refine z_callSi F (d_X8_in J (a := 0) (b := 99) (by decide) (by decide)) zm_X8_in zst_X8_in ml_X8_72 rfl rfl (Nat.le_of_ble_eq_true rfl) dX8_felt_15 (by omega) (fun r_15 M_15 h_15 => ?_)
    obtain ⟨e_15, rfl⟩ := h_15
    replace e_15 := Eq.symm e_15
    subst e_15
    refine z_if_eq (tgt := 41) F dX8_felt_18 (by decide) (fun h_18 => ?_) (fun h_18 => ?_)
    · replace h_18 := bI_0.mp h_18
      refine z_iconst (v := (-1)) F dX8_felt_41 (by decide) ?_
      refine z_iret F X dX8_felt_42 ?_
      refine ⟨rfl, ?_⟩
      unfold fltS
      grind
    · replace h_18 := bI_1.mp h_18
      refine z_iload_n F dX8_felt_21 rfl ?_
      refine z_i2l F dX8_felt_22 ?_
      refine z_lconst (v := 0) F dX8_felt_23 (by decide) ?_
      refine z_lconst (v := 1) F dX8_felt_24 (by decide) ?_
      refine z_callSi F (d_X8_in J (a := 0) (b := 1) (by decide) (by decide)) zm_X8_in zst_X8_in ml_X8_72 rfl rfl (Nat.le_of_ble_eq_true rfl) dX8_felt_25 (by omega) (fun r_25 M_25 h_25 => ?_)
      obtain ⟨e_25, rfl⟩ := h_25
      replace e_25 := Eq.symm e_25
      subst e_25
      refine z_if_eq (tgt := 41) F dX8_felt_28 (by decide) (fun h_28 => ?_) (fun h_28 => ?_)
      · replace h_28 := bI_0.mp h_28
        refine z_iconst (v := (-1)) F dX8_felt_41 (by decide) ?_
        refine z_iret F X dX8_felt_42 ?_
        refine ⟨rfl, ?_⟩
        unfold fltS
        grind
      · replace h_28 := bI_1.mp h_28
        obtain ⟨j, hj, rfl⟩ := n_in (n := nt) (by rw [← hnt]; exact h_6) (by omega)
        refine z_aload_n F dX8_felt_31 rfl ?_
        refine z_iload_n F dX8_felt_32 rfl ?_
        refine z_iload_n F dX8_felt_33 rfl ?_
        refine z_iload_n F dX8_felt_34 rfl ?_
        refine z_callVi F (c_X8_feels J hk ho (by omega) kd) zm_X8_feels zv_X8_feels ml_X8_99 (by with_reducible assumption) (by decide) rfl rfl rfl (Nat.le_of_ble_eq_true rfl) dX8_felt_35 (by omega) (fun r_35 M_35 h_35 => ?_)
        obtain ⟨e_35, rfl⟩ := h_35
        replace e_35 := Eq.symm e_35
        subst e_35
        refine z_goto (tgt := 42) F dX8_felt_38 (by decide) ?_
        refine z_iret F X dX8_felt_42 ?_
        refine ⟨rfl, ?_⟩
        have hc : (nI j).toNatClampNeg = j := nI_clamp (by omega)
        unfold fltS
        rw [if_pos ⟨h_6, by grind, by grind⟩, hc]
theorem c_X8_personComes {l : Launch} {w : zE} (J : zJ w) {M : zM} {o np : Nat} {m x g2 : Int32} (hk : zk o = 8) (ho : o = 138) (hnp : M.1 o 1 = nI np) (h8 : np < 8) : zCv l w yX8_personComes cX8_personComes 4 0 [.ref (w.2.2 o), .int m, .int x, .int g2] M (fun M2 => M2 = zs (zs (zs (zs M (o + 2) (2 * np) m) (o + 2) (2 * np + 1) g2) (o + 3) (5 + np) x) o 1 (nI (np + 1))) := by
  obtain ⟨hz1, hz2, hz3, hz4, hz5, hz6, hz7, hz8, hz9, hz10, hz11, hz12, hz13, hz14, hz15⟩ := zn8 ho
  have e1 : ∀ M q v, (zs M (o + 2) q v).1 o = M.1 o := fun M q v => zs_off _ (by omega)
  have e2 : ∀ M q v, (zs M (o + 3) q v).1 o = M.1 o := fun M q v => zs_off _ (by omega)
  refine zCv_of J zm_X8_personComes [some (.ref (w.2.2 o)), some (.int m), some (.int x), some (.int g2)] (Nat.le_of_ble_eq_true rfl) rfl (fun g hg F X => ?_)
  subst hg
  refine z_aload_n F dX8_personComes_0 rfl ?_
  refine zg_X8_person F (by with_reducible assumption) fl_X8_13 dX8_personComes_1 (fun hk_1 => ?_)
  refine z_iconst (v := 2) F dX8_personComes_4 (by decide) ?_
  refine z_aload_n F dX8_personComes_5 rfl ?_
  refine zg_X8_people F (by with_reducible assumption) fl_X8_76 dX8_personComes_6 ?_
  try simp only [e1, e2, hnp]
  refine z_imul F dX8_personComes_9 ?_
  refine z_iload_n F dX8_personComes_10 rfl ?_
  refine z_iast10n (q := (2 * np)) F (by with_reducible assumption) (by first | with_reducible rfl | (simp only [n4, n2, n3, n5, n14, n16, na1, na2, na3, nI_add, nI_1, nI_pred]; done) | (simp only [n4, n2, n3, n5, n14, n16, na1, na2, na3, nI_add, nI_1, nI_pred, Nat.add_assoc, Nat.add_comm, Nat.add_left_comm]; done)) (by rw [hz2]; omega) dX8_personComes_11 ?_
  refine z_aload_n F dX8_personComes_12 rfl ?_
  refine zg_X8_person F (by with_reducible assumption) fl_X8_13 dX8_personComes_13 (fun hk_13 => ?_)
  refine z_iconst (v := 2) F dX8_personComes_16 (by decide) ?_
  refine z_aload_n F dX8_personComes_17 rfl ?_
  refine zg_X8_people F (by with_reducible assumption) fl_X8_76 dX8_personComes_18 ?_
  try simp only [e1, e2, hnp]
  refine z_imul F dX8_personComes_21 ?_
  refine z_iconst (v := 1) F dX8_personComes_22 (by decide) ?_
  refine z_iadd F dX8_personComes_23 ?_
  refine z_iload_n F dX8_personComes_24 rfl ?_
  refine z_iast10n (q := ((2 * np) + 1)) F (by with_reducible assumption) (by first | with_reducible rfl | (simp only [n4, n2, n3, n5, n14, n16, na1, na2, na3, nI_add, nI_1, nI_pred]; done) | (simp only [n4, n2, n3, n5, n14, n16, na1, na2, na3, nI_add, nI_1, nI_pred, Nat.add_assoc, Nat.add_comm, Nat.add_left_comm]; done)) (by rw [hz2]; omega) dX8_personComes_25 ?_
  refine z_aload_n F dX8_personComes_26 rfl ?_
  refine zg_X8_now F (by with_reducible assumption) fl_X8_16 dX8_personComes_27 (fun hk_27 => ?_)
  refine z_iconst (v := 5) F dX8_personComes_30 (by decide) ?_
  refine z_aload_n F dX8_personComes_31 rfl ?_
  refine zg_X8_people F (by with_reducible assumption) fl_X8_76 dX8_personComes_32 ?_
  try simp only [e1, e2, hnp]
  refine z_iadd F dX8_personComes_35 ?_
  refine z_iload_n F dX8_personComes_36 rfl ?_
  refine z_iast10n (q := (5 + np)) F (by with_reducible assumption) (by first | with_reducible rfl | (simp only [n4, n2, n3, n5, n14, n16, na1, na2, na3, nI_add, nI_1, nI_pred]; done) | (simp only [n4, n2, n3, n5, n14, n16, na1, na2, na3, nI_add, nI_1, nI_pred, Nat.add_assoc, Nat.add_comm, Nat.add_left_comm]; done)) (by rw [hz3]; omega) dX8_personComes_37 ?_
  refine z_aload_n F dX8_personComes_38 rfl ?_
  refine z_dup F dX8_personComes_39 rfl ?_
  refine zg_X8_people F (by with_reducible assumption) fl_X8_76 dX8_personComes_40 ?_
  try simp only [e1, e2, hnp]
  refine z_iconst (v := 1) F dX8_personComes_43 (by decide) ?_
  refine z_iadd F dX8_personComes_44 ?_
  refine zp_X8_people F (by with_reducible assumption) fl_X8_76 dX8_personComes_45 ?_
  refine z_vret F X dX8_personComes_48 ?_
  rw [nI_1]
theorem whoL_none {T : zF1} {x : Int32} : ∀ {j k : Nat}, k + j ≤ 8 → (whoL T x j k = -4 ↔ ∀ p, k ≤ p → p < k + j → ¬ T (5 + p) = x) := by
  intro j
  induction j with
  | zero => intro k _; exact ⟨fun _ p h1 h2 => absurd h2 (by omega), fun _ => rfl⟩
  | succ j ih =>
    intro k h
    rw [whoL]
    by_cases e : T (5 + k) = x
    · rw [if_pos e]
      refine ⟨fun q => absurd q ?_, fun q => absurd e (q k (by omega) (by omega))⟩
      exact (by decide : ∀ k, k < 8 → ¬ nI k = -4) k (by omega)
    · rw [if_neg e, ih (by omega)]
      refine ⟨fun q p h1 h2 => ?_, fun q p h1 h2 => q p (by omega) (by omega)⟩
      by_cases e2 : p = k
      · rw [e2]; exact e
      · exact q p (by omega) (by omega)
theorem whoF_none {T : zF1} {x : Int32} {np : Nat} (h : np ≤ 8) : whoF T np x = -4 ↔ ¬ T 0 = x ∧ ∀ p, p < np → ¬ T (5 + p) = x := by
  unfold whoF
  by_cases e : T 0 = x
  · rw [if_pos e]; exact ⟨fun q => absurd q (by decide), fun q => absurd e q.1⟩
  · rw [if_neg e, whoL_none (by omega)]
    exact ⟨fun q => ⟨e, fun p hp => q p (by omega) (by omega)⟩, fun q p _ hp => q.2 p (by omega)⟩
theorem whoR_none' {T : zF1} {x : Int32} : ∀ {np : Nat}, np ≤ 8 → (whoR T x np = -4 ↔ ¬ T 0 = x ∧ ∀ p, p < np → ¬ T (5 + p) = x) := by
  intro np
  induction np with
  | zero =>
    intro _
    rw [whoR]
    by_cases e : T 0 = x
    · rw [if_pos e]; exact ⟨fun q => absurd q (by decide), fun q => absurd e q.1⟩
    · rw [if_neg e]; exact ⟨fun _ => ⟨e, fun p hp => absurd hp (by omega)⟩, fun _ => rfl⟩
  | succ k ih =>
    intro h
    rw [whoR]
    by_cases e : T (5 + k) = x
    · rw [if_pos e]
      refine ⟨fun q => absurd q ?_, fun q => absurd e (q.2 k (by omega))⟩
      exact (by decide : ∀ k, k < 8 → ¬ nI k = -4) k (by omega)
    · rw [if_neg e, ih (by omega)]
      refine ⟨fun q => ⟨q.1, fun p hp => ?_⟩, fun q => ⟨q.1, fun p hp => q.2 p (by omega)⟩⟩
      by_cases e2 : p = k
      · rw [e2]; exact e
      · exact q.2 p (by omega)
theorem whoR_none {T : zF1} {x : Int32} {np : Nat} (h : np ≤ 8) : whoR T x np = -4 ↔ whoF T np x = -4 := by rw [whoR_none' h, whoF_none h]
/-- one of the people has it -/
theorem whoR_per {T : zF1} {x : Int32} : ∀ {np : Nat}, np ≤ 8 → ((0 ≤ whoR T x np ∧ whoR T x np < 8) ↔ ∃ p, p < np ∧ T (5 + p) = x) := by
  intro np
  induction np with
  | zero =>
    intro _
    rw [whoR]
    refine ⟨fun q => ?_, fun ⟨p, hp, _⟩ => absurd hp (by omega)⟩
    by_cases e : T 0 = x
    · rw [if_pos e] at q; exact absurd q.2 (by decide)
    · rw [if_neg e] at q; exact absurd q.1 (by decide)
  | succ k ih =>
    intro h
    rw [whoR]
    by_cases e : T (5 + k) = x
    · rw [if_pos e]
      refine ⟨fun _ => ⟨k, by omega, e⟩, fun _ => (by decide : ∀ k, k < 8 → 0 ≤ nI k ∧ nI k < 8) k (by omega)⟩
    · rw [if_neg e, ih (by omega)]
      refine ⟨fun ⟨p, hp, q⟩ => ⟨p, by omega, q⟩, fun ⟨p, hp, q⟩ => ⟨p, ?_, q⟩⟩
      have : p ≠ k := fun e2 => e (by rw [← e2]; exact q)
      omega
theorem c_X8_person {l : Launch} {w : zE} (J : zJ w) {M : zM} {o nt np : Nat} {m x g2 : Int32} (hk : zk o = 8) (ho : o = 138) (hnt : M.1 o 0 = nI nt) (h10 : nt ≤ 10) (hnp : M.1 o 1 = nI np) (h8 : np ≤ 8) : zCi l w yX8_person cX8_person 4 (some .int) 2 [.ref (w.2.2 o), .int m, .int x, .int g2] M (fun r M2 => (perBad (M.1 o 0) m x g2 ∧ r = -1 ∧ M2 = M) ∨ (¬ perBad (M.1 o 0) m x g2 ∧ perHad (M.1 (o + 3)) np x ∧ r = -2 ∧ M2 = M) ∨ (¬ perBad (M.1 o 0) m x g2 ∧ ¬ perHad (M.1 (o + 3)) np x ∧ np = 8 ∧ r = -3 ∧ M2 = M) ∨ (¬ perBad (M.1 o 0) m x g2 ∧ ¬ perHad (M.1 (o + 3)) np x ∧ np < 8 ∧ r = nI np ∧ M2 = zs (zs (zs (zs (zs M (o + 2) (2 * np) m) (o + 2) (2 * np + 1) g2) (o + 3) (5 + np) x) o 1 (nI (np + 1))) o 20 0)) := by
  have e1 : ∀ M v, (zs (zs M o 1 v) o 20 0).1 o 1 = v := fun M v => by rw [zs_at, va_up_ne _ _ (by decide), zs_at, va_up_self]
  have ew := whoR_none (T := M.1 (o + 3)) (x := x) h8
  refine zCi_of J zm_X8_person [some (.ref (w.2.2 o)), some (.int m), some (.int x), some (.int g2)] (Nat.le_of_ble_eq_true rfl) rfl (fun g hg F X => ?_)
  subst hg
  refine z_iload_n F dX8_person_0 rfl ?_
  refine z_i2l F dX8_person_1 ?_
  refine z_lconst (v := 0) F dX8_person_2 (by decide) ?_
  refine z_ldc2 F dX8_person_3 cl_X8_103 ?_
  refine z_callSi F (d_X8_in J (a := 0) (b := 11) (by decide) (by decide)) zm_X8_in zst_X8_in ml_X8_72 rfl rfl (Nat.le_of_ble_eq_true rfl) dX8_person_6 (by omega) (fun r_6 M_6 h_6 => ?_)
  obtain ⟨e_6, rfl⟩ := h_6
  replace e_6 := Eq.symm e_6
  subst e_6
  refine z_if_eq (tgt := 39) F dX8_person_9 (by decide) (fun h_9 => ?_) (fun h_9 => ?_)
  · replace h_9 := bI_0.mp h_9
    try simp only [e1] at h_9
    refine z_iconst (v := (-1)) F dX8_person_39 (by decide) ?_
    refine z_iret F X dX8_person_40 ?_
    exact Or.inl ⟨by grind, rfl, rfl⟩
  · replace h_9 := bI_1.mp h_9
    try simp only [e1] at h_9
    refine z_iload_n F dX8_person_12 rfl ?_
    refine z_bipush (v := (-4)) F dX8_person_13 (by decide) ?_
    refine z_ic_eq (tgt := 27) F dX8_person_15 (by decide) (fun h_15 => ?_) (fun h_15 => ?_)
    · try simp only [e1] at h_15
      refine z_iload_n F dX8_person_27 rfl ?_
      refine z_i2l F dX8_person_28 ?_
      refine z_lconst (v := 0) F dX8_person_29 (by decide) ?_
      refine z_ldc2 F dX8_person_30 cl_X8_105 ?_
      refine z_callSi F (d_X8_in J (a := 0) (b := 20) (by decide) (by decide)) zm_X8_in zst_X8_in ml_X8_72 rfl rfl (Nat.le_of_ble_eq_true rfl) dX8_person_33 (by omega) (fun r_33 M_33 h_33 => ?_)
      obtain ⟨e_33, rfl⟩ := h_33
      replace e_33 := Eq.symm e_33
      subst e_33
      refine z_if_ne (tgt := 41) F dX8_person_36 (by decide) (fun h_36 => ?_) (fun h_36 => ?_)
      · replace h_36 := bI_1.mp h_36
        try simp only [e1] at h_36
        refine z_iload_n F dX8_person_41 rfl ?_
        refine z_bipush (v := (-4)) F dX8_person_42 (by decide) ?_
        refine z_ic_eq (tgt := 60) F dX8_person_44 (by decide) (fun h_44 => ?_) (fun h_44 => ?_)
        · try simp only [e1] at h_44
          refine z_aload_n F dX8_person_60 rfl ?_
          refine zg_X8_people F (by with_reducible assumption) fl_X8_76 dX8_person_61 ?_
          try simp only [e1]
          refine z_bipush (v := 8) F dX8_person_64 (by decide) ?_
          refine z_ic_ne (tgt := 72) F dX8_person_66 (by decide) (fun h_66 => ?_) (fun h_66 => ?_)
          · try simp only [e1] at h_66
            have h8' : np < 8 := by
              have : np ≠ 8 := fun e => h_66 (by rw [hnp, e]; rfl)
              omega
            refine z_aload_n F dX8_person_72 rfl ?_
            refine z_iload_n F dX8_person_73 rfl ?_
            refine z_iload_n F dX8_person_74 rfl ?_
            refine z_iload_n F dX8_person_75 rfl ?_
            refine z_callVv F (c_X8_personComes J hk ho hnp h8') zm_X8_personComes zv_X8_personComes ml_X8_107 (by with_reducible assumption) (by decide) rfl rfl rfl (Nat.le_of_ble_eq_true rfl) dX8_person_76 (by omega) (fun M_76 h_76 => ?_)
            replace h_76 := Eq.symm h_76
            subst h_76
            refine z_aload_n F dX8_person_79 rfl ?_
            refine z_iconst (v := 0) F dX8_person_80 (by decide) ?_
            refine zp_X8_undos F (by with_reducible assumption) fl_X8_66 dX8_person_81 ?_
            refine z_aload_n F dX8_person_84 rfl ?_
            refine zg_X8_people F (by with_reducible assumption) fl_X8_76 dX8_person_85 ?_
            try simp only [e1]
            refine z_iconst (v := 1) F dX8_person_88 (by decide) ?_
            refine z_isub F dX8_person_89 ?_
            refine z_iret F X dX8_person_90 ?_
            rw [nI_pred]
            exact Or.inr (Or.inr (Or.inr ⟨by grind, by grind, h8', rfl, rfl⟩))
          · try simp only [e1] at h_66
            refine z_bipush (v := (-3)) F dX8_person_69 (by decide) ?_
            refine z_iret F X dX8_person_71 ?_
            refine Or.inr (Or.inr (Or.inl ⟨by grind, by grind, ?_, rfl, rfl⟩))
            rw [hnp] at h_66
            exact (nI_eq (b := 8) (by omega) (by decide)).mp h_66
        · try simp only [e1] at h_44
          refine z_aload_n F dX8_person_47 rfl ?_
          refine z_iload_n F dX8_person_48 rfl ?_
          refine z_callVi F (c_X8_who J hk ho hnp h8) zm_X8_who zv_X8_who ml_X8_95 (by with_reducible assumption) (by decide) rfl rfl rfl (Nat.le_of_ble_eq_true rfl) dX8_person_49 (by omega) (fun r_49 M_49 h_49 => ?_)
          obtain ⟨e_49, rfl⟩ := h_49
          replace e_49 := Eq.symm e_49
          subst e_49
          refine z_bipush (v := (-4)) F dX8_person_52 (by decide) ?_
          refine z_ic_eq (tgt := 60) F dX8_person_54 (by decide) (fun h_54 => ?_) (fun h_54 => ?_)
          · try simp only [e1] at h_54
            refine z_aload_n F dX8_person_60 rfl ?_
            refine zg_X8_people F (by with_reducible assumption) fl_X8_76 dX8_person_61 ?_
            try simp only [e1]
            refine z_bipush (v := 8) F dX8_person_64 (by decide) ?_
            refine z_ic_ne (tgt := 72) F dX8_person_66 (by decide) (fun h_66 => ?_) (fun h_66 => ?_)
            · try simp only [e1] at h_66
              have h8' : np < 8 := by
                have : np ≠ 8 := fun e => h_66 (by rw [hnp, e]; rfl)
                omega
              refine z_aload_n F dX8_person_72 rfl ?_
              refine z_iload_n F dX8_person_73 rfl ?_
              refine z_iload_n F dX8_person_74 rfl ?_
              refine z_iload_n F dX8_person_75 rfl ?_
              refine z_callVv F (c_X8_personComes J hk ho hnp h8') zm_X8_personComes zv_X8_personComes ml_X8_107 (by with_reducible assumption) (by decide) rfl rfl rfl (Nat.le_of_ble_eq_true rfl) dX8_person_76 (by omega) (fun M_76 h_76 => ?_)
              replace h_76 := Eq.symm h_76
              subst h_76
              refine z_aload_n F dX8_person_79 rfl ?_
              refine z_iconst (v := 0) F dX8_person_80 (by decide) ?_
              refine zp_X8_undos F (by with_reducible assumption) fl_X8_66 dX8_person_81 ?_
              refine z_aload_n F dX8_person_84 rfl ?_
              refine zg_X8_people F (by with_reducible assumption) fl_X8_76 dX8_person_85 ?_
              try simp only [e1]
              refine z_iconst (v := 1) F dX8_person_88 (by decide) ?_
              refine z_isub F dX8_person_89 ?_
              refine z_iret F X dX8_person_90 ?_
              rw [nI_pred]
              exact Or.inr (Or.inr (Or.inr ⟨by grind, by grind, h8', rfl, rfl⟩))
            · try simp only [e1] at h_66
              refine z_bipush (v := (-3)) F dX8_person_69 (by decide) ?_
              refine z_iret F X dX8_person_71 ?_
              refine Or.inr (Or.inr (Or.inl ⟨by grind, by grind, ?_, rfl, rfl⟩))
              rw [hnp] at h_66
              exact (nI_eq (b := 8) (by omega) (by decide)).mp h_66
          · try simp only [e1] at h_54
            refine z_bipush (v := (-2)) F dX8_person_57 (by decide) ?_
            refine z_iret F X dX8_person_59 ?_
            exact Or.inr (Or.inl ⟨by grind, by grind, rfl, rfl⟩)
      · replace h_36 := bI_0.mp h_36
        try simp only [e1] at h_36
        refine z_iconst (v := (-1)) F dX8_person_39 (by decide) ?_
        refine z_iret F X dX8_person_40 ?_
        exact Or.inl ⟨by grind, rfl, rfl⟩
    · try simp only [e1] at h_15
      refine z_aload_n F dX8_person_18 rfl ?_
      refine z_iload_n F dX8_person_19 rfl ?_
      refine z_i2l F dX8_person_20 ?_
      refine z_callVi F (d_X8_isThing J hk hnt h10) zm_X8_isThing zv_X8_isThing ml_X8_89 (by with_reducible assumption) (by decide) rfl rfl rfl (Nat.le_of_ble_eq_true rfl) dX8_person_21 (by omega) (fun r_21 M_21 h_21 => ?_)
      obtain ⟨e_21, rfl⟩ := h_21
      replace e_21 := Eq.symm e_21
      subst e_21
      refine z_if_eq (tgt := 39) F dX8_person_24 (by decide) (fun h_24 => ?_) (fun h_24 => ?_)
      · replace h_24 := bI_0.mp h_24
        try simp only [e1] at h_24
        refine z_iconst (v := (-1)) F dX8_person_39 (by decide) ?_
        refine z_iret F X dX8_person_40 ?_
        exact Or.inl ⟨by grind, rfl, rfl⟩
      · replace h_24 := bI_1.mp h_24
        try simp only [e1] at h_24
        refine z_iload_n F dX8_person_27 rfl ?_
        refine z_i2l F dX8_person_28 ?_
        refine z_lconst (v := 0) F dX8_person_29 (by decide) ?_
        refine z_ldc2 F dX8_person_30 cl_X8_105 ?_
        refine z_callSi F (d_X8_in J (a := 0) (b := 20) (by decide) (by decide)) zm_X8_in zst_X8_in ml_X8_72 rfl rfl (Nat.le_of_ble_eq_true rfl) dX8_person_33 (by omega) (fun r_33 M_33 h_33 => ?_)
        obtain ⟨e_33, rfl⟩ := h_33
        replace e_33 := Eq.symm e_33
        subst e_33
        refine z_if_ne (tgt := 41) F dX8_person_36 (by decide) (fun h_36 => ?_) (fun h_36 => ?_)
        · replace h_36 := bI_1.mp h_36
          try simp only [e1] at h_36
          refine z_iload_n F dX8_person_41 rfl ?_
          refine z_bipush (v := (-4)) F dX8_person_42 (by decide) ?_
          refine z_ic_eq (tgt := 60) F dX8_person_44 (by decide) (fun h_44 => ?_) (fun h_44 => ?_)
          · try simp only [e1] at h_44
            refine z_aload_n F dX8_person_60 rfl ?_
            refine zg_X8_people F (by with_reducible assumption) fl_X8_76 dX8_person_61 ?_
            try simp only [e1]
            refine z_bipush (v := 8) F dX8_person_64 (by decide) ?_
            refine z_ic_ne (tgt := 72) F dX8_person_66 (by decide) (fun h_66 => ?_) (fun h_66 => ?_)
            · try simp only [e1] at h_66
              have h8' : np < 8 := by
                have : np ≠ 8 := fun e => h_66 (by rw [hnp, e]; rfl)
                omega
              refine z_aload_n F dX8_person_72 rfl ?_
              refine z_iload_n F dX8_person_73 rfl ?_
              refine z_iload_n F dX8_person_74 rfl ?_
              refine z_iload_n F dX8_person_75 rfl ?_
              refine z_callVv F (c_X8_personComes J hk ho hnp h8') zm_X8_personComes zv_X8_personComes ml_X8_107 (by with_reducible assumption) (by decide) rfl rfl rfl (Nat.le_of_ble_eq_true rfl) dX8_person_76 (by omega) (fun M_76 h_76 => ?_)
              replace h_76 := Eq.symm h_76
              subst h_76
              refine z_aload_n F dX8_person_79 rfl ?_
              refine z_iconst (v := 0) F dX8_person_80 (by decide) ?_
              refine zp_X8_undos F (by with_reducible assumption) fl_X8_66 dX8_person_81 ?_
              refine z_aload_n F dX8_person_84 rfl ?_
              refine zg_X8_people F (by with_reducible assumption) fl_X8_76 dX8_person_85 ?_
              try simp only [e1]
              refine z_iconst (v := 1) F dX8_person_88 (by decide) ?_
              refine z_isub F dX8_person_89 ?_
              refine z_iret F X dX8_person_90 ?_
              rw [nI_pred]
              exact Or.inr (Or.inr (Or.inr ⟨by grind, by grind, h8', rfl, rfl⟩))
            · try simp only [e1] at h_66
              refine z_bipush (v := (-3)) F dX8_person_69 (by decide) ?_
              refine z_iret F X dX8_person_71 ?_
              refine Or.inr (Or.inr (Or.inl ⟨by grind, by grind, ?_, rfl, rfl⟩))
              rw [hnp] at h_66
              exact (nI_eq (b := 8) (by omega) (by decide)).mp h_66
          · try simp only [e1] at h_44
            refine z_aload_n F dX8_person_47 rfl ?_
            refine z_iload_n F dX8_person_48 rfl ?_
            refine z_callVi F (c_X8_who J hk ho hnp h8) zm_X8_who zv_X8_who ml_X8_95 (by with_reducible assumption) (by decide) rfl rfl rfl (Nat.le_of_ble_eq_true rfl) dX8_person_49 (by omega) (fun r_49 M_49 h_49 => ?_)
            obtain ⟨e_49, rfl⟩ := h_49
            replace e_49 := Eq.symm e_49
            subst e_49
            refine z_bipush (v := (-4)) F dX8_person_52 (by decide) ?_
            refine z_ic_eq (tgt := 60) F dX8_person_54 (by decide) (fun h_54 => ?_) (fun h_54 => ?_)
            · try simp only [e1] at h_54
              refine z_aload_n F dX8_person_60 rfl ?_
              refine zg_X8_people F (by with_reducible assumption) fl_X8_76 dX8_person_61 ?_
              try simp only [e1]
              refine z_bipush (v := 8) F dX8_person_64 (by decide) ?_
              refine z_ic_ne (tgt := 72) F dX8_person_66 (by decide) (fun h_66 => ?_) (fun h_66 => ?_)
              · try simp only [e1] at h_66
                have h8' : np < 8 := by
                  have : np ≠ 8 := fun e => h_66 (by rw [hnp, e]; rfl)
                  omega
                refine z_aload_n F dX8_person_72 rfl ?_
                refine z_iload_n F dX8_person_73 rfl ?_
                refine z_iload_n F dX8_person_74 rfl ?_
                refine z_iload_n F dX8_person_75 rfl ?_
                refine z_callVv F (c_X8_personComes J hk ho hnp h8') zm_X8_personComes zv_X8_personComes ml_X8_107 (by with_reducible assumption) (by decide) rfl rfl rfl (Nat.le_of_ble_eq_true rfl) dX8_person_76 (by omega) (fun M_76 h_76 => ?_)
                replace h_76 := Eq.symm h_76
                subst h_76
                refine z_aload_n F dX8_person_79 rfl ?_
                refine z_iconst (v := 0) F dX8_person_80 (by decide) ?_
                refine zp_X8_undos F (by with_reducible assumption) fl_X8_66 dX8_person_81 ?_
                refine z_aload_n F dX8_person_84 rfl ?_
                refine zg_X8_people F (by with_reducible assumption) fl_X8_76 dX8_person_85 ?_
                try simp only [e1]
                refine z_iconst (v := 1) F dX8_person_88 (by decide) ?_
                refine z_isub F dX8_person_89 ?_
                refine z_iret F X dX8_person_90 ?_
                rw [nI_pred]
                exact Or.inr (Or.inr (Or.inr ⟨by grind, by grind, h8', rfl, rfl⟩))
              · try simp only [e1] at h_66
                refine z_bipush (v := (-3)) F dX8_person_69 (by decide) ?_
                refine z_iret F X dX8_person_71 ?_
                refine Or.inr (Or.inr (Or.inl ⟨by grind, by grind, ?_, rfl, rfl⟩))
                rw [hnp] at h_66
                exact (nI_eq (b := 8) (by omega) (by decide)).mp h_66
            · try simp only [e1] at h_54
              refine z_bipush (v := (-2)) F dX8_person_57 (by decide) ?_
              refine z_iret F X dX8_person_59 ?_
              exact Or.inr (Or.inl ⟨by grind, by grind, rfl, rfl⟩)
        · replace h_36 := bI_0.mp h_36
          try simp only [e1] at h_36
          refine z_iconst (v := (-1)) F dX8_person_39 (by decide) ?_
          refine z_iret F X dX8_person_40 ?_
          exact Or.inl ⟨by grind, rfl, rfl⟩
