def gldS (rb th T : zF1) (x : Int32) : Int32 := if 0 ≤ x ∧ x < rb 0 then (if T 0 = -4 ∨ T 0 = x then -2 else bI (gladF th 1 (rb 2) T x)) else -1
theorem c_X7_glad {l : Launch} {w : zE} (J : zJ w) {M : zM} {o : Nat} {x : Int32} (hk : zk o = 7) (hnt : M.1 (o + 1 + 1) 0 ≤ 10) (hh : M.1 (o + 1 + 15) 0 = -4 ∨ 0 ≤ M.1 (o + 1 + 15) 0 ∧ M.1 (o + 1 + 15) 0 < 10) : zCi l w yX7_glad cX7_glad 2 (some .int) 2 [.ref (w.2.2 o), .int x] M (fun r M2 => M2 = M ∧ r = gldS (M.1 (o + 1 + 1)) (M.1 (o + 1 + 1 + 1)) (M.1 (o + 1 + 15)) x) := by
  refine zCi_of J zm_X7_glad [some (.ref (w.2.2 o)), some (.int x)] (Nat.le_of_ble_eq_true rfl) rfl (fun g hg F X => ?_)
  subst hg
  refine z_aload_n F dX7_glad_0 rfl ?_
  refine zg_X7_now F (by with_reducible assumption) fl_X7_10 dX7_glad_1 (fun hk_1 => ?_)
  refine zg_X6_road F (by with_reducible assumption) fl_X7_44 dX7_glad_4 (fun hk_4 => ?_)
  refine z_iload_n F dX7_glad_7 rfl ?_
  refine z_callVi F (c_X1_isThing J (by with_reducible assumption)) zm_X1_isThing zv_X1_isThing ml_X7_61 (by with_reducible assumption) (by decide) rfl rfl rfl (Nat.le_of_ble_eq_true rfl) dX7_glad_8 (by omega) (fun r_8 M_8 h_8 => ?_)
  obtain ⟨e_8, rfl⟩ := h_8
  replace e_8 := Eq.symm e_8
  subst e_8
  refine z_if_ne (tgt := 16) F dX7_glad_11 (by decide) (fun h_11 => ?_) (fun h_11 => ?_)
  · replace h_11 := bI_1.mp h_11
    refine z_aload_n F dX7_glad_16 rfl ?_
    refine zg_X7_now F (by with_reducible assumption) fl_X7_10 dX7_glad_17 (fun hk_17 => ?_)
    refine zg_X6_trip F (by with_reducible assumption) fl_X7_83 dX7_glad_20 (fun hk_20 => ?_)
    refine zg_X5_his F (by with_reducible assumption) fl_X7_123 dX7_glad_23 ?_
    refine z_bipush (v := (-4)) F dX7_glad_26 (by decide) ?_
    refine z_ic_eq (tgt := 45) F dX7_glad_28 (by decide) (fun h_28 => ?_) (fun h_28 => ?_)
    · refine z_bipush (v := (-2)) F dX7_glad_45 (by decide) ?_
      refine z_iret F X dX7_glad_47 ?_
      refine ⟨rfl, ?_⟩
      rw [gldS, if_pos h_11]
      first | exact (if_pos (Or.inl h_28)).symm | exact (if_pos (Or.inr h_42)).symm
    · refine z_aload_n F dX7_glad_31 rfl ?_
      refine zg_X7_now F (by with_reducible assumption) fl_X7_10 dX7_glad_32 (fun hk_32 => ?_)
      refine zg_X6_trip F (by with_reducible assumption) fl_X7_83 dX7_glad_35 (fun hk_35 => ?_)
      refine zg_X5_his F (by with_reducible assumption) fl_X7_123 dX7_glad_38 ?_
      refine z_iload_n F dX7_glad_41 rfl ?_
      refine z_ic_ne (tgt := 48) F dX7_glad_42 (by decide) (fun h_42 => ?_) (fun h_42 => ?_)
      · refine z_aload_n F dX7_glad_48 rfl ?_
        refine zg_X7_now F (by with_reducible assumption) fl_X7_10 dX7_glad_49 (fun hk_49 => ?_)
        refine zg_X6_road F (by with_reducible assumption) fl_X7_44 dX7_glad_52 (fun hk_52 => ?_)
        refine z_aload_n F dX7_glad_55 rfl ?_
        refine zg_X7_now F (by with_reducible assumption) fl_X7_10 dX7_glad_56 (fun hk_56 => ?_)
        refine zg_X6_trip F (by with_reducible assumption) fl_X7_83 dX7_glad_59 (fun hk_59 => ?_)
        refine z_iload_n F dX7_glad_62 rfl ?_
        refine z_aload_n F dX7_glad_63 rfl ?_
        refine zg_X7_now F (by with_reducible assumption) fl_X7_10 dX7_glad_64 (fun hk_64 => ?_)
        refine zg_X6_road F (by with_reducible assumption) fl_X7_44 dX7_glad_67 (fun hk_67 => ?_)
        refine zg_X1_heed F (by with_reducible assumption) fl_X7_139 dX7_glad_70 ?_
        refine z_iconst (v := 1) F dX7_glad_73 (by decide) ?_
        refine z_callVi F (c_X1_isGlad J (by with_reducible assumption) (by with_reducible assumption) (hh.resolve_left h_28) ⟨h_11.1, Int32.lt_of_lt_of_le h_11.2 hnt⟩) zm_X1_isGlad zv_X1_isGlad ml_X7_181 (by with_reducible assumption) (by decide) rfl rfl rfl (Nat.le_of_ble_eq_true rfl) dX7_glad_74 (by omega) (fun r_74 M_74 h_74 => ?_)
        obtain ⟨e_74, rfl⟩ := h_74
        replace e_74 := Eq.symm e_74
        subst e_74
        refine z_if_eq (tgt := 84) F dX7_glad_77 (by decide) (fun h_77 => ?_) (fun h_77 => ?_)
        · replace h_77 := bI_0.mp h_77
          refine z_iconst (v := 0) F dX7_glad_84 (by decide) ?_
          refine z_iret F X dX7_glad_85 ?_
          refine ⟨rfl, ?_⟩
          rw [gldS, if_pos h_11, if_neg (fun q => q.elim h_28 h_42)]
          first | exact bI_t h_77 | exact bI_f h_77
        · replace h_77 := bI_1.mp h_77
          refine z_iconst (v := 1) F dX7_glad_80 (by decide) ?_
          refine z_goto (tgt := 85) F dX7_glad_81 (by decide) ?_
          refine z_iret F X dX7_glad_85 ?_
          refine ⟨rfl, ?_⟩
          rw [gldS, if_pos h_11, if_neg (fun q => q.elim h_28 h_42)]
          first | exact bI_t h_77 | exact bI_f h_77
      · refine z_bipush (v := (-2)) F dX7_glad_45 (by decide) ?_
        refine z_iret F X dX7_glad_47 ?_
        refine ⟨rfl, ?_⟩
        rw [gldS, if_pos h_11]
        first | exact (if_pos (Or.inl h_28)).symm | exact (if_pos (Or.inr h_42)).symm
  · replace h_11 := bI_0.mp h_11
    refine z_iconst (v := (-1)) F dX7_glad_14 (by decide) ?_
    refine z_iret F X dX7_glad_15 ?_
    exact ⟨rfl, by rw [gldS, if_neg h_11]⟩
def homS (M : zM) (n np a : Nat) (k : Int32) : Int32 := if k < 0 ∨ 2 < k then -1 else if k = 0 then (hmF M n np a).1 0 else if k = 1 then (hmF M n np a).1 4 - M.1 (n + 15) 4 else (hmF M n np a).2
theorem c_X7_home {l : Launch} {w : zE} (J : zJ w) {M : zM} {o np a : Nat} {k : Int32} (hk : zk o = 7) (ho : o = 0) (ok : nowOK M (o + 1) np a) : zCi l w yX7_home cX7_home 3 (some .int) 6 [.ref (w.2.2 o), .int k] M (fun r M2 => zfr M M2 ∧ r = homS M (o + 1) np a k) := by
  refine zCi_of J zm_X7_home [some (.ref (w.2.2 o)), some (.int k), none] (Nat.le_of_ble_eq_true rfl) rfl (fun g hg F X => ?_)
  subst hg
  refine z_iload_n F dX7_home_0 rfl ?_
  refine z_iconst (v := 2) F dX7_home_1 (by decide) ?_
  refine z_callSi F (c_X7_isNot J) zm_X7_isNot zst_X7_isNot ml_X7_40 rfl rfl (Nat.le_of_ble_eq_true rfl) dX7_home_2 (by omega) (fun r_2 M_2 h_2 => ?_)
  obtain ⟨e_2, rfl⟩ := h_2
  replace e_2 := Eq.symm e_2
  subst e_2
  refine z_if_eq (tgt := 10) F dX7_home_5 (by decide) (fun h_5 => ?_) (fun h_5 => ?_)
  · replace h_5 := bI_0.mp h_5
    try simp only [f2, f3, f1.2 (o + 1 + 15) (by omega)] at h_5
    refine z_aload_n F dX7_home_10 rfl ?_
    refine zg_X7_foresight F (by with_reducible assumption) fl_X7_29 dX7_home_11 (fun hk_11 => ?_)
    refine z_aload_n F dX7_home_14 rfl ?_
    refine zg_X7_now F (by with_reducible assumption) fl_X7_10 dX7_home_15 (fun hk_15 => ?_)
    refine z_callVr F (c_X0_endOf J (by with_reducible assumption) (by with_reducible assumption) (by omega) (by omega) ok) zm_X0_endOf zv_X0_endOf ml_X7_185 (by with_reducible assumption) (by decide) rfl rfl rfl (Nat.le_of_ble_eq_true rfl) dX7_home_18 (by omega) (fun r_18 M_18 h_18 => ?_)
    obtain ⟨rfl, f1, f2, f3⟩ := h_18
    obtain ⟨_, k15, _⟩ := zkf0 (o + 87) (zk_i hk_11 (by decide)) hk_11
    refine z_astore_n (lv' := [_, _, _]) F dX7_home_21 (by decide) rfl rfl ?_
    refine z_iload_n F dX7_home_22 rfl ?_
    refine z_look2 (tgt0 := 48) (tgt1 := 53) (dt := 69) F dX7_home_23 (by decide) (by decide) (by decide) (fun h_23 => ?_) (fun h_23 => ?_) (fun h_23_0 h_23_1 => ?_)
    · refine z_aload_n F dX7_home_48 rfl ?_
      refine zg_X5_his F (by with_reducible assumption) fl_X7_123 dX7_home_49 ?_
      try simp only [f2, f3, f1.2 (o + 1 + 15) (by omega)]
      refine z_iret F X dX7_home_52 ?_
      refine ⟨f1, ?_⟩
      rw [homS, if_neg h_5]
      first | (subst h_23; rfl) | rw [if_neg h_23_0, if_neg h_23_1]
    · refine z_aload_n F dX7_home_53 rfl ?_
      refine zg_X5_changes F (by with_reducible assumption) fl_X7_145 dX7_home_54 ?_
      try simp only [f2, f3, f1.2 (o + 1 + 15) (by omega)]
      refine z_aload_n F dX7_home_57 rfl ?_
      refine zg_X7_now F (by with_reducible assumption) fl_X7_10 dX7_home_58 (fun hk_58 => ?_)
      refine zg_X6_trip F (by with_reducible assumption) fl_X7_83 dX7_home_61 (fun hk_61 => ?_)
      refine zg_X5_changes F (by with_reducible assumption) fl_X7_145 dX7_home_64 ?_
      try simp only [f2, f3, f1.2 (o + 1 + 15) (by omega)]
      refine z_isub F dX7_home_67 ?_
      refine z_iret F X dX7_home_68 ?_
      refine ⟨f1, ?_⟩
      rw [homS, if_neg h_5]
      first | (subst h_23; rfl) | rw [if_neg h_23_0, if_neg h_23_1]
    · refine z_aload_n F dX7_home_69 rfl ?_
      refine zg_X5_refused F (by with_reducible assumption) fl_X7_189 dX7_home_70 ?_
      try simp only [f2, f3, f1.2 (o + 1 + 15) (by omega)]
      refine z_iret F X dX7_home_73 ?_
      refine ⟨f1, ?_⟩
      rw [homS, if_neg h_5]
      first | (subst h_23; rfl) | rw [if_neg h_23_0, if_neg h_23_1]
  · replace h_5 := bI_1.mp h_5
    try simp only [f2, f3, f1.2 (o + 1 + 15) (by omega)] at h_5
    refine z_iconst (v := (-1)) F dX7_home_8 (by decide) ?_
    refine z_iret F X dX7_home_9 ?_
    exact ⟨zfr.rf M, (if_pos h_5).symm⟩
def lostS (M : zM) (n np a : Nat) : Int32 := worthO (M.1 (n + 1 + 1)) (M.1 (n + 1) 0) (M.1 (n + 15) 0) - worthO (M.1 (n + 1 + 1)) (M.1 (n + 1) 0) ((hmF M n np a).1 0)
theorem c_X7_lost {l : Launch} {w : zE} (J : zJ w) {M : zM} {o np a : Nat} (hk : zk o = 7) (ho : o = 0) (ok : nowOK M (o + 1) np a) : zCi l w yX7_lost cX7_lost 1 (some .int) 6 [.ref (w.2.2 o)] M (fun r M2 => zfr M M2 ∧ r = lostS M (o + 1) np a) := by
  refine zCi_of J zm_X7_lost [some (.ref (w.2.2 o))] (Nat.le_of_ble_eq_true rfl) rfl (fun g hg F X => ?_)
  subst hg
  refine z_aload_n F dX7_lost_0 rfl ?_
  refine zg_X7_now F (by with_reducible assumption) fl_X7_10 dX7_lost_1 (fun hk_1 => ?_)
  refine zg_X6_road F (by with_reducible assumption) fl_X7_44 dX7_lost_4 (fun hk_4 => ?_)
  refine z_aload_n F dX7_lost_7 rfl ?_
  refine zg_X7_now F (by with_reducible assumption) fl_X7_10 dX7_lost_8 (fun hk_8 => ?_)
  refine zg_X6_trip F (by with_reducible assumption) fl_X7_83 dX7_lost_11 (fun hk_11 => ?_)
  refine zg_X5_his F (by with_reducible assumption) fl_X7_123 dX7_lost_14 ?_
  try simp only [f2]
  refine z_callVi F (c_X1_worthOf J (by with_reducible assumption) ok.1) zm_X1_worthOf zv_X1_worthOf ml_X7_192 (by with_reducible assumption) (by decide) rfl rfl rfl (Nat.le_of_ble_eq_true rfl) dX7_lost_17 (by omega) (fun r_17 M_17 h_17 => ?_)
  obtain ⟨e_17, rfl⟩ := h_17
  replace e_17 := Eq.symm e_17
  subst e_17
  refine z_aload_n F dX7_lost_20 rfl ?_
  refine zg_X7_now F (by with_reducible assumption) fl_X7_10 dX7_lost_21 (fun hk_21 => ?_)
  refine zg_X6_road F (by with_reducible assumption) fl_X7_44 dX7_lost_24 (fun hk_24 => ?_)
  refine z_aload_n F dX7_lost_27 rfl ?_
  refine zg_X7_foresight F (by with_reducible assumption) fl_X7_29 dX7_lost_28 (fun hk_28 => ?_)
  refine z_aload_n F dX7_lost_31 rfl ?_
  refine zg_X7_now F (by with_reducible assumption) fl_X7_10 dX7_lost_32 (fun hk_32 => ?_)
  refine z_callVr F (c_X0_endOf J (by with_reducible assumption) (by with_reducible assumption) (by omega) (by omega) ok) zm_X0_endOf zv_X0_endOf ml_X7_185 (by with_reducible assumption) (by decide) rfl rfl rfl (Nat.le_of_ble_eq_true rfl) dX7_lost_35 (by omega) (fun r_35 M_35 h_35 => ?_)
  obtain ⟨rfl, f1, f2, f3⟩ := h_35
  obtain ⟨_, k15, _⟩ := zkf0 (o + 87) (zk_i hk_28 (by decide)) hk_28
  refine zg_X5_his F (by with_reducible assumption) fl_X7_123 dX7_lost_38 ?_
  try simp only [f2]
  refine z_callVi F (c_X1_worthOf J (by with_reducible assumption) (by rw [f1.2 _ (by omega)]; exact ok.1)) zm_X1_worthOf zv_X1_worthOf ml_X7_192 (by with_reducible assumption) (by decide) rfl rfl rfl (Nat.le_of_ble_eq_true rfl) dX7_lost_41 (by omega) (fun r_41 M_41 h_41 => ?_)
  obtain ⟨e_41, rfl⟩ := h_41
  replace e_41 := Eq.symm e_41
  subst e_41
  refine z_isub F dX7_lost_44 ?_
  refine z_iret F X dX7_lost_45 ?_
  refine ⟨f1, ?_⟩
  rw [f1.2 (o + 1 + 1) (by omega), f1.2 (o + 1 + 1 + 1) (by omega)]
  rfl
def wtS (M : zM) (n np a nt : Nat) (x m0 : Int32) : Int32 × Int32 := waitL (worthO (M.1 (n + 1 + 1)) (M.1 (n + 1) 0)) (fun k => whoF (M.1 (n + 15)) np (nI k)) (fun k => waitS (waitQ (M.1 (n + 1)) (M.1 (n + 1 + 1)) (M.1 (n + 1 + 12)) np a (M.1 (n + 15)) k) x (12 - a) a) nt 0 (-4, m0)
def lrkS (M : zM) (n np a nt : Nat) (x k m0 : Int32) : Int32 := if (0 ≤ x ∧ x < M.1 (n + 1) 0) ∧ ¬ (k < 0 ∨ 1 < k) then (if whoF (M.1 (n + 15)) np x = -4 then -2 else if (wtS M n np a nt x m0).1 = -4 then -4 else if k = 0 then (wtS M n np a nt x m0).1 else (wtS M n np a nt x m0).2) else -1
theorem c_X7_lurk {l : Launch} {w : zE} (J : zJ w) {M : zM} {o np a nt : Nat} {x k : Int32} (hk : zk o = 7) (ho : o = 0) (ok : nowOK M (o + 1) np a) (hnt : M.1 (o + 1 + 1) 0 = nI nt) (h10 : nt ≤ 10) : zCi l w yX7_lurk cX7_lurk 4 (some .int) 6 [.ref (w.2.2 o), .int x, .int k] M (fun r M2 => zfr M M2 ∧ r = lrkS M (o + 1) np a nt x k (M.1 (o + 87) 4)) := by
  refine zCi_of J zm_X7_lurk [some (.ref (w.2.2 o)), some (.int x), some (.int k), none] (Nat.le_of_ble_eq_true rfl) rfl (fun g hg F X => ?_)
  subst hg
  refine z_aload_n F dX7_lurk_0 rfl ?_
  refine zg_X7_now F (by with_reducible assumption) fl_X7_10 dX7_lurk_1 (fun hk_1 => ?_)
  refine zg_X6_road F (by with_reducible assumption) fl_X7_44 dX7_lurk_4 (fun hk_4 => ?_)
  refine z_iload_n F dX7_lurk_7 rfl ?_
  refine z_callVi F (c_X1_isThing J (by with_reducible assumption)) zm_X1_isThing zv_X1_isThing ml_X7_61 (by with_reducible assumption) (by decide) rfl rfl rfl (Nat.le_of_ble_eq_true rfl) dX7_lurk_8 (by omega) (fun r_8 M_8 h_8 => ?_)
  obtain ⟨e_8, rfl⟩ := h_8
  replace e_8 := Eq.symm e_8
  subst e_8
  refine z_if_eq (tgt := 22) F dX7_lurk_11 (by decide) (fun h_11 => ?_) (fun h_11 => ?_)
  · replace h_11 := bI_0.mp h_11
    try simp only [f3] at h_11
    refine z_iconst (v := (-1)) F dX7_lurk_22 (by decide) ?_
    refine z_iret F X dX7_lurk_23 ?_
    refine ⟨zfr.rf M, (if_neg ?_).symm⟩
    first | exact fun q => h_11 q.1 | exact fun q => q.2 h_19
  · replace h_11 := bI_1.mp h_11
    try simp only [f3] at h_11
    refine z_iload_n F dX7_lurk_14 rfl ?_
    refine z_iconst (v := 1) F dX7_lurk_15 (by decide) ?_
    refine z_callSi F (c_X7_isNot J) zm_X7_isNot zst_X7_isNot ml_X7_40 rfl rfl (Nat.le_of_ble_eq_true rfl) dX7_lurk_16 (by omega) (fun r_16 M_16 h_16 => ?_)
    obtain ⟨e_16, rfl⟩ := h_16
    replace e_16 := Eq.symm e_16
    subst e_16
    refine z_if_eq (tgt := 24) F dX7_lurk_19 (by decide) (fun h_19 => ?_) (fun h_19 => ?_)
    · replace h_19 := bI_0.mp h_19
      try simp only [f3] at h_19
      refine z_aload_n F dX7_lurk_24 rfl ?_
      refine z_iload_n F dX7_lurk_25 rfl ?_
      refine z_callVi F (c_X7_isHad J hk ok.2.1 (by have := ok.2.2.1; omega)) zm_X7_isHad zv_X7_isHad ml_X7_98 (by with_reducible assumption) (by decide) rfl rfl rfl (Nat.le_of_ble_eq_true rfl) dX7_lurk_26 (by omega) (fun r_26 M_26 h_26 => ?_)
      obtain ⟨e_26, rfl⟩ := h_26
      replace e_26 := Eq.symm e_26
      subst e_26
      refine z_if_ne (tgt := 35) F dX7_lurk_29 (by decide) (fun h_29 => ?_) (fun h_29 => ?_)
      · replace h_29 := bI_1.mp h_29
        try simp only [f3] at h_29
        refine z_aload_n F dX7_lurk_35 rfl ?_
        refine zg_X7_foresight F (by with_reducible assumption) fl_X7_29 dX7_lurk_36 (fun hk_36 => ?_)
        refine z_iload_n F dX7_lurk_39 rfl ?_
        refine z_aload_n F dX7_lurk_40 rfl ?_
        refine zg_X7_now F (by with_reducible assumption) fl_X7_10 dX7_lurk_41 (fun hk_41 => ?_)
        refine z_callVi F (c_X0_waitFor J (by with_reducible assumption) (by with_reducible assumption) (by omega) (by omega) ok hnt h10) zm_X0_waitFor zv_X0_waitFor ml_X7_196 (by with_reducible assumption) (by decide) rfl rfl rfl (Nat.le_of_ble_eq_true rfl) dX7_lurk_44 (by omega) (fun r_44 M_44 h_44 => ?_)
        obtain ⟨f1, f2, f3⟩ := h_44
        replace f2 : r_44 = (wtS M (o + 1) np a nt x (M.1 (o + 87) 4)).1 := f2
        replace f3 : M_44.1 (o + 87) 4 = (wtS M (o + 1) np a nt x (M.1 (o + 87) 4)).2 := f3
        subst f2
        refine z_istore_n (lv' := [_, _, _, _]) F dX7_lurk_47 (by decide) rfl rfl ?_
        refine z_iload_n F dX7_lurk_48 rfl ?_
        refine z_bipush (v := (-4)) F dX7_lurk_49 (by decide) ?_
        refine z_ic_ne (tgt := 57) F dX7_lurk_51 (by decide) (fun h_51 => ?_) (fun h_51 => ?_)
        · try simp only [f3] at h_51
          refine z_iload_n F dX7_lurk_57 rfl ?_
          refine z_if_ne (tgt := 65) F dX7_lurk_58 (by decide) (fun h_58 => ?_) (fun h_58 => ?_)
          · try simp only [f3] at h_58
            refine z_aload_n F dX7_lurk_65 rfl ?_
            refine zg_X7_foresight F (by with_reducible assumption) fl_X7_29 dX7_lurk_66 (fun hk_66 => ?_)
            refine zg_X0_milestone F (by with_reducible assumption) fl_X7_200 dX7_lurk_69 ?_
            try simp only [f3]
            refine z_iret F X dX7_lurk_72 ?_
            refine ⟨f1, ?_⟩
            rw [lrkS, if_pos ⟨h_11, h_19⟩, if_neg h_29, if_neg h_51, if_neg h_58]
          · try simp only [f3] at h_58
            refine z_iload_n F dX7_lurk_61 rfl ?_
            refine z_goto (tgt := 72) F dX7_lurk_62 (by decide) ?_
            refine z_iret F X dX7_lurk_72 ?_
            refine ⟨f1, ?_⟩
            rw [lrkS, if_pos ⟨h_11, h_19⟩, if_neg h_29, if_neg h_51, if_pos h_58]
        · try simp only [f3] at h_51
          refine z_bipush (v := (-4)) F dX7_lurk_54 (by decide) ?_
          refine z_iret F X dX7_lurk_56 ?_
          refine ⟨f1, ?_⟩
          rw [lrkS, if_pos ⟨h_11, h_19⟩, if_neg h_29, if_pos h_51]
      · replace h_29 := bI_0.mp h_29
        try simp only [f3] at h_29
        refine z_bipush (v := (-2)) F dX7_lurk_32 (by decide) ?_
        refine z_iret F X dX7_lurk_34 ?_
        refine ⟨zfr.rf M, ?_⟩
        rw [lrkS, if_pos ⟨h_11, h_19⟩, if_pos (Decidable.not_not.mp h_29)]
    · replace h_19 := bI_1.mp h_19
      try simp only [f3] at h_19
      refine z_iconst (v := (-1)) F dX7_lurk_22 (by decide) ?_
      refine z_iret F X dX7_lurk_23 ?_
      refine ⟨zfr.rf M, (if_neg ?_).symm⟩
      first | exact fun q => h_11 q.1 | exact fun q => q.2 h_19
def stdS (M : zM) (n np a : Nat) (p : Nat) (m0 : Int32) : Int32 × Int32 := standL (standW (M.1 (n + 1)) (M.1 (n + 1 + 1)) (M.1 (n + 1 + 12)) np a (M.1 (n + 15)) p) (12 - a) a (-1, m0)
theorem c_X7_stand {l : Launch} {w : zE} (J : zJ w) {M : zM} {o np a : Nat} {x k : Int32} (hk : zk o = 7) (ho : o = 0) (ok : nowOK M (o + 1) np a) : zCi l w yX7_stand cX7_stand 4 (some .int) 6 [.ref (w.2.2 o), .int x, .int k] M (fun r M2 => zfr M M2 ∧ r = if (0 ≤ x ∧ x < M.1 (o + 1 + 1) 1) ∧ ¬ (k < 0 ∨ 1 < k) then (if 12 ≤ M.1 (o + 1 + 15) 3 then -2 else if k = 0 then (stdS M (o + 1) np a x.toNatClampNeg (M.1 (o + 87) 4)).2 else (stdS M (o + 1) np a x.toNatClampNeg (M.1 (o + 87) 4)).1) else -1) := by
  refine zCi_of J zm_X7_stand [some (.ref (w.2.2 o)), some (.int x), some (.int k), none] (Nat.le_of_ble_eq_true rfl) rfl (fun g hg F X => ?_)
  subst hg
  refine z_aload_n F dX7_stand_0 rfl ?_
  refine zg_X7_now F (by with_reducible assumption) fl_X7_10 dX7_stand_1 (fun hk_1 => ?_)
  refine zg_X6_road F (by with_reducible assumption) fl_X7_44 dX7_stand_4 (fun hk_4 => ?_)
  refine z_iload_n F dX7_stand_7 rfl ?_
  refine z_callVi F (c_X1_isPerson J (by with_reducible assumption)) zm_X1_isPerson zv_X1_isPerson ml_X7_108 (by with_reducible assumption) (by decide) rfl rfl rfl (Nat.le_of_ble_eq_true rfl) dX7_stand_8 (by omega) (fun r_8 M_8 h_8 => ?_)
  obtain ⟨e_8, rfl⟩ := h_8
  replace e_8 := Eq.symm e_8
  subst e_8
  refine z_if_eq (tgt := 22) F dX7_stand_11 (by decide) (fun h_11 => ?_) (fun h_11 => ?_)
  · replace h_11 := bI_0.mp h_11
    try simp only [f3] at h_11
    refine z_iconst (v := (-1)) F dX7_stand_22 (by decide) ?_
    refine z_iret F X dX7_stand_23 ?_
    refine ⟨zfr.rf M, (if_neg ?_).symm⟩
    first | exact fun q => h_11 q.1 | exact fun q => q.2 h_19
  · replace h_11 := bI_1.mp h_11
    try simp only [f3] at h_11
    refine z_iload_n F dX7_stand_14 rfl ?_
    refine z_iconst (v := 1) F dX7_stand_15 (by decide) ?_
    refine z_callSi F (c_X7_isNot J) zm_X7_isNot zst_X7_isNot ml_X7_40 rfl rfl (Nat.le_of_ble_eq_true rfl) dX7_stand_16 (by omega) (fun r_16 M_16 h_16 => ?_)
    obtain ⟨e_16, rfl⟩ := h_16
    replace e_16 := Eq.symm e_16
    subst e_16
    refine z_if_eq (tgt := 24) F dX7_stand_19 (by decide) (fun h_19 => ?_) (fun h_19 => ?_)
    · replace h_19 := bI_0.mp h_19
      try simp only [f3] at h_19
      refine z_aload_n F dX7_stand_24 rfl ?_
      refine zg_X7_now F (by with_reducible assumption) fl_X7_10 dX7_stand_25 (fun hk_25 => ?_)
      refine zg_X6_trip F (by with_reducible assumption) fl_X7_83 dX7_stand_28 (fun hk_28 => ?_)
      refine zg_X5_ahead F (by with_reducible assumption) fl_X7_130 dX7_stand_31 ?_
      try simp only [f3]
      refine z_bipush (v := 12) F dX7_stand_34 (by decide) ?_
      refine z_ic_lt (tgt := 42) F dX7_stand_36 (by decide) (fun h_36 => ?_) (fun h_36 => ?_)
      · try simp only [f3] at h_36
        obtain ⟨p, hp1, hp2⟩ : ∃ p, p < np ∧ x = nI p := by
          obtain ⟨p, hp1, hp2⟩ := nI_of (Int32.not_lt.mpr h_11.1)
          refine ⟨p, ?_, hp2⟩
          have q := h_11.2
          rw [ok.2.1, hp2] at q
          exact (nI_ltI hp1 (by have := ok.2.2.1; omega)).mp q
        subst hp2
        have hpc : (nI p).toNatClampNeg = p := nI_clamp (by have := ok.2.2.1; omega)
        refine z_aload_n F dX7_stand_42 rfl ?_
        refine zg_X7_foresight F (by with_reducible assumption) fl_X7_29 dX7_stand_43 (fun hk_43 => ?_)
        refine z_iload_n F dX7_stand_46 rfl ?_
        refine z_aload_n F dX7_stand_47 rfl ?_
        refine zg_X7_now F (by with_reducible assumption) fl_X7_10 dX7_stand_48 (fun hk_48 => ?_)
        refine z_callVi F (c_X0_mostWorthOf J (by with_reducible assumption) (by with_reducible assumption) (by omega) (by omega) ok hp1) zm_X0_mostWorthOf zv_X0_mostWorthOf ml_X7_203 (by with_reducible assumption) (by decide) rfl rfl rfl (Nat.le_of_ble_eq_true rfl) dX7_stand_51 (by omega) (fun r_51 M_51 h_51 => ?_)
        obtain ⟨f1, f2, f3⟩ := h_51
        replace f2 : r_51 = (stdS M (o + 1) np a p (M.1 (o + 87) 4)).1 := f2
        replace f3 : M_51.1 (o + 87) 4 = (stdS M (o + 1) np a p (M.1 (o + 87) 4)).2 := f3
        subst f2
        refine z_istore_n (lv' := [_, _, _, _]) F dX7_stand_54 (by decide) rfl rfl ?_
        refine z_iload_n F dX7_stand_55 rfl ?_
        refine z_if_ne (tgt := 69) F dX7_stand_56 (by decide) (fun h_56 => ?_) (fun h_56 => ?_)
        · try simp only [f3] at h_56
          refine z_iload_n F dX7_stand_69 rfl ?_
          refine z_iret F X dX7_stand_70 ?_
          exact ⟨f1, by rw [if_pos ⟨h_11, h_19⟩, if_neg (nle h_36), if_neg h_56, hpc]⟩
        · try simp only [f3] at h_56
          refine z_aload_n F dX7_stand_59 rfl ?_
          refine zg_X7_foresight F (by with_reducible assumption) fl_X7_29 dX7_stand_60 (fun hk_60 => ?_)
          refine zg_X0_milestone F (by with_reducible assumption) fl_X7_200 dX7_stand_63 ?_
          try simp only [f3]
          refine z_goto (tgt := 70) F dX7_stand_66 (by decide) ?_
          refine z_iret F X dX7_stand_70 ?_
          exact ⟨f1, by rw [if_pos ⟨h_11, h_19⟩, if_neg (nle h_36), if_pos h_56, hpc]⟩
      · try simp only [f3] at h_36
        refine z_bipush (v := (-2)) F dX7_stand_39 (by decide) ?_
        refine z_iret F X dX7_stand_41 ?_
        exact ⟨zfr.rf M, by rw [if_pos ⟨h_11, h_19⟩, if_pos h_36]⟩
    · replace h_19 := bI_1.mp h_19
      try simp only [f3] at h_19
      refine z_iconst (v := (-1)) F dX7_stand_22 (by decide) ?_
      refine z_iret F X dX7_stand_23 ?_
      refine ⟨zfr.rf M, (if_neg ?_).symm⟩
      first | exact fun q => h_11 q.1 | exact fun q => q.2 h_19
theorem c_X7_sister {l : Launch} {w : zE} (J : zJ w) {M : zM} {o np a : Nat} {x k : Int32} (hk : zk o = 7) (ho : o = 0) (ok : nowOK M (o + 1) np a) : zCi l w yX7_sister cX7_sister 3 (some .int) 6 [.ref (w.2.2 o), .int x, .int k] M (fun r M2 => zfr M M2 ∧ r = if (0 ≤ x ∧ x < M.1 (o + 1 + 1) 0) ∧ ¬ (k < 0 ∨ 1 < k) then (if whoF (hmF M (o + 1) np a).1 np x = -4 then (if k = 0 then worthO (M.1 (o + 1 + 1 + 1)) (M.1 (o + 1 + 1) 0) x else 0) else -2) else -1) := by
  refine zCi_of J zm_X7_sister [some (.ref (w.2.2 o)), some (.int x), some (.int k)] (Nat.le_of_ble_eq_true rfl) rfl (fun g hg F X => ?_)
  subst hg
  refine z_aload_n F dX7_sister_0 rfl ?_
  refine zg_X7_now F (by with_reducible assumption) fl_X7_10 dX7_sister_1 (fun hk_1 => ?_)
  refine zg_X6_road F (by with_reducible assumption) fl_X7_44 dX7_sister_4 (fun hk_4 => ?_)
  refine z_iload_n F dX7_sister_7 rfl ?_
  refine z_callVi F (c_X1_isThing J (by with_reducible assumption)) zm_X1_isThing zv_X1_isThing ml_X7_61 (by with_reducible assumption) (by decide) rfl rfl rfl (Nat.le_of_ble_eq_true rfl) dX7_sister_8 (by omega) (fun r_8 M_8 h_8 => ?_)
  obtain ⟨e_8, rfl⟩ := h_8
  replace e_8 := Eq.symm e_8
  subst e_8
  refine z_if_eq (tgt := 22) F dX7_sister_11 (by decide) (fun h_11 => ?_) (fun h_11 => ?_)
  · replace h_11 := bI_0.mp h_11
    refine z_iconst (v := (-1)) F dX7_sister_22 (by decide) ?_
    refine z_iret F X dX7_sister_23 ?_
    refine ⟨zfr.rf M, (if_neg ?_).symm⟩
    first | exact fun q => h_11 q.1 | exact fun q => q.2 h_19
  · replace h_11 := bI_1.mp h_11
    refine z_iload_n F dX7_sister_14 rfl ?_
    refine z_iconst (v := 1) F dX7_sister_15 (by decide) ?_
    refine z_callSi F (c_X7_isNot J) zm_X7_isNot zst_X7_isNot ml_X7_40 rfl rfl (Nat.le_of_ble_eq_true rfl) dX7_sister_16 (by omega) (fun r_16 M_16 h_16 => ?_)
    obtain ⟨e_16, rfl⟩ := h_16
    replace e_16 := Eq.symm e_16
    subst e_16
    refine z_if_eq (tgt := 24) F dX7_sister_19 (by decide) (fun h_19 => ?_) (fun h_19 => ?_)
    · replace h_19 := bI_0.mp h_19
      refine z_aload_n F dX7_sister_24 rfl ?_
      refine zg_X7_now F (by with_reducible assumption) fl_X7_10 dX7_sister_25 (fun hk_25 => ?_)
      refine zg_X6_road F (by with_reducible assumption) fl_X7_44 dX7_sister_28 (fun hk_28 => ?_)
      refine z_iload_n F dX7_sister_31 rfl ?_
      refine z_aload_n F dX7_sister_32 rfl ?_
      refine zg_X7_foresight F (by with_reducible assumption) fl_X7_29 dX7_sister_33 (fun hk_33 => ?_)
      refine z_aload_n F dX7_sister_36 rfl ?_
      refine zg_X7_now F (by with_reducible assumption) fl_X7_10 dX7_sister_37 (fun hk_37 => ?_)
      refine z_callVr F (c_X0_endOf J (by with_reducible assumption) (by with_reducible assumption) (by omega) (by omega) ok) zm_X0_endOf zv_X0_endOf ml_X7_185 (by with_reducible assumption) (by decide) rfl rfl rfl (Nat.le_of_ble_eq_true rfl) dX7_sister_40 (by omega) (fun r_40 M_40 h_40 => ?_)
      obtain ⟨rfl, f1, f2, f3⟩ := h_40
      obtain ⟨_, k15, _⟩ := zkf0 (o + 87) (zk_i hk_33 (by decide)) hk_33
      have e1 := f1.2 (o + 1 + 1) (by omega)
      have e2 := f1.2 (o + 1 + 1 + 1) (by omega)
      refine z_callVi F (c_X1_whoHas J (by with_reducible assumption) (by with_reducible assumption) (np := np) (by rw [e1]; exact ok.2.1) (by have := ok.2.2.1; omega)) zm_X1_whoHas zv_X1_whoHas ml_X7_87 (by with_reducible assumption) (by decide) rfl rfl rfl (Nat.le_of_ble_eq_true rfl) dX7_sister_43 (by omega) (fun r_43 M_43 h_43 => ?_)
      obtain ⟨e_43, rfl⟩ := h_43
      replace e_43 := Eq.symm e_43
      subst e_43
      refine z_bipush (v := (-4)) F dX7_sister_46 (by decide) ?_
      refine z_ic_eq (tgt := 54) F dX7_sister_48 (by decide) (fun h_48 => ?_) (fun h_48 => ?_)
      · refine z_iload_n F dX7_sister_54 rfl ?_
        refine z_if_ne (tgt := 72) F dX7_sister_55 (by decide) (fun h_55 => ?_) (fun h_55 => ?_)
        · refine z_iconst (v := 0) F dX7_sister_72 (by decide) ?_
          refine z_iret F X dX7_sister_73 ?_
          rw [f2] at h_48
          exact ⟨f1, by rw [if_pos ⟨h_11, h_19⟩, if_pos h_48, if_neg h_55]⟩
        · refine z_aload_n F dX7_sister_58 rfl ?_
          refine zg_X7_now F (by with_reducible assumption) fl_X7_10 dX7_sister_59 (fun hk_59 => ?_)
          refine zg_X6_road F (by with_reducible assumption) fl_X7_44 dX7_sister_62 (fun hk_62 => ?_)
          refine z_iload_n F dX7_sister_65 rfl ?_
          refine z_callVi F (c_X1_worthOf J (by with_reducible assumption) (by rw [e1]; exact ok.1)) zm_X1_worthOf zv_X1_worthOf ml_X7_192 (by with_reducible assumption) (by decide) rfl rfl rfl (Nat.le_of_ble_eq_true rfl) dX7_sister_66 (by omega) (fun r_66 M_66 h_66 => ?_)
          obtain ⟨e_66, rfl⟩ := h_66
          replace e_66 := Eq.symm e_66
          subst e_66
          refine z_goto (tgt := 73) F dX7_sister_69 (by decide) ?_
          refine z_iret F X dX7_sister_73 ?_
          rw [f2] at h_48
          exact ⟨f1, by rw [if_pos ⟨h_11, h_19⟩, if_pos h_48, if_pos h_55, e1, e2]⟩
      · refine z_bipush (v := (-2)) F dX7_sister_51 (by decide) ?_
        refine z_iret F X dX7_sister_53 ?_
        rw [f2] at h_48
        exact ⟨f1, by rw [if_pos ⟨h_11, h_19⟩, if_neg h_48]⟩
    · replace h_19 := bI_1.mp h_19
      refine z_iconst (v := (-1)) F dX7_sister_22 (by decide) ?_
      refine z_iret F X dX7_sister_23 ?_
      refine ⟨zfr.rf M, (if_neg ?_).symm⟩
      first | exact fun q => h_11 q.1 | exact fun q => q.2 h_19
theorem c_X7_first {l : Launch} {w : zE} (J : zJ w) {M : zM} {o np a nt : Nat} {x : Int32} (hk : zk o = 7) (ho : o = 0) (ok : nowOK M (o + 1) np a) (hnt : M.1 (o + 1 + 1) 0 = nI nt) (h10 : nt ≤ 10) : zCi l w yX7_first cX7_first 2 (some .int) 6 [.ref (w.2.2 o), .int x] M (fun r M2 => zfr M M2 ∧ r = if 0 ≤ x ∧ x < M.1 (o + 1 + 1) 0 then firstL (fun k => whoF (M.1 (o + 1 + 15)) np (nI k)) (firstQ (M.1 (o + 1 + 1)) (M.1 (o + 1 + 1 + 1)) (M.1 (o + 1 + 1 + 12)) np a (M.1 (o + 1 + 15))) x nt 0 0 else -1) := by
  refine zCi_of J zm_X7_first [some (.ref (w.2.2 o)), some (.int x)] (Nat.le_of_ble_eq_true rfl) rfl (fun g hg F X => ?_)
  subst hg
  refine z_aload_n F dX7_first_0 rfl ?_
  refine zg_X7_now F (by with_reducible assumption) fl_X7_10 dX7_first_1 (fun hk_1 => ?_)
  refine zg_X6_road F (by with_reducible assumption) fl_X7_44 dX7_first_4 (fun hk_4 => ?_)
  refine z_iload_n F dX7_first_7 rfl ?_
  refine z_callVi F (c_X1_isThing J (by with_reducible assumption)) zm_X1_isThing zv_X1_isThing ml_X7_61 (by with_reducible assumption) (by decide) rfl rfl rfl (Nat.le_of_ble_eq_true rfl) dX7_first_8 (by omega) (fun r_8 M_8 h_8 => ?_)
  obtain ⟨e_8, rfl⟩ := h_8
  replace e_8 := Eq.symm e_8
  subst e_8
  refine z_if_eq (tgt := 29) F dX7_first_11 (by decide) (fun h_11 => ?_) (fun h_11 => ?_)
  · replace h_11 := bI_0.mp h_11
    refine z_iconst (v := (-1)) F dX7_first_29 (by decide) ?_
    refine z_iret F X dX7_first_30 ?_
    exact ⟨zfr.rf M, (if_neg h_11).symm⟩
  · replace h_11 := bI_1.mp h_11
    refine z_aload_n F dX7_first_14 rfl ?_
    refine zg_X7_foresight F (by with_reducible assumption) fl_X7_29 dX7_first_15 (fun hk_15 => ?_)
    refine z_iload_n F dX7_first_18 rfl ?_
    refine z_aload_n F dX7_first_19 rfl ?_
    refine zg_X7_now F (by with_reducible assumption) fl_X7_10 dX7_first_20 (fun hk_20 => ?_)
    refine z_callVi F (c_X0_firstsFor J (by with_reducible assumption) (by with_reducible assumption) (by omega) (by omega) ok hnt h10) zm_X0_firstsFor zv_X0_firstsFor ml_X7_213 (by with_reducible assumption) (by decide) rfl rfl rfl (Nat.le_of_ble_eq_true rfl) dX7_first_23 (by omega) (fun r_23 M_23 h_23 => ?_)
    obtain ⟨f1, f2⟩ := h_23
    refine z_goto (tgt := 30) F dX7_first_26 (by decide) ?_
    refine z_iret F X dX7_first_30 ?_
    exact ⟨f1, by rw [f2, if_pos h_11]⟩
theorem c_X7_cheated {l : Launch} {w : zE} (J : zJ w) {M : zM} {o np a : Nat} {v : Int32} (hk : zk o = 7) (ho : o = 0) (ok : nowOK M (o + 1) np a) : zCi l w yX7_cheated cX7_cheated 2 (some .int) 6 [.ref (w.2.2 o), .int v] M (fun r M2 => zfr M M2 ∧ r = if v < -99 ∨ 99 < v then -1 else (heedL (heedW (M.1 (o + 1 + 1)) (M.1 (o + 1 + 1 + 1)) (M.1 (o + 1 + 1 + 12)) np a (M.1 (o + 1 + 15))) v 100 0 (-4, 0)).1) := by
  refine zCi_of J zm_X7_cheated [some (.ref (w.2.2 o)), some (.int v)] (Nat.le_of_ble_eq_true rfl) rfl (fun g hg F X => ?_)
  subst hg
  refine z_iload_n F dX7_cheated_0 rfl ?_
  refine z_bipush (v := (-99)) F dX7_cheated_1 (by decide) ?_
  refine z_ic_lt (tgt := 12) F dX7_cheated_3 (by decide) (fun h_3 => ?_) (fun h_3 => ?_)
  · refine z_iconst (v := (-1)) F dX7_cheated_12 (by decide) ?_
    refine z_iret F X dX7_cheated_13 ?_
    refine ⟨zfr.rf M, (if_pos ?_).symm⟩
    first | exact Or.inl h_3 | exact Or.inr h_9
  · refine z_iload_n F dX7_cheated_6 rfl ?_
    refine z_bipush (v := 99) F dX7_cheated_7 (by decide) ?_
    refine z_ic_le (tgt := 14) F dX7_cheated_9 (by decide) (fun h_9 => ?_) (fun h_9 => ?_)
    · refine z_aload_n F dX7_cheated_14 rfl ?_
      refine zg_X7_foresight F (by with_reducible assumption) fl_X7_29 dX7_cheated_15 (fun hk_15 => ?_)
      refine z_iload_n F dX7_cheated_18 rfl ?_
      refine z_aload_n F dX7_cheated_19 rfl ?_
      refine zg_X7_now F (by with_reducible assumption) fl_X7_10 dX7_cheated_20 (fun hk_20 => ?_)
      refine z_callVi F (c_X0_heedFor J (by with_reducible assumption) (by with_reducible assumption) (by omega) (by omega) ok) zm_X0_heedFor zv_X0_heedFor ml_X7_216 (by with_reducible assumption) (by decide) rfl rfl rfl (Nat.le_of_ble_eq_true rfl) dX7_cheated_23 (by omega) (fun r_23 M_23 h_23 => ?_)
      obtain ⟨f1, f2⟩ := h_23
      refine z_iret F X dX7_cheated_26 ?_
      exact ⟨f1, by rw [f2, if_neg (fun q => q.elim (nlt h_3) (nlt h_9))]⟩
    · refine z_iconst (v := (-1)) F dX7_cheated_12 (by decide) ?_
      refine z_iret F X dX7_cheated_13 ?_
      refine ⟨zfr.rf M, (if_pos ?_).symm⟩
      first | exact Or.inl h_3 | exact Or.inr h_9
theorem c_X7_image {l : Launch} {w : zE} (J : zJ w) {M : zM} {o k : Nat} (hk : zk o = 7) (ho : o = 0) (hp : pmF (M.1 (o + 1 + 17))) (hp2 : pmF (M.1 (o + 35 + 17))) (hn : M.1 (o + 1) 3 = nI k) (h8 : k ≤ 8) : zCi l w yX7_image cX7_image 1 (some .int) 3 [.ref (w.2.2 o)] M (fun r M2 => r = 1 ∧ M2 = zs (cpP (wcF M (o + 35) (o + 1)) (o + 35) (o + 1) k) o 2 1) := by
  refine zCi_of J zm_X7_image [some (.ref (w.2.2 o))] (Nat.le_of_ble_eq_true rfl) rfl (fun g hg F X => ?_)
  subst hg
  refine z_aload_n F dX7_image_0 rfl ?_
  refine zg_X7_kept F (by with_reducible assumption) fl_X7_16 dX7_image_1 (fun hk_1 => ?_)
  refine z_aload_n F dX7_image_4 rfl ?_
  refine zg_X7_now F (by with_reducible assumption) fl_X7_10 dX7_image_5 (fun hk_5 => ?_)
  refine z_callVv F (c_X6_setFrom J (by with_reducible assumption) (by with_reducible assumption) (by omega) hp2 hp hn h8) zm_X6_setFrom zv_X6_setFrom ml_X7_222 (by with_reducible assumption) (by decide) rfl rfl rfl (Nat.le_of_ble_eq_true rfl) dX7_image_8 (by omega) (fun M_8 h_8 => ?_)
  replace h_8 := Eq.symm h_8
  subst h_8
  refine z_aload_n F dX7_image_11 rfl ?_
  refine z_iconst (v := 1) F dX7_image_12 (by decide) ?_
  refine zp_X7_isKept F (by with_reducible assumption) fl_X7_225 (by decide) (by decide) dX7_image_13 ?_
  refine z_iconst (v := 1) F dX7_image_16 (by decide) ?_
  refine z_iret F X dX7_image_17 ?_
  exact ⟨rfl, rfl⟩
theorem c_X7_restore {l : Launch} {w : zE} (J : zJ w) {M : zM} {o k : Nat} (hk : zk o = 7) (ho : o = 0) (hp : pmF (M.1 (o + 1 + 17))) (hp2 : pmF (M.1 (o + 35 + 17))) (hn : ¬ M.1 o 2 = 0 → M.1 (o + 35) 3 = nI k) (h8 : k ≤ 8) : zCi l w yX7_restore cX7_restore 1 (some .int) 3 [.ref (w.2.2 o)] M (fun r M2 => (M.1 o 2 = 0 ∧ r = -4 ∧ M2 = M) ∨ (¬ M.1 o 2 = 0 ∧ r = 1 ∧ M2 = cpP (wcF M (o + 1) (o + 35)) (o + 1) (o + 35) k)) := by
  refine zCi_of J zm_X7_restore [some (.ref (w.2.2 o))] (Nat.le_of_ble_eq_true rfl) rfl (fun g hg F X => ?_)
  subst hg
  refine z_aload_n F dX7_restore_0 rfl ?_
  refine zg_X7_isKept F (by with_reducible assumption) fl_X7_225 dX7_restore_1 ?_
  refine z_if_ne (tgt := 10) F dX7_restore_4 (by decide) (fun h_4 => ?_) (fun h_4 => ?_)
  · refine z_aload_n F dX7_restore_10 rfl ?_
    refine zg_X7_now F (by with_reducible assumption) fl_X7_10 dX7_restore_11 (fun hk_11 => ?_)
    refine z_aload_n F dX7_restore_14 rfl ?_
    refine zg_X7_kept F (by with_reducible assumption) fl_X7_16 dX7_restore_15 (fun hk_15 => ?_)
    refine z_callVv F (c_X6_setFrom J (by with_reducible assumption) (by with_reducible assumption) (by omega) hp hp2 (hn h_4) h8) zm_X6_setFrom zv_X6_setFrom ml_X7_222 (by with_reducible assumption) (by decide) rfl rfl rfl (Nat.le_of_ble_eq_true rfl) dX7_restore_18 (by omega) (fun M_18 h_18 => ?_)
    replace h_18 := Eq.symm h_18
    subst h_18
    refine z_iconst (v := 1) F dX7_restore_21 (by decide) ?_
    refine z_iret F X dX7_restore_22 ?_
    exact Or.inr ⟨h_4, rfl, rfl⟩
  · refine z_bipush (v := (-4)) F dX7_restore_7 (by decide) ?_
    refine z_iret F X dX7_restore_9 ?_
    exact Or.inl ⟨h_4, rfl, rfl⟩
